/-! ===== the law: a case a call ===== -/
def LI (a1 a2 : Nat) (A : Nat → Prop) (s : State) (H : Heap) (locs : List Loc) : Prop := ∃ (D : va_G) (cs : Nat → ClassId) (cA : ClassId) (n z : Nat) (ad adM : Nat → Nat) (ρ : Nat → Nat → Int32) (TT τ : Nat → Nat → Nat → Int32) (σ ρM : Nat → Nat → Int32) (T : Tb) (σM : Nat → Nat → Int32), XW D cs ad n ρ TT τ σ A s s.heap H locs ∧ MW D cA adM ρM T σM A s s.heap H locs ∧ (∀ i j, i < 42 + 3 * n → j < 18 → ad i ≠ adM j) ∧ SIM n z (TT 0) (TT 2) τ σ T σM ∧ ad 0 = a1 ∧ adM 0 = a2
def LCase (l : Launch) (pc : Nat) : Prop := ∀ {p : Program} {e : Env} {s : State} {m : MethodId} {below : List Frame} {meth : Method} {c : Code} {Q : State → Prop} {b L i a1 a2 tk : Nat} {adK adV : Nat → Nat} {xs : Nat → Int32} {H : Heap} {locs : List Loc} {ls : Array Slot} {cells slots : Nat}, CallFix p m c cL_law 4 s #[Value.ref b] TBL RL → va_X b L xs s s.heap → b < s.heap.size → XL tk adK adV (fun q : Nat => s.heap.size ≤ q) s → i + 7 ≤ L → L ≤ 3584 → lv_has ls 4 [(3, .int (nI i)), (2, .ref a2), (1, .ref a1), (0, .ref b)] → (cells + 3 ≤ 600000 ∧ slots + 168 ≤ 7302250) → LI a1 a2 (fun q : Nat => s.heap.size ≤ q) s H locs → (∀ (H1 : Heap) (locs1 : List Loc), LI a1 a2 (fun q : Nat => s.heap.size ≤ q) s H1 locs1 → W p l e room_1 s m #[Value.ref b] below meth c H1 locs1 (cells + 3) (slots + 168) Q (F0 m 1458 ls [])) → W p l e room_1 s m #[Value.ref b] below meth c H locs cells slots Q (F0 m pc ls [])
theorem lgc_s (x : Int64) : lg_cmp x x = 0 := by
  unfold lg_cmp
  simp
theorem text_ad {n : Nat} {ad : Nat → Nat} {TT τ : Nat → Nat → Nat → Int32} {σ : Nat → Nat → Int32} {z : Nat} {r : Int32} {u : TxU} (h : textP n ad TT τ σ z r u) : u.2.1 0 = ad 0 := by
  rcases h with ⟨_, _, h⟩ | ⟨_, _, _, _, h, _⟩ | ⟨_, _, _, h⟩
  · rw [h]
  · rw [h]
  · obtain ⟨_, _, _, _, _, _, _, _, _, h⟩ := h; exact h
theorem SIM.mi {n z : Nat} {T0 T2 T : Tb} {τ : Nat → Nat → Nat → Int32} {σ σM : Nat → Nat → Int32} (h : SIM n z T0 T2 τ σ T σM) : ∃ m, m ≤ 999 ∧ T 6 2 = nI m := by
  obtain ⟨m, a, b⟩ := h.1.2.2.2.2.2.2.2.2
  exact ⟨m, a, h.2.1.2.1.symm.trans b⟩
theorem SIM.im {n z : Nat} {T0 T2 T : Tb} {τ : Nat → Nat → Nat → Int32} {σ σM : Nat → Nat → Int32} (h : SIM n z T0 T2 τ σ T σM) : ¬ σ 0 8 = 0 → okT n T2 := fun q => by
  rcases h.2.2.2.2.2 with a | a
  · exact absurd a.1 q
  · exact a.2.2.1
set_option maxHeartbeats 1000000 in
set_option maxRecDepth 100000 in
theorem lc_0 (l : Launch) : LCase l 200 := by
  intro p e s m below meth c Q b L i a1 a2 tk adK adV xs H locs ls cells slots F hXs hbl hXL hi hL hl hcs hI kk
  obtain ⟨hx, hb, hml, hown, hts⟩ := id F
  have hbA : ¬ (fun q : Nat => s.heap.size ≤ q) b := Nat.not_le.mpr hbl
  obtain ⟨D, cs, cA, n, z, ad, adM, ρ, TT, τ, σ, ρM, T, σM, hW, hM, hap, h, rfl, rfl⟩ := hI
  have hE := h.2.1
  have hT := h.hT
  refine lv_aload_n hx hb dL_law_200 rfl (lv_at hl 2 rfl) ?_
  refine lv_aload_n hx hb dL_law_201 rfl (lv_at hl 3 rfl) ?_
  refine lv_iload_n hx hb dL_law_202 rfl (lv_at hl 0 rfl) ?_
  refine lv_iconst (v := 1) hx hb dL_law_203 (by decide) ?_
  refine lv_iadd hx hb dL_law_204 ?_
  refine lv_as (z := nI (i + 1)) (show nI i + (1 : Int32) = nI (i + 1) from nI_add i 1) ?_
  refine va_sld hx hb hXs hbl hbA hW.2.2.2.1 (vp_in_nI (by omega) (by omega)) dL_law_205 ?_
  refine gw_callVi (As := [.int (xs (nI (i + 1)).toNatClampNeg)]) (rest := []) F hl.1 hW (xl_E hXL) XE_E (by omega) xe_0 rfl (kX7_count h.hO) pd_yX7_count ml_RL_13 im_yX7_count se_yX7_count ini_RX7 cd_yX7_count ⟨rfl, rfl⟩ ⟨Nat.le_of_ble_eq_true rfl, Nat.le_of_ble_eq_true rfl⟩ rfl rfl (Nat.le_of_ble_eq_true rfl) ⟨by show cells ≤ 600000; omega, by show slots ≤ 7302250; omega⟩ dL_law_206 (fun r u H1 locs1 hp hX1 _ hk => ?_)
  have hM1 := hM.keep (N2 := 42 + 3 * n) (ad2 := ad) hk hap hX1.2.2.2.1
  refine lv_aload_n hx hb dL_law_209 rfl (lv_at hl 1 rfl) ?_
  refine lv_aload_n hx hb dL_law_210 rfl (lv_at hl 3 rfl) ?_
  refine lv_iload_n hx hb dL_law_211 rfl (lv_at hl 0 rfl) ?_
  refine lv_iconst (v := 1) hx hb dL_law_212 (by decide) ?_
  refine lv_iadd hx hb dL_law_213 ?_
  refine lv_as (z := nI (i + 1)) (show nI i + (1 : Int32) = nI (i + 1) from nI_add i 1) ?_
  refine va_sld hx hb hXs hbl hbA hX1.2.2.2.1 (vp_in_nI (by omega) (by omega)) dL_law_214 ?_
  refine gw_callVi (As := [.int (xs (nI (i + 1)).toNatClampNeg)]) (rest := [.int r]) F hl.1 hM1 (fun _ _ _ => trivial) gw_T_E (by decide) (rfl : ment adM cA _ _ _ 0 = _) rfl (kX8_count h.hTM h.hM) pd_yX8_count ml_RL_17 im_yX8_count se_yX8_count ini_RX8 cd_yX8_count ⟨rfl, rfl⟩ ⟨Nat.le_of_ble_eq_true rfl, Nat.le_of_ble_eq_true rfl⟩ rfl rfl (Nat.le_of_ble_eq_true rfl) ⟨by show cells ≤ 600000; omega, by show slots ≤ 7302250; omega⟩ dL_law_215 (fun r2 u2 H2 locs2 hp2 hM2 _ hk2 => ?_)
  have hX2 := hX1.keep (N2 := 18) (ad2 := adM) hk2 (fun i j hi hj e => hap j i hj hi e.symm) hM2.2.2.2.1
  have he : r = r2 := by rw [hp, hp2.1, h.1.2.2.2.2.1, h.2.2.2.1.2.1, h.2.2.1.2.1, h.2.2.2.1.2.2.1]; exact hE.pcount _ _ _ _
  have hLI : LI (ad 0) (adM 0) (fun q : Nat => s.heap.size ≤ q) s H2 locs2 := ⟨D, cs, cA, n, z, ad, adM, u, TT, τ, σ, u2, T, σM, hX2, hM2, hap, h, rfl, rfl⟩
  refine lv_icmp_eq (tgt := 1458) hx hb dL_law_218 (by decide) (fun _ => ?_) (fun cn => ?_)
  · refine W.widen (k := cells + 3) (n := slots + 168) (Nat.le_add_right _ _) (Nat.le_add_right _ _) ?_
    exact kk H2 locs2 hLI
  · exact absurd he cn
set_option maxHeartbeats 1000000 in
set_option maxRecDepth 100000 in
theorem lc_1 (l : Launch) : LCase l 223 := by
  intro p e s m below meth c Q b L i a1 a2 tk adK adV xs H locs ls cells slots F hXs hbl hXL hi hL hl hcs hI kk
  obtain ⟨hx, hb, hml, hown, hts⟩ := id F
  have hbA : ¬ (fun q : Nat => s.heap.size ≤ q) b := Nat.not_le.mpr hbl
  obtain ⟨D, cs, cA, n, z, ad, adM, ρ, TT, τ, σ, ρM, T, σM, hW, hM, hap, h, rfl, rfl⟩ := hI
  have hE := h.2.1
  have hT := h.hT
  refine lv_aload_n hx hb dL_law_223 rfl (lv_at hl 2 rfl) ?_
  refine lv_aload_n hx hb dL_law_224 rfl (lv_at hl 3 rfl) ?_
  refine lv_iload_n hx hb dL_law_225 rfl (lv_at hl 0 rfl) ?_
  refine lv_iconst (v := 1) hx hb dL_law_226 (by decide) ?_
  refine lv_iadd hx hb dL_law_227 ?_
  refine lv_as (z := nI (i + 1)) (show nI i + (1 : Int32) = nI (i + 1) from nI_add i 1) ?_
  refine va_sld hx hb hXs hbl hbA hW.2.2.2.1 (vp_in_nI (by omega) (by omega)) dL_law_228 ?_
  refine gw_callVi (As := [.int (xs (nI (i + 1)).toNatClampNeg)]) (rest := []) F hl.1 hW (xl_E hXL) XE_E (by omega) xe_0 rfl (kX7_clock) pd_yX7_clock ml_RL_18 im_yX7_clock se_yX7_clock ini_RX7 cd_yX7_clock ⟨rfl, rfl⟩ ⟨Nat.le_of_ble_eq_true rfl, Nat.le_of_ble_eq_true rfl⟩ rfl rfl (Nat.le_of_ble_eq_true rfl) ⟨by show cells ≤ 600000; omega, by show slots ≤ 7302250; omega⟩ dL_law_229 (fun r u H1 locs1 hp hX1 _ hk => ?_)
  have hM1 := hM.keep (N2 := 42 + 3 * n) (ad2 := ad) hk hap hX1.2.2.2.1
  refine lv_aload_n hx hb dL_law_232 rfl (lv_at hl 1 rfl) ?_
  refine lv_aload_n hx hb dL_law_233 rfl (lv_at hl 3 rfl) ?_
  refine lv_iload_n hx hb dL_law_234 rfl (lv_at hl 0 rfl) ?_
  refine lv_iconst (v := 1) hx hb dL_law_235 (by decide) ?_
  refine lv_iadd hx hb dL_law_236 ?_
  refine lv_as (z := nI (i + 1)) (show nI i + (1 : Int32) = nI (i + 1) from nI_add i 1) ?_
  refine va_sld hx hb hXs hbl hbA hX1.2.2.2.1 (vp_in_nI (by omega) (by omega)) dL_law_237 ?_
  refine gw_callVi (As := [.int (xs (nI (i + 1)).toNatClampNeg)]) (rest := [.int r]) F hl.1 hM1 (fun _ _ _ => trivial) gw_T_E (by decide) (rfl : ment adM cA _ _ _ 0 = _) rfl (kX8_clock) pd_yX8_clock ml_RL_21 im_yX8_clock se_yX8_clock ini_RX8 cd_yX8_clock ⟨rfl, rfl⟩ ⟨Nat.le_of_ble_eq_true rfl, Nat.le_of_ble_eq_true rfl⟩ rfl rfl (Nat.le_of_ble_eq_true rfl) ⟨by show cells ≤ 600000; omega, by show slots ≤ 7302250; omega⟩ dL_law_238 (fun r2 u2 H2 locs2 hp2 hM2 _ hk2 => ?_)
  have hX2 := hX1.keep (N2 := 18) (ad2 := adM) hk2 (fun i j hi hj e => hap j i hj hi e.symm) hM2.2.2.2.1
  have he : r = r2 := by rw [hp.1, hp2.1]; exact (hE.pclock _).1
  have hLI : LI (ad 0) (adM 0) (fun q : Nat => s.heap.size ≤ q) s H2 locs2 := ⟨D, cs, cA, n, z, ad, adM, ρ, u, τ, σ, ρM, u2, σM, hX2, hM2, hap, (by rw [hp.2, hp2.2, va_up_self, va_up_ne _ _ (by decide)]; exact sim_T h (st_clock hT h.1.2.2.2.2.2.2.2.2 _) (hE.pclock _).2), rfl, rfl⟩
  refine lv_icmp_eq (tgt := 1458) hx hb dL_law_241 (by decide) (fun _ => ?_) (fun cn => ?_)
  · refine W.widen (k := cells + 3) (n := slots + 168) (Nat.le_add_right _ _) (Nat.le_add_right _ _) ?_
    exact kk H2 locs2 hLI
  · exact absurd he cn
set_option maxHeartbeats 1000000 in
set_option maxRecDepth 100000 in
theorem lc_2 (l : Launch) : LCase l 246 := by
  intro p e s m below meth c Q b L i a1 a2 tk adK adV xs H locs ls cells slots F hXs hbl hXL hi hL hl hcs hI kk
  obtain ⟨hx, hb, hml, hown, hts⟩ := id F
  have hbA : ¬ (fun q : Nat => s.heap.size ≤ q) b := Nat.not_le.mpr hbl
  obtain ⟨D, cs, cA, n, z, ad, adM, ρ, TT, τ, σ, ρM, T, σM, hW, hM, hap, h, rfl, rfl⟩ := hI
  have hE := h.2.1
  have hT := h.hT
  refine lv_aload_n hx hb dL_law_246 rfl (lv_at hl 2 rfl) ?_
  refine lv_aload_n hx hb dL_law_247 rfl (lv_at hl 3 rfl) ?_
  refine lv_iload_n hx hb dL_law_248 rfl (lv_at hl 0 rfl) ?_
  refine lv_iconst (v := 1) hx hb dL_law_249 (by decide) ?_
  refine lv_iadd hx hb dL_law_250 ?_
  refine lv_as (z := nI (i + 1)) (show nI i + (1 : Int32) = nI (i + 1) from nI_add i 1) ?_
  refine va_sld hx hb hXs hbl hbA hW.2.2.2.1 (vp_in_nI (by omega) (by omega)) dL_law_251 ?_
  refine lv_aload_n hx hb dL_law_252 rfl (lv_at hl 3 rfl) ?_
  refine lv_iload_n hx hb dL_law_253 rfl (lv_at hl 0 rfl) ?_
  refine lv_iconst (v := 2) hx hb dL_law_254 (by decide) ?_
  refine lv_iadd hx hb dL_law_255 ?_
  refine lv_as (z := nI (i + 2)) (show nI i + (2 : Int32) = nI (i + 2) from nI_add i 2) ?_
  refine va_sld hx hb hXs hbl hbA hW.2.2.2.1 (vp_in_nI (by omega) (by omega)) dL_law_256 ?_
  refine lv_aload_n hx hb dL_law_257 rfl (lv_at hl 3 rfl) ?_
  refine lv_iload_n hx hb dL_law_258 rfl (lv_at hl 0 rfl) ?_
  refine lv_iconst (v := 3) hx hb dL_law_259 (by decide) ?_
  refine lv_iadd hx hb dL_law_260 ?_
  refine lv_as (z := nI (i + 3)) (show nI i + (3 : Int32) = nI (i + 3) from nI_add i 3) ?_
  refine va_sld hx hb hXs hbl hbA hW.2.2.2.1 (vp_in_nI (by omega) (by omega)) dL_law_261 ?_
  refine lv_aload_n hx hb dL_law_262 rfl (lv_at hl 3 rfl) ?_
  refine lv_iload_n hx hb dL_law_263 rfl (lv_at hl 0 rfl) ?_
  refine lv_iconst (v := 4) hx hb dL_law_264 (by decide) ?_
  refine lv_iadd hx hb dL_law_265 ?_
  refine lv_as (z := nI (i + 4)) (show nI i + (4 : Int32) = nI (i + 4) from nI_add i 4) ?_
  refine va_sld hx hb hXs hbl hbA hW.2.2.2.1 (vp_in_nI (by omega) (by omega)) dL_law_266 ?_
  refine lv_aload_n hx hb dL_law_267 rfl (lv_at hl 3 rfl) ?_
  refine lv_iload_n hx hb dL_law_268 rfl (lv_at hl 0 rfl) ?_
  refine lv_iconst (v := 5) hx hb dL_law_269 (by decide) ?_
  refine lv_iadd hx hb dL_law_270 ?_
  refine lv_as (z := nI (i + 5)) (show nI i + (5 : Int32) = nI (i + 5) from nI_add i 5) ?_
  refine va_sld hx hb hXs hbl hbA hW.2.2.2.1 (vp_in_nI (by omega) (by omega)) dL_law_271 ?_
  refine lv_aload_n hx hb dL_law_272 rfl (lv_at hl 3 rfl) ?_
  refine lv_iload_n hx hb dL_law_273 rfl (lv_at hl 0 rfl) ?_
  refine lv_bipush (v := 6) hx hb dL_law_274 (by decide) ?_
  refine lv_iadd hx hb dL_law_276 ?_
  refine lv_as (z := nI (i + 6)) (show nI i + (6 : Int32) = nI (i + 6) from nI_add i 6) ?_
  refine va_sld hx hb hXs hbl hbA hW.2.2.2.1 (vp_in_nI (by omega) (by omega)) dL_law_277 ?_
  refine gw_callVi (As := [.int (xs (nI (i + 1)).toNatClampNeg), .int (xs (nI (i + 2)).toNatClampNeg), .int (xs (nI (i + 3)).toNatClampNeg), .int (xs (nI (i + 4)).toNatClampNeg), .int (xs (nI (i + 5)).toNatClampNeg), .int (xs (nI (i + 6)).toNatClampNeg)]) (rest := []) F hl.1 hW (xl_E hXL) XE_E (by omega) xe_0 rfl (kX7_feed) pd_yX7_feed ml_RL_22 im_yX7_feed se_yX7_feed ini_RX7 cd_yX7_feed ⟨rfl, rfl⟩ ⟨Nat.le_of_ble_eq_true rfl, Nat.le_of_ble_eq_true rfl⟩ rfl rfl (Nat.le_of_ble_eq_true rfl) ⟨by show cells ≤ 600000; omega, by show slots ≤ 7302250; omega⟩ dL_law_278 (fun r u H1 locs1 hp hX1 _ hk => ?_)
  have hM1 := hM.keep (N2 := 42 + 3 * n) (ad2 := ad) hk hap hX1.2.2.2.1
  refine lv_aload_n hx hb dL_law_281 rfl (lv_at hl 1 rfl) ?_
  refine lv_aload_n hx hb dL_law_282 rfl (lv_at hl 3 rfl) ?_
  refine lv_iload_n hx hb dL_law_283 rfl (lv_at hl 0 rfl) ?_
  refine lv_iconst (v := 1) hx hb dL_law_284 (by decide) ?_
  refine lv_iadd hx hb dL_law_285 ?_
  refine lv_as (z := nI (i + 1)) (show nI i + (1 : Int32) = nI (i + 1) from nI_add i 1) ?_
  refine va_sld hx hb hXs hbl hbA hX1.2.2.2.1 (vp_in_nI (by omega) (by omega)) dL_law_286 ?_
  refine lv_aload_n hx hb dL_law_287 rfl (lv_at hl 3 rfl) ?_
  refine lv_iload_n hx hb dL_law_288 rfl (lv_at hl 0 rfl) ?_
  refine lv_iconst (v := 2) hx hb dL_law_289 (by decide) ?_
  refine lv_iadd hx hb dL_law_290 ?_
  refine lv_as (z := nI (i + 2)) (show nI i + (2 : Int32) = nI (i + 2) from nI_add i 2) ?_
  refine va_sld hx hb hXs hbl hbA hX1.2.2.2.1 (vp_in_nI (by omega) (by omega)) dL_law_291 ?_
  refine lv_aload_n hx hb dL_law_292 rfl (lv_at hl 3 rfl) ?_
  refine lv_iload_n hx hb dL_law_293 rfl (lv_at hl 0 rfl) ?_
  refine lv_iconst (v := 3) hx hb dL_law_294 (by decide) ?_
  refine lv_iadd hx hb dL_law_295 ?_
  refine lv_as (z := nI (i + 3)) (show nI i + (3 : Int32) = nI (i + 3) from nI_add i 3) ?_
  refine va_sld hx hb hXs hbl hbA hX1.2.2.2.1 (vp_in_nI (by omega) (by omega)) dL_law_296 ?_
  refine lv_aload_n hx hb dL_law_297 rfl (lv_at hl 3 rfl) ?_
  refine lv_iload_n hx hb dL_law_298 rfl (lv_at hl 0 rfl) ?_
  refine lv_iconst (v := 4) hx hb dL_law_299 (by decide) ?_
  refine lv_iadd hx hb dL_law_300 ?_
  refine lv_as (z := nI (i + 4)) (show nI i + (4 : Int32) = nI (i + 4) from nI_add i 4) ?_
  refine va_sld hx hb hXs hbl hbA hX1.2.2.2.1 (vp_in_nI (by omega) (by omega)) dL_law_301 ?_
  refine lv_aload_n hx hb dL_law_302 rfl (lv_at hl 3 rfl) ?_
  refine lv_iload_n hx hb dL_law_303 rfl (lv_at hl 0 rfl) ?_
  refine lv_iconst (v := 5) hx hb dL_law_304 (by decide) ?_
  refine lv_iadd hx hb dL_law_305 ?_
  refine lv_as (z := nI (i + 5)) (show nI i + (5 : Int32) = nI (i + 5) from nI_add i 5) ?_
  refine va_sld hx hb hXs hbl hbA hX1.2.2.2.1 (vp_in_nI (by omega) (by omega)) dL_law_306 ?_
  refine lv_aload_n hx hb dL_law_307 rfl (lv_at hl 3 rfl) ?_
  refine lv_iload_n hx hb dL_law_308 rfl (lv_at hl 0 rfl) ?_
  refine lv_bipush (v := 6) hx hb dL_law_309 (by decide) ?_
  refine lv_iadd hx hb dL_law_311 ?_
  refine lv_as (z := nI (i + 6)) (show nI i + (6 : Int32) = nI (i + 6) from nI_add i 6) ?_
  refine va_sld hx hb hXs hbl hbA hX1.2.2.2.1 (vp_in_nI (by omega) (by omega)) dL_law_312 ?_
  refine gw_callVi (As := [.int (xs (nI (i + 1)).toNatClampNeg), .int (xs (nI (i + 2)).toNatClampNeg), .int (xs (nI (i + 3)).toNatClampNeg), .int (xs (nI (i + 4)).toNatClampNeg), .int (xs (nI (i + 5)).toNatClampNeg), .int (xs (nI (i + 6)).toNatClampNeg)]) (rest := [.int r]) F hl.1 hM1 (fun _ _ _ => trivial) gw_T_E (by decide) (rfl : ment adM cA _ _ _ 0 = _) rfl (kX8_feed (χ := σ) (z := z) h.2.2.2.1) pd_yX8_feed ml_RL_26 im_yX8_feed se_yX8_feed ini_RX8 cd_yX8_feed ⟨rfl, rfl⟩ ⟨Nat.le_of_ble_eq_true rfl, Nat.le_of_ble_eq_true rfl⟩ rfl rfl (Nat.le_of_ble_eq_true rfl) ⟨by show cells ≤ 600000; omega, by show slots ≤ 7302250; omega⟩ dL_law_313 (fun r2 u2 H2 locs2 hp2 hM2 _ hk2 => ?_)
  have hX2 := hX1.keep (N2 := 18) (ad2 := adM) hk2 (fun i j hi hj e => hap j i hj hi e.symm) hM2.2.2.2.1
  obtain ⟨z1, hz1⟩ := hp2.2.1
  have he : r = r2 := by rw [hp.1, hp2.1]
  have hLI : LI (ad 0) (adM 0) (fun q : Nat => s.heap.size ≤ q) s H2 locs2 := ⟨D, cs, cA, n, z1, ad, adM, ρ, TT, τ, u, ρM, T, u2, hX2, hM2, hap, (by rw [hp.2]; exact sim_F h (fun o h1 h2 => feedP_ne _ _ _ _ _ _ h1 h2) hz1 hp2.2.2), rfl, rfl⟩
  refine lv_icmp_eq (tgt := 1458) hx hb dL_law_316 (by decide) (fun _ => ?_) (fun cn => ?_)
  · refine W.widen (k := cells + 3) (n := slots + 168) (Nat.le_add_right _ _) (Nat.le_add_right _ _) ?_
    exact kk H2 locs2 hLI
  · exact absurd he cn
set_option maxHeartbeats 1000000 in
set_option maxRecDepth 100000 in
theorem lc_3 (l : Launch) : LCase l 321 := by
  intro p e s m below meth c Q b L i a1 a2 tk adK adV xs H locs ls cells slots F hXs hbl hXL hi hL hl hcs hI kk
  obtain ⟨hx, hb, hml, hown, hts⟩ := id F
  have hbA : ¬ (fun q : Nat => s.heap.size ≤ q) b := Nat.not_le.mpr hbl
  obtain ⟨D, cs, cA, n, z, ad, adM, ρ, TT, τ, σ, ρM, T, σM, hW, hM, hap, h, rfl, rfl⟩ := hI
  have hE := h.2.1
  have hT := h.hT
  refine lv_aload_n hx hb dL_law_321 rfl (lv_at hl 2 rfl) ?_
  refine va_calli (va_runV (As := []) (rest := []) F (kX7_text (adK := adK) (adV := adV) h.2.2.2.1.2.1 h.2.2.2.1.1 h.1.2.1 h.1.2.2.2.2.1 hT.2.2.1 h.1.2.2.2.2.2.2.2.1) ⟨callB_of (Ts := TBL) 0 F.2.2.2.2 (good_WSm cd_yX7_text) rfl rfl rfl (by rw [pd_yX7_text.1]; exact F.2.2.2.2 _ ini_RX7) (F.2.2.2.2 _ ml_RL_27) pd_yX7_text.2 ⟨Nat.le_of_ble_eq_true rfl, Nat.le_of_ble_eq_true rfl⟩, F.2.2.2.2 _ im_yX7_text, F.2.2.2.2 _ se_yX7_text⟩ ⟨gw_blind XT_E, va_recv hW.2.1 hW.1 (rfl : vwCl[7]? = some _) ((gw_get (o := 0) (by omega)).trans (by rw [xe_0])), gw_pre hW (xl_T hXL hW)⟩ rfl rfl hl.1 rfl (lv_room (Nat.le_of_ble_eq_true rfl)) dL_law_322 hcs) hW.2.2.2.1 (fun x _ hq => hW.free x hq) hW.free (fun r u t H1 locs1 ht _ hp hB _ hk hS1 => ?_)
  have hX1 : XW D cs u.2.1 u.1 ρ u.2.2.1 u.2.2.2.1 u.2.2.2.2 (fun q : Nat => s.heap.size ≤ q) s s.heap H1 locs1 := ⟨by rw [← ht]; exact hB.1, hW.2.1, ⟨hB.2.1, fun k x hx => hW.free _ (hB.2.2 k x hx)⟩, hS1, hW.2.2.2.2⟩
  have hap1 : ∀ i j, i < 42 + 3 * u.1 → j < 18 → u.2.1 i ≠ adM j := fun i j hi hj e => by
    have hlt : adM j < H.size := (hM.1 j _ (gw_get hj)).lt
    have hg : gw_A (42 + 3 * n) ad H.size (u.2.1 i) := hB.2.2 i _ (gw_get hi)
    rcases hg with ⟨o, ho, e2⟩ | hg
    · exact hap o j ho hj (e2.symm.trans e)
    · rw [e] at hg; omega
  have hM1 := hM.keep (N2 := 42 + 3 * n) (ad2 := ad) hk hap hX1.2.2.2.1
  refine lv_aload_n hx hb dL_law_325 rfl (lv_at hl 1 rfl) ?_
  refine gw_callVi (As := []) (rest := [.int r]) F hl.1 hM1 (fun _ _ _ => trivial) gw_T_E (by decide) (rfl : ment adM cA _ _ _ 0 = _) rfl (kX8_text (β := σ 2) (n := n) (z := z) (m0 := σ 1 5) h.2.2.1.2.1 h.1.2.1 h.2.2.2.1.2.2.1 h.2.2.2.1.1 h.2.2.2.1.2.2.2 h.2.2.1.2.2) pd_yX8_text ml_RL_31 im_yX8_text se_yX8_text ini_RX8 cd_yX8_text ⟨rfl, rfl⟩ ⟨Nat.le_of_ble_eq_true rfl, Nat.le_of_ble_eq_true rfl⟩ rfl rfl (Nat.le_of_ble_eq_true rfl) ⟨hcs.1, hcs.2⟩ dL_law_326 (fun r2 u2 H2 locs2 hp2 hM2 _ hk2 => ?_)
  have hX2 := hX1.keep (N2 := 18) (ad2 := adM) hk2 (fun i j hi hj e => hap1 j i hj hi e.symm) hM2.2.2.2.1
  obtain ⟨z1, hs1⟩ := (sim_X h hp hp2).2
  have he : r = r2 := (sim_X h hp hp2).1
  have hLI : LI (ad 0) (adM 0) (fun q : Nat => s.heap.size ≤ q) s H2 locs2 := ⟨D, cs, cA, u.1, z1, u.2.1, adM, ρ, u.2.2.1, u.2.2.2.1, u.2.2.2.2, ρM, T, u2, hX2, hM2, hap1, hs1, (text_ad hp), rfl⟩
  refine lv_icmp_eq (tgt := 1458) hx hb dL_law_329 (by decide) (fun _ => ?_) (fun cn => ?_)
  · exact kk H2 locs2 hLI
  · exact absurd he cn
set_option maxHeartbeats 1000000 in
set_option maxRecDepth 100000 in
theorem lc_4 (l : Launch) : LCase l 334 := by
  intro p e s m below meth c Q b L i a1 a2 tk adK adV xs H locs ls cells slots F hXs hbl hXL hi hL hl hcs hI kk
  obtain ⟨hx, hb, hml, hown, hts⟩ := id F
  have hbA : ¬ (fun q : Nat => s.heap.size ≤ q) b := Nat.not_le.mpr hbl
  obtain ⟨D, cs, cA, n, z, ad, adM, ρ, TT, τ, σ, ρM, T, σM, hW, hM, hap, h, rfl, rfl⟩ := hI
  have hE := h.2.1
  have hT := h.hT
  refine lv_aload_n hx hb dL_law_334 rfl (lv_at hl 2 rfl) ?_
  refine lv_aload_n hx hb dL_law_335 rfl (lv_at hl 3 rfl) ?_
  refine lv_iload_n hx hb dL_law_336 rfl (lv_at hl 0 rfl) ?_
  refine lv_iconst (v := 1) hx hb dL_law_337 (by decide) ?_
  refine lv_iadd hx hb dL_law_338 ?_
  refine lv_as (z := nI (i + 1)) (show nI i + (1 : Int32) = nI (i + 1) from nI_add i 1) ?_
  refine va_sld hx hb hXs hbl hbA hW.2.2.2.1 (vp_in_nI (by omega) (by omega)) dL_law_339 ?_
  refine gw_callVi (As := [.int (xs (nI (i + 1)).toNatClampNeg)]) (rest := []) F hl.1 hW (xl_E hXL) XE_E (by omega) xe_0 rfl (kX7_force h.hO) pd_yX7_force ml_RL_32 im_yX7_force se_yX7_force ini_RX7 cd_yX7_force ⟨rfl, rfl⟩ ⟨Nat.le_of_ble_eq_true rfl, Nat.le_of_ble_eq_true rfl⟩ rfl rfl (Nat.le_of_ble_eq_true rfl) ⟨by show cells ≤ 600000; omega, by show slots ≤ 7302250; omega⟩ dL_law_340 (fun r u H1 locs1 hp hX1 _ hk => ?_)
  have hM1 := hM.keep (N2 := 42 + 3 * n) (ad2 := ad) hk hap hX1.2.2.2.1
  refine lv_aload_n hx hb dL_law_343 rfl (lv_at hl 1 rfl) ?_
  refine lv_aload_n hx hb dL_law_344 rfl (lv_at hl 3 rfl) ?_
  refine lv_iload_n hx hb dL_law_345 rfl (lv_at hl 0 rfl) ?_
  refine lv_iconst (v := 1) hx hb dL_law_346 (by decide) ?_
  refine lv_iadd hx hb dL_law_347 ?_
  refine lv_as (z := nI (i + 1)) (show nI i + (1 : Int32) = nI (i + 1) from nI_add i 1) ?_
  refine va_sld hx hb hXs hbl hbA hX1.2.2.2.1 (vp_in_nI (by omega) (by omega)) dL_law_348 ?_
  refine gw_callVi (As := [.int (xs (nI (i + 1)).toNatClampNeg)]) (rest := [.int r]) F hl.1 hM1 (fun _ _ _ => trivial) gw_T_E (by decide) (rfl : ment adM cA _ _ _ 0 = _) rfl (kX8_force h.1.2.1 h.2.2.1.2.1) pd_yX8_force ml_RL_35 im_yX8_force se_yX8_force ini_RX8 cd_yX8_force ⟨rfl, rfl⟩ ⟨Nat.le_of_ble_eq_true rfl, Nat.le_of_ble_eq_true rfl⟩ rfl rfl (Nat.le_of_ble_eq_true rfl) ⟨by show cells ≤ 600000; omega, by show slots ≤ 7302250; omega⟩ dL_law_349 (fun r2 u2 H2 locs2 hp2 hM2 _ hk2 => ?_)
  have hX2 := hX1.keep (N2 := 18) (ad2 := adM) hk2 (fun i j hi hj e => hap j i hj hi e.symm) hM2.2.2.2.1
  rw [h.1.2.2.2.2.1] at hp
  have he : r = r2 := by rw [hp.1, hp2.1]; exact (hE.pforce _ _).1
  have hLI : LI (ad 0) (adM 0) (fun q : Nat => s.heap.size ≤ q) s H2 locs2 := ⟨D, cs, cA, n, z, ad, adM, ρ, u, τ, σ, ρM, u2, σM, hX2, hM2, hap, (by rw [hp.2, hp2.2, va_up_self, va_up_ne _ _ (by decide)]; exact sim_T h (st_force hT h.1.2.2.2.2.2.2.2.2 h.1.2.1 _) (hE.pforce _ _).2), rfl, rfl⟩
  refine lv_icmp_eq (tgt := 1458) hx hb dL_law_352 (by decide) (fun _ => ?_) (fun cn => ?_)
  · refine W.widen (k := cells + 3) (n := slots + 168) (Nat.le_add_right _ _) (Nat.le_add_right _ _) ?_
    exact kk H2 locs2 hLI
  · exact absurd he cn
set_option maxHeartbeats 1000000 in
set_option maxRecDepth 100000 in
theorem lc_5 (l : Launch) : LCase l 357 := by
  intro p e s m below meth c Q b L i a1 a2 tk adK adV xs H locs ls cells slots F hXs hbl hXL hi hL hl hcs hI kk
  obtain ⟨hx, hb, hml, hown, hts⟩ := id F
  have hbA : ¬ (fun q : Nat => s.heap.size ≤ q) b := Nat.not_le.mpr hbl
  obtain ⟨D, cs, cA, n, z, ad, adM, ρ, TT, τ, σ, ρM, T, σM, hW, hM, hap, h, rfl, rfl⟩ := hI
  have hE := h.2.1
  have hT := h.hT
  refine lv_aload_n hx hb dL_law_357 rfl (lv_at hl 2 rfl) ?_
  refine lv_aload_n hx hb dL_law_358 rfl (lv_at hl 3 rfl) ?_
  refine lv_iload_n hx hb dL_law_359 rfl (lv_at hl 0 rfl) ?_
  refine lv_iconst (v := 1) hx hb dL_law_360 (by decide) ?_
  refine lv_iadd hx hb dL_law_361 ?_
  refine lv_as (z := nI (i + 1)) (show nI i + (1 : Int32) = nI (i + 1) from nI_add i 1) ?_
  refine va_sld hx hb hXs hbl hbA hW.2.2.2.1 (vp_in_nI (by omega) (by omega)) dL_law_362 ?_
  refine lv_aload_n hx hb dL_law_363 rfl (lv_at hl 3 rfl) ?_
  refine lv_iload_n hx hb dL_law_364 rfl (lv_at hl 0 rfl) ?_
  refine lv_iconst (v := 2) hx hb dL_law_365 (by decide) ?_
  refine lv_iadd hx hb dL_law_366 ?_
  refine lv_as (z := nI (i + 2)) (show nI i + (2 : Int32) = nI (i + 2) from nI_add i 2) ?_
  refine va_sld hx hb hXs hbl hbA hW.2.2.2.1 (vp_in_nI (by omega) (by omega)) dL_law_367 ?_
  refine gw_callVi (As := [.int (xs (nI (i + 1)).toNatClampNeg), .int (xs (nI (i + 2)).toNatClampNeg)]) (rest := []) F hl.1 hW (xl_E hXL) XE_E (by omega) xe_0 rfl (kX7_asks h.hO) pd_yX7_asks ml_RL_36 im_yX7_asks se_yX7_asks ini_RX7 cd_yX7_asks ⟨rfl, rfl⟩ ⟨Nat.le_of_ble_eq_true rfl, Nat.le_of_ble_eq_true rfl⟩ rfl rfl (Nat.le_of_ble_eq_true rfl) ⟨by show cells ≤ 600000; omega, by show slots ≤ 7302250; omega⟩ dL_law_368 (fun r u H1 locs1 hp hX1 _ hk => ?_)
  have hM1 := hM.keep (N2 := 42 + 3 * n) (ad2 := ad) hk hap hX1.2.2.2.1
  refine lv_aload_n hx hb dL_law_371 rfl (lv_at hl 1 rfl) ?_
  refine lv_aload_n hx hb dL_law_372 rfl (lv_at hl 3 rfl) ?_
  refine lv_iload_n hx hb dL_law_373 rfl (lv_at hl 0 rfl) ?_
  refine lv_iconst (v := 1) hx hb dL_law_374 (by decide) ?_
  refine lv_iadd hx hb dL_law_375 ?_
  refine lv_as (z := nI (i + 1)) (show nI i + (1 : Int32) = nI (i + 1) from nI_add i 1) ?_
  refine va_sld hx hb hXs hbl hbA hX1.2.2.2.1 (vp_in_nI (by omega) (by omega)) dL_law_376 ?_
  refine lv_aload_n hx hb dL_law_377 rfl (lv_at hl 3 rfl) ?_
  refine lv_iload_n hx hb dL_law_378 rfl (lv_at hl 0 rfl) ?_
  refine lv_iconst (v := 2) hx hb dL_law_379 (by decide) ?_
  refine lv_iadd hx hb dL_law_380 ?_
  refine lv_as (z := nI (i + 2)) (show nI i + (2 : Int32) = nI (i + 2) from nI_add i 2) ?_
  refine va_sld hx hb hXs hbl hbA hX1.2.2.2.1 (vp_in_nI (by omega) (by omega)) dL_law_381 ?_
  refine gw_callVi (As := [.int (xs (nI (i + 1)).toNatClampNeg), .int (xs (nI (i + 2)).toNatClampNeg)]) (rest := [.int r]) F hl.1 hM1 (fun _ _ _ => trivial) gw_T_E (by decide) (rfl : ment adM cA _ _ _ 0 = _) rfl (kX8_asks h.hTM h.hM) pd_yX8_asks ml_RL_40 im_yX8_asks se_yX8_asks ini_RX8 cd_yX8_asks ⟨rfl, rfl⟩ ⟨Nat.le_of_ble_eq_true rfl, Nat.le_of_ble_eq_true rfl⟩ rfl rfl (Nat.le_of_ble_eq_true rfl) ⟨by show cells ≤ 600000; omega, by show slots ≤ 7302250; omega⟩ dL_law_382 (fun r2 u2 H2 locs2 hp2 hM2 _ hk2 => ?_)
  have hX2 := hX1.keep (N2 := 18) (ad2 := adM) hk2 (fun i j hi hj e => hap j i hj hi e.symm) hM2.2.2.2.1
  have he : r = r2 := by rw [hp, hp2.1]; exact hE.pasks hT (xLx n τ) _ _
  have hLI : LI (ad 0) (adM 0) (fun q : Nat => s.heap.size ≤ q) s H2 locs2 := ⟨D, cs, cA, n, z, ad, adM, u, TT, τ, σ, u2, T, σM, hX2, hM2, hap, h, rfl, rfl⟩
  refine lv_icmp_eq (tgt := 1458) hx hb dL_law_385 (by decide) (fun _ => ?_) (fun cn => ?_)
  · refine W.widen (k := cells + 3) (n := slots + 168) (Nat.le_add_right _ _) (Nat.le_add_right _ _) ?_
    exact kk H2 locs2 hLI
  · exact absurd he cn
set_option maxHeartbeats 1000000 in
set_option maxRecDepth 100000 in
theorem lc_6 (l : Launch) : LCase l 390 := by
  intro p e s m below meth c Q b L i a1 a2 tk adK adV xs H locs ls cells slots F hXs hbl hXL hi hL hl hcs hI kk
  obtain ⟨hx, hb, hml, hown, hts⟩ := id F
  have hbA : ¬ (fun q : Nat => s.heap.size ≤ q) b := Nat.not_le.mpr hbl
  obtain ⟨D, cs, cA, n, z, ad, adM, ρ, TT, τ, σ, ρM, T, σM, hW, hM, hap, h, rfl, rfl⟩ := hI
  have hE := h.2.1
  have hT := h.hT
  refine lv_aload_n hx hb dL_law_390 rfl (lv_at hl 2 rfl) ?_
  refine lv_aload_n hx hb dL_law_391 rfl (lv_at hl 3 rfl) ?_
  refine lv_iload_n hx hb dL_law_392 rfl (lv_at hl 0 rfl) ?_
  refine lv_iconst (v := 1) hx hb dL_law_393 (by decide) ?_
  refine lv_iadd hx hb dL_law_394 ?_
  refine lv_as (z := nI (i + 1)) (show nI i + (1 : Int32) = nI (i + 1) from nI_add i 1) ?_
  refine va_sld hx hb hXs hbl hbA hW.2.2.2.1 (vp_in_nI (by omega) (by omega)) dL_law_395 ?_
  refine lv_aload_n hx hb dL_law_396 rfl (lv_at hl 3 rfl) ?_
  refine lv_iload_n hx hb dL_law_397 rfl (lv_at hl 0 rfl) ?_
  refine lv_iconst (v := 2) hx hb dL_law_398 (by decide) ?_
  refine lv_iadd hx hb dL_law_399 ?_
  refine lv_as (z := nI (i + 2)) (show nI i + (2 : Int32) = nI (i + 2) from nI_add i 2) ?_
  refine va_sld hx hb hXs hbl hbA hW.2.2.2.1 (vp_in_nI (by omega) (by omega)) dL_law_400 ?_
  refine lv_aload_n hx hb dL_law_401 rfl (lv_at hl 3 rfl) ?_
  refine lv_iload_n hx hb dL_law_402 rfl (lv_at hl 0 rfl) ?_
  refine lv_iconst (v := 3) hx hb dL_law_403 (by decide) ?_
  refine lv_iadd hx hb dL_law_404 ?_
  refine lv_as (z := nI (i + 3)) (show nI i + (3 : Int32) = nI (i + 3) from nI_add i 3) ?_
  refine va_sld hx hb hXs hbl hbA hW.2.2.2.1 (vp_in_nI (by omega) (by omega)) dL_law_405 ?_
  refine gw_callVi (As := [.int (xs (nI (i + 1)).toNatClampNeg), .int (xs (nI (i + 2)).toNatClampNeg), .int (xs (nI (i + 3)).toNatClampNeg)]) (rest := []) F hl.1 hW (xl_E hXL) XE_E (by omega) xe_0 rfl (kX7_guest h.hO) pd_yX7_guest ml_RL_41 im_yX7_guest se_yX7_guest ini_RX7 cd_yX7_guest ⟨rfl, rfl⟩ ⟨Nat.le_of_ble_eq_true rfl, Nat.le_of_ble_eq_true rfl⟩ rfl rfl (Nat.le_of_ble_eq_true rfl) ⟨by show cells ≤ 600000; omega, by show slots ≤ 7302250; omega⟩ dL_law_406 (fun r u H1 locs1 hp hX1 _ hk => ?_)
  have hM1 := hM.keep (N2 := 42 + 3 * n) (ad2 := ad) hk hap hX1.2.2.2.1
  refine lv_aload_n hx hb dL_law_409 rfl (lv_at hl 1 rfl) ?_
  refine lv_aload_n hx hb dL_law_410 rfl (lv_at hl 3 rfl) ?_
  refine lv_iload_n hx hb dL_law_411 rfl (lv_at hl 0 rfl) ?_
  refine lv_iconst (v := 1) hx hb dL_law_412 (by decide) ?_
  refine lv_iadd hx hb dL_law_413 ?_
  refine lv_as (z := nI (i + 1)) (show nI i + (1 : Int32) = nI (i + 1) from nI_add i 1) ?_
  refine va_sld hx hb hXs hbl hbA hX1.2.2.2.1 (vp_in_nI (by omega) (by omega)) dL_law_414 ?_
  refine lv_aload_n hx hb dL_law_415 rfl (lv_at hl 3 rfl) ?_
  refine lv_iload_n hx hb dL_law_416 rfl (lv_at hl 0 rfl) ?_
  refine lv_iconst (v := 2) hx hb dL_law_417 (by decide) ?_
  refine lv_iadd hx hb dL_law_418 ?_
  refine lv_as (z := nI (i + 2)) (show nI i + (2 : Int32) = nI (i + 2) from nI_add i 2) ?_
  refine va_sld hx hb hXs hbl hbA hX1.2.2.2.1 (vp_in_nI (by omega) (by omega)) dL_law_419 ?_
  refine lv_aload_n hx hb dL_law_420 rfl (lv_at hl 3 rfl) ?_
  refine lv_iload_n hx hb dL_law_421 rfl (lv_at hl 0 rfl) ?_
  refine lv_iconst (v := 3) hx hb dL_law_422 (by decide) ?_
  refine lv_iadd hx hb dL_law_423 ?_
  refine lv_as (z := nI (i + 3)) (show nI i + (3 : Int32) = nI (i + 3) from nI_add i 3) ?_
  refine va_sld hx hb hXs hbl hbA hX1.2.2.2.1 (vp_in_nI (by omega) (by omega)) dL_law_424 ?_
  refine gw_callVi (As := [.int (xs (nI (i + 1)).toNatClampNeg), .int (xs (nI (i + 2)).toNatClampNeg), .int (xs (nI (i + 3)).toNatClampNeg)]) (rest := [.int r]) F hl.1 hM1 (fun _ _ _ => trivial) gw_T_E (by decide) (rfl : ment adM cA _ _ _ 0 = _) rfl (kX8_guest h.hTM) pd_yX8_guest ml_RL_45 im_yX8_guest se_yX8_guest ini_RX8 cd_yX8_guest ⟨rfl, rfl⟩ ⟨Nat.le_of_ble_eq_true rfl, Nat.le_of_ble_eq_true rfl⟩ rfl rfl (Nat.le_of_ble_eq_true rfl) ⟨by show cells ≤ 600000; omega, by show slots ≤ 7302250; omega⟩ dL_law_425 (fun r2 u2 H2 locs2 hp2 hM2 _ hk2 => ?_)
  have hX2 := hX1.keep (N2 := 18) (ad2 := adM) hk2 (fun i j hi hj e => hap j i hj hi e.symm) hM2.2.2.2.1
  have he : r = r2 := by rw [hp.1, hp2.1]; exact (hE.pguest hT _ _ _).1
  have hLI : LI (ad 0) (adM 0) (fun q : Nat => s.heap.size ≤ q) s H2 locs2 := ⟨D, cs, cA, n, z, ad, adM, ρ, u, τ, σ, ρM, u2, σM, hX2, hM2, hap, (by rw [hp.2, hp2.2, va_up_self, va_up_ne _ _ (by decide)]; exact sim_T h (st_guest hT h.1.2.2.2.2.2.2.2.2 _ _ _) (hE.pguest hT _ _ _).2), rfl, rfl⟩
  refine lv_icmp_eq (tgt := 1458) hx hb dL_law_428 (by decide) (fun _ => ?_) (fun cn => ?_)
  · refine W.widen (k := cells + 3) (n := slots + 168) (Nat.le_add_right _ _) (Nat.le_add_right _ _) ?_
    exact kk H2 locs2 hLI
  · exact absurd he cn
set_option maxHeartbeats 1000000 in
set_option maxRecDepth 100000 in
theorem lc_7 (l : Launch) : LCase l 433 := by
  intro p e s m below meth c Q b L i a1 a2 tk adK adV xs H locs ls cells slots F hXs hbl hXL hi hL hl hcs hI kk
  obtain ⟨hx, hb, hml, hown, hts⟩ := id F
  have hbA : ¬ (fun q : Nat => s.heap.size ≤ q) b := Nat.not_le.mpr hbl
  obtain ⟨D, cs, cA, n, z, ad, adM, ρ, TT, τ, σ, ρM, T, σM, hW, hM, hap, h, rfl, rfl⟩ := hI
  have hE := h.2.1
  have hT := h.hT
  refine lv_aload_n hx hb dL_law_433 rfl (lv_at hl 2 rfl) ?_
  refine lv_aload_n hx hb dL_law_434 rfl (lv_at hl 3 rfl) ?_
  refine lv_iload_n hx hb dL_law_435 rfl (lv_at hl 0 rfl) ?_
  refine lv_iconst (v := 1) hx hb dL_law_436 (by decide) ?_
  refine lv_iadd hx hb dL_law_437 ?_
  refine lv_as (z := nI (i + 1)) (show nI i + (1 : Int32) = nI (i + 1) from nI_add i 1) ?_
  refine va_sld hx hb hXs hbl hbA hW.2.2.2.1 (vp_in_nI (by omega) (by omega)) dL_law_438 ?_
  refine lv_aload_n hx hb dL_law_439 rfl (lv_at hl 3 rfl) ?_
  refine lv_iload_n hx hb dL_law_440 rfl (lv_at hl 0 rfl) ?_
  refine lv_iconst (v := 2) hx hb dL_law_441 (by decide) ?_
  refine lv_iadd hx hb dL_law_442 ?_
  refine lv_as (z := nI (i + 2)) (show nI i + (2 : Int32) = nI (i + 2) from nI_add i 2) ?_
  refine va_sld hx hb hXs hbl hbA hW.2.2.2.1 (vp_in_nI (by omega) (by omega)) dL_law_443 ?_
  refine lv_aload_n hx hb dL_law_444 rfl (lv_at hl 3 rfl) ?_
  refine lv_iload_n hx hb dL_law_445 rfl (lv_at hl 0 rfl) ?_
  refine lv_iconst (v := 3) hx hb dL_law_446 (by decide) ?_
  refine lv_iadd hx hb dL_law_447 ?_
  refine lv_as (z := nI (i + 3)) (show nI i + (3 : Int32) = nI (i + 3) from nI_add i 3) ?_
  refine va_sld hx hb hXs hbl hbA hW.2.2.2.1 (vp_in_nI (by omega) (by omega)) dL_law_448 ?_
  refine gw_callVi (As := [.int (xs (nI (i + 1)).toNatClampNeg), .int (xs (nI (i + 2)).toNatClampNeg), .int (xs (nI (i + 3)).toNatClampNeg)]) (rest := []) F hl.1 hW (xl_E hXL) XE_E (by omega) xe_0 rfl (kX7_put h.hO) pd_yX7_put ml_RL_46 im_yX7_put se_yX7_put ini_RX7 cd_yX7_put ⟨rfl, rfl⟩ ⟨Nat.le_of_ble_eq_true rfl, Nat.le_of_ble_eq_true rfl⟩ rfl rfl (Nat.le_of_ble_eq_true rfl) ⟨by show cells ≤ 600000; omega, by show slots ≤ 7302250; omega⟩ dL_law_449 (fun r u H1 locs1 hp hX1 _ hk => ?_)
  have hM1 := hM.keep (N2 := 42 + 3 * n) (ad2 := ad) hk hap hX1.2.2.2.1
  refine lv_aload_n hx hb dL_law_452 rfl (lv_at hl 1 rfl) ?_
  refine lv_aload_n hx hb dL_law_453 rfl (lv_at hl 3 rfl) ?_
  refine lv_iload_n hx hb dL_law_454 rfl (lv_at hl 0 rfl) ?_
  refine lv_iconst (v := 1) hx hb dL_law_455 (by decide) ?_
  refine lv_iadd hx hb dL_law_456 ?_
  refine lv_as (z := nI (i + 1)) (show nI i + (1 : Int32) = nI (i + 1) from nI_add i 1) ?_
  refine va_sld hx hb hXs hbl hbA hX1.2.2.2.1 (vp_in_nI (by omega) (by omega)) dL_law_457 ?_
  refine lv_aload_n hx hb dL_law_458 rfl (lv_at hl 3 rfl) ?_
  refine lv_iload_n hx hb dL_law_459 rfl (lv_at hl 0 rfl) ?_
  refine lv_iconst (v := 2) hx hb dL_law_460 (by decide) ?_
  refine lv_iadd hx hb dL_law_461 ?_
  refine lv_as (z := nI (i + 2)) (show nI i + (2 : Int32) = nI (i + 2) from nI_add i 2) ?_
  refine va_sld hx hb hXs hbl hbA hX1.2.2.2.1 (vp_in_nI (by omega) (by omega)) dL_law_462 ?_
  refine lv_aload_n hx hb dL_law_463 rfl (lv_at hl 3 rfl) ?_
  refine lv_iload_n hx hb dL_law_464 rfl (lv_at hl 0 rfl) ?_
  refine lv_iconst (v := 3) hx hb dL_law_465 (by decide) ?_
  refine lv_iadd hx hb dL_law_466 ?_
  refine lv_as (z := nI (i + 3)) (show nI i + (3 : Int32) = nI (i + 3) from nI_add i 3) ?_
  refine va_sld hx hb hXs hbl hbA hX1.2.2.2.1 (vp_in_nI (by omega) (by omega)) dL_law_467 ?_
  refine gw_callVi (As := [.int (xs (nI (i + 1)).toNatClampNeg), .int (xs (nI (i + 2)).toNatClampNeg), .int (xs (nI (i + 3)).toNatClampNeg)]) (rest := [.int r]) F hl.1 hM1 (fun _ _ _ => trivial) gw_T_E (by decide) (rfl : ment adM cA _ _ _ 0 = _) rfl (kX8_put h.hTM) pd_yX8_put ml_RL_49 im_yX8_put se_yX8_put ini_RX8 cd_yX8_put ⟨rfl, rfl⟩ ⟨Nat.le_of_ble_eq_true rfl, Nat.le_of_ble_eq_true rfl⟩ rfl rfl (Nat.le_of_ble_eq_true rfl) ⟨by show cells ≤ 600000; omega, by show slots ≤ 7302250; omega⟩ dL_law_468 (fun r2 u2 H2 locs2 hp2 hM2 _ hk2 => ?_)
  have hX2 := hX1.keep (N2 := 18) (ad2 := adM) hk2 (fun i j hi hj e => hap j i hj hi e.symm) hM2.2.2.2.1
  have he : r = r2 := by rw [hp.1, hp2.1]; exact (hE.pput hT _ _ _).1
  have hLI : LI (ad 0) (adM 0) (fun q : Nat => s.heap.size ≤ q) s H2 locs2 := ⟨D, cs, cA, n, z, ad, adM, ρ, u, τ, σ, ρM, u2, σM, hX2, hM2, hap, (by rw [hp.2, hp2.2, va_up_self, va_up_ne _ _ (by decide)]; exact sim_T h (st_put hT h.1.2.2.2.2.2.2.2.2 _ _ _) (hE.pput hT _ _ _).2), rfl, rfl⟩
  refine lv_icmp_eq (tgt := 1458) hx hb dL_law_471 (by decide) (fun _ => ?_) (fun cn => ?_)
  · refine W.widen (k := cells + 3) (n := slots + 168) (Nat.le_add_right _ _) (Nat.le_add_right _ _) ?_
    exact kk H2 locs2 hLI
  · exact absurd he cn
set_option maxHeartbeats 1000000 in
set_option maxRecDepth 100000 in
theorem lc_8 (l : Launch) : LCase l 476 := by
  intro p e s m below meth c Q b L i a1 a2 tk adK adV xs H locs ls cells slots F hXs hbl hXL hi hL hl hcs hI kk
  obtain ⟨hx, hb, hml, hown, hts⟩ := id F
  have hbA : ¬ (fun q : Nat => s.heap.size ≤ q) b := Nat.not_le.mpr hbl
  obtain ⟨D, cs, cA, n, z, ad, adM, ρ, TT, τ, σ, ρM, T, σM, hW, hM, hap, h, rfl, rfl⟩ := hI
  have hE := h.2.1
  have hT := h.hT
  refine lv_aload_n hx hb dL_law_476 rfl (lv_at hl 2 rfl) ?_
  refine lv_aload_n hx hb dL_law_477 rfl (lv_at hl 3 rfl) ?_
  refine lv_iload_n hx hb dL_law_478 rfl (lv_at hl 0 rfl) ?_
  refine lv_iconst (v := 1) hx hb dL_law_479 (by decide) ?_
  refine lv_iadd hx hb dL_law_480 ?_
  refine lv_as (z := nI (i + 1)) (show nI i + (1 : Int32) = nI (i + 1) from nI_add i 1) ?_
  refine va_sld hx hb hXs hbl hbA hW.2.2.2.1 (vp_in_nI (by omega) (by omega)) dL_law_481 ?_
  refine lv_aload_n hx hb dL_law_482 rfl (lv_at hl 3 rfl) ?_
  refine lv_iload_n hx hb dL_law_483 rfl (lv_at hl 0 rfl) ?_
  refine lv_iconst (v := 2) hx hb dL_law_484 (by decide) ?_
  refine lv_iadd hx hb dL_law_485 ?_
  refine lv_as (z := nI (i + 2)) (show nI i + (2 : Int32) = nI (i + 2) from nI_add i 2) ?_
  refine va_sld hx hb hXs hbl hbA hW.2.2.2.1 (vp_in_nI (by omega) (by omega)) dL_law_486 ?_
  refine gw_callVi (As := [.int (xs (nI (i + 1)).toNatClampNeg), .int (xs (nI (i + 2)).toNatClampNeg)]) (rest := []) F hl.1 hW (xl_E hXL) XE_E (by omega) xe_0 rfl (kX7_told h.hO) pd_yX7_told ml_RL_50 im_yX7_told se_yX7_told ini_RX7 cd_yX7_told ⟨rfl, rfl⟩ ⟨Nat.le_of_ble_eq_true rfl, Nat.le_of_ble_eq_true rfl⟩ rfl rfl (Nat.le_of_ble_eq_true rfl) ⟨by show cells ≤ 600000; omega, by show slots ≤ 7302250; omega⟩ dL_law_487 (fun r u H1 locs1 hp hX1 _ hk => ?_)
  have hM1 := hM.keep (N2 := 42 + 3 * n) (ad2 := ad) hk hap hX1.2.2.2.1
  refine lv_aload_n hx hb dL_law_490 rfl (lv_at hl 1 rfl) ?_
  refine lv_aload_n hx hb dL_law_491 rfl (lv_at hl 3 rfl) ?_
  refine lv_iload_n hx hb dL_law_492 rfl (lv_at hl 0 rfl) ?_
  refine lv_iconst (v := 1) hx hb dL_law_493 (by decide) ?_
  refine lv_iadd hx hb dL_law_494 ?_
  refine lv_as (z := nI (i + 1)) (show nI i + (1 : Int32) = nI (i + 1) from nI_add i 1) ?_
  refine va_sld hx hb hXs hbl hbA hX1.2.2.2.1 (vp_in_nI (by omega) (by omega)) dL_law_495 ?_
  refine lv_aload_n hx hb dL_law_496 rfl (lv_at hl 3 rfl) ?_
  refine lv_iload_n hx hb dL_law_497 rfl (lv_at hl 0 rfl) ?_
  refine lv_iconst (v := 2) hx hb dL_law_498 (by decide) ?_
  refine lv_iadd hx hb dL_law_499 ?_
  refine lv_as (z := nI (i + 2)) (show nI i + (2 : Int32) = nI (i + 2) from nI_add i 2) ?_
  refine va_sld hx hb hXs hbl hbA hX1.2.2.2.1 (vp_in_nI (by omega) (by omega)) dL_law_500 ?_
  refine gw_callVi (As := [.int (xs (nI (i + 1)).toNatClampNeg), .int (xs (nI (i + 2)).toNatClampNeg)]) (rest := [.int r]) F hl.1 hM1 (fun _ _ _ => trivial) gw_T_E (by decide) (rfl : ment adM cA _ _ _ 0 = _) rfl (kX8_told h.hTM h.hM) pd_yX8_told ml_RL_53 im_yX8_told se_yX8_told ini_RX8 cd_yX8_told ⟨rfl, rfl⟩ ⟨Nat.le_of_ble_eq_true rfl, Nat.le_of_ble_eq_true rfl⟩ rfl rfl (Nat.le_of_ble_eq_true rfl) ⟨by show cells ≤ 600000; omega, by show slots ≤ 7302250; omega⟩ dL_law_501 (fun r2 u2 H2 locs2 hp2 hM2 _ hk2 => ?_)
  have hX2 := hX1.keep (N2 := 18) (ad2 := adM) hk2 (fun i j hi hj e => hap j i hj hi e.symm) hM2.2.2.2.1
  have he : r = r2 := by rw [hp, hp2.1]; exact hE.ptold hT (xLx n τ) _ _
  have hLI : LI (ad 0) (adM 0) (fun q : Nat => s.heap.size ≤ q) s H2 locs2 := ⟨D, cs, cA, n, z, ad, adM, u, TT, τ, σ, u2, T, σM, hX2, hM2, hap, h, rfl, rfl⟩
  refine lv_icmp_eq (tgt := 1458) hx hb dL_law_504 (by decide) (fun _ => ?_) (fun cn => ?_)
  · refine W.widen (k := cells + 3) (n := slots + 168) (Nat.le_add_right _ _) (Nat.le_add_right _ _) ?_
    exact kk H2 locs2 hLI
  · exact absurd he cn
set_option maxHeartbeats 1000000 in
set_option maxRecDepth 100000 in
theorem lc_9 (l : Launch) : LCase l 509 := by
  intro p e s m below meth c Q b L i a1 a2 tk adK adV xs H locs ls cells slots F hXs hbl hXL hi hL hl hcs hI kk
  obtain ⟨hx, hb, hml, hown, hts⟩ := id F
  have hbA : ¬ (fun q : Nat => s.heap.size ≤ q) b := Nat.not_le.mpr hbl
  obtain ⟨D, cs, cA, n, z, ad, adM, ρ, TT, τ, σ, ρM, T, σM, hW, hM, hap, h, rfl, rfl⟩ := hI
  have hE := h.2.1
  have hT := h.hT
  refine lv_aload_n hx hb dL_law_509 rfl (lv_at hl 2 rfl) ?_
  refine lv_aload_n hx hb dL_law_510 rfl (lv_at hl 3 rfl) ?_
  refine lv_iload_n hx hb dL_law_511 rfl (lv_at hl 0 rfl) ?_
  refine lv_iconst (v := 1) hx hb dL_law_512 (by decide) ?_
  refine lv_iadd hx hb dL_law_513 ?_
  refine lv_as (z := nI (i + 1)) (show nI i + (1 : Int32) = nI (i + 1) from nI_add i 1) ?_
  refine va_sld hx hb hXs hbl hbA hW.2.2.2.1 (vp_in_nI (by omega) (by omega)) dL_law_514 ?_
  refine lv_aload_n hx hb dL_law_515 rfl (lv_at hl 3 rfl) ?_
  refine lv_iload_n hx hb dL_law_516 rfl (lv_at hl 0 rfl) ?_
  refine lv_iconst (v := 2) hx hb dL_law_517 (by decide) ?_
  refine lv_iadd hx hb dL_law_518 ?_
  refine lv_as (z := nI (i + 2)) (show nI i + (2 : Int32) = nI (i + 2) from nI_add i 2) ?_
  refine va_sld hx hb hXs hbl hbA hW.2.2.2.1 (vp_in_nI (by omega) (by omega)) dL_law_519 ?_
  refine lv_aload_n hx hb dL_law_520 rfl (lv_at hl 3 rfl) ?_
  refine lv_iload_n hx hb dL_law_521 rfl (lv_at hl 0 rfl) ?_
  refine lv_iconst (v := 3) hx hb dL_law_522 (by decide) ?_
  refine lv_iadd hx hb dL_law_523 ?_
  refine lv_as (z := nI (i + 3)) (show nI i + (3 : Int32) = nI (i + 3) from nI_add i 3) ?_
  refine va_sld hx hb hXs hbl hbA hW.2.2.2.1 (vp_in_nI (by omega) (by omega)) dL_law_524 ?_
  refine gw_callVi (As := [.int (xs (nI (i + 1)).toNatClampNeg), .int (xs (nI (i + 2)).toNatClampNeg), .int (xs (nI (i + 3)).toNatClampNeg)]) (rest := []) F hl.1 hW (xl_E hXL) XE_E (by omega) xe_0 rfl (kX7_manners h.hO) pd_yX7_manners ml_RL_54 im_yX7_manners se_yX7_manners ini_RX7 cd_yX7_manners ⟨rfl, rfl⟩ ⟨Nat.le_of_ble_eq_true rfl, Nat.le_of_ble_eq_true rfl⟩ rfl rfl (Nat.le_of_ble_eq_true rfl) ⟨by show cells ≤ 600000; omega, by show slots ≤ 7302250; omega⟩ dL_law_525 (fun r u H1 locs1 hp hX1 _ hk => ?_)
  have hM1 := hM.keep (N2 := 42 + 3 * n) (ad2 := ad) hk hap hX1.2.2.2.1
  refine lv_aload_n hx hb dL_law_528 rfl (lv_at hl 1 rfl) ?_
  refine lv_aload_n hx hb dL_law_529 rfl (lv_at hl 3 rfl) ?_
  refine lv_iload_n hx hb dL_law_530 rfl (lv_at hl 0 rfl) ?_
  refine lv_iconst (v := 1) hx hb dL_law_531 (by decide) ?_
  refine lv_iadd hx hb dL_law_532 ?_
  refine lv_as (z := nI (i + 1)) (show nI i + (1 : Int32) = nI (i + 1) from nI_add i 1) ?_
  refine va_sld hx hb hXs hbl hbA hX1.2.2.2.1 (vp_in_nI (by omega) (by omega)) dL_law_533 ?_
  refine lv_aload_n hx hb dL_law_534 rfl (lv_at hl 3 rfl) ?_
  refine lv_iload_n hx hb dL_law_535 rfl (lv_at hl 0 rfl) ?_
  refine lv_iconst (v := 2) hx hb dL_law_536 (by decide) ?_
  refine lv_iadd hx hb dL_law_537 ?_
  refine lv_as (z := nI (i + 2)) (show nI i + (2 : Int32) = nI (i + 2) from nI_add i 2) ?_
  refine va_sld hx hb hXs hbl hbA hX1.2.2.2.1 (vp_in_nI (by omega) (by omega)) dL_law_538 ?_
  refine lv_aload_n hx hb dL_law_539 rfl (lv_at hl 3 rfl) ?_
  refine lv_iload_n hx hb dL_law_540 rfl (lv_at hl 0 rfl) ?_
  refine lv_iconst (v := 3) hx hb dL_law_541 (by decide) ?_
  refine lv_iadd hx hb dL_law_542 ?_
  refine lv_as (z := nI (i + 3)) (show nI i + (3 : Int32) = nI (i + 3) from nI_add i 3) ?_
  refine va_sld hx hb hXs hbl hbA hX1.2.2.2.1 (vp_in_nI (by omega) (by omega)) dL_law_543 ?_
  refine gw_callVi (As := [.int (xs (nI (i + 1)).toNatClampNeg), .int (xs (nI (i + 2)).toNatClampNeg), .int (xs (nI (i + 3)).toNatClampNeg)]) (rest := [.int r]) F hl.1 hM1 (fun _ _ _ => trivial) gw_T_E (by decide) (rfl : ment adM cA _ _ _ 0 = _) rfl (kX8_manners h.hTM h.hM) pd_yX8_manners ml_RL_57 im_yX8_manners se_yX8_manners ini_RX8 cd_yX8_manners ⟨rfl, rfl⟩ ⟨Nat.le_of_ble_eq_true rfl, Nat.le_of_ble_eq_true rfl⟩ rfl rfl (Nat.le_of_ble_eq_true rfl) ⟨by show cells ≤ 600000; omega, by show slots ≤ 7302250; omega⟩ dL_law_544 (fun r2 u2 H2 locs2 hp2 hM2 _ hk2 => ?_)
  have hX2 := hX1.keep (N2 := 18) (ad2 := adM) hk2 (fun i j hi hj e => hap j i hj hi e.symm) hM2.2.2.2.1
  have he : r = r2 := by rw [hp, hp2.1]; exact hE.pmanners hT (xLx n τ) _ _ _
  have hLI : LI (ad 0) (adM 0) (fun q : Nat => s.heap.size ≤ q) s H2 locs2 := ⟨D, cs, cA, n, z, ad, adM, u, TT, τ, σ, u2, T, σM, hX2, hM2, hap, h, rfl, rfl⟩
  refine lv_icmp_eq (tgt := 1458) hx hb dL_law_547 (by decide) (fun _ => ?_) (fun cn => ?_)
  · refine W.widen (k := cells + 3) (n := slots + 168) (Nat.le_add_right _ _) (Nat.le_add_right _ _) ?_
    exact kk H2 locs2 hLI
  · exact absurd he cn
set_option maxHeartbeats 1000000 in
set_option maxRecDepth 100000 in
theorem lc_10 (l : Launch) : LCase l 552 := by
  intro p e s m below meth c Q b L i a1 a2 tk adK adV xs H locs ls cells slots F hXs hbl hXL hi hL hl hcs hI kk
  obtain ⟨hx, hb, hml, hown, hts⟩ := id F
  have hbA : ¬ (fun q : Nat => s.heap.size ≤ q) b := Nat.not_le.mpr hbl
  obtain ⟨D, cs, cA, n, z, ad, adM, ρ, TT, τ, σ, ρM, T, σM, hW, hM, hap, h, rfl, rfl⟩ := hI
  have hE := h.2.1
  have hT := h.hT
  refine lv_aload_n hx hb dL_law_552 rfl (lv_at hl 2 rfl) ?_
  refine lv_aload_n hx hb dL_law_553 rfl (lv_at hl 3 rfl) ?_
  refine lv_iload_n hx hb dL_law_554 rfl (lv_at hl 0 rfl) ?_
  refine lv_iconst (v := 1) hx hb dL_law_555 (by decide) ?_
  refine lv_iadd hx hb dL_law_556 ?_
  refine lv_as (z := nI (i + 1)) (show nI i + (1 : Int32) = nI (i + 1) from nI_add i 1) ?_
  refine va_sld hx hb hXs hbl hbA hW.2.2.2.1 (vp_in_nI (by omega) (by omega)) dL_law_557 ?_
  refine gw_callVi (As := [.int (xs (nI (i + 1)).toNatClampNeg)]) (rest := []) F hl.1 hW (xl_E hXL) XE_E (by omega) xe_0 rfl (kX7_dinner h.hO) pd_yX7_dinner ml_RL_58 im_yX7_dinner se_yX7_dinner ini_RX7 cd_yX7_dinner ⟨rfl, rfl⟩ ⟨Nat.le_of_ble_eq_true rfl, Nat.le_of_ble_eq_true rfl⟩ rfl rfl (Nat.le_of_ble_eq_true rfl) ⟨by show cells ≤ 600000; omega, by show slots ≤ 7302250; omega⟩ dL_law_558 (fun r u H1 locs1 hp hX1 _ hk => ?_)
  have hM1 := hM.keep (N2 := 42 + 3 * n) (ad2 := ad) hk hap hX1.2.2.2.1
  refine lv_aload_n hx hb dL_law_561 rfl (lv_at hl 1 rfl) ?_
  refine lv_aload_n hx hb dL_law_562 rfl (lv_at hl 3 rfl) ?_
  refine lv_iload_n hx hb dL_law_563 rfl (lv_at hl 0 rfl) ?_
  refine lv_iconst (v := 1) hx hb dL_law_564 (by decide) ?_
  refine lv_iadd hx hb dL_law_565 ?_
  refine lv_as (z := nI (i + 1)) (show nI i + (1 : Int32) = nI (i + 1) from nI_add i 1) ?_
  refine va_sld hx hb hXs hbl hbA hX1.2.2.2.1 (vp_in_nI (by omega) (by omega)) dL_law_566 ?_
  refine gw_callVi (As := [.int (xs (nI (i + 1)).toNatClampNeg)]) (rest := [.int r]) F hl.1 hM1 (fun _ _ _ => trivial) gw_T_E (by decide) (rfl : ment adM cA _ _ _ 0 = _) rfl (kX8_dinner h.hTM h.hM) pd_yX8_dinner ml_RL_61 im_yX8_dinner se_yX8_dinner ini_RX8 cd_yX8_dinner ⟨rfl, rfl⟩ ⟨Nat.le_of_ble_eq_true rfl, Nat.le_of_ble_eq_true rfl⟩ rfl rfl (Nat.le_of_ble_eq_true rfl) ⟨by show cells ≤ 600000; omega, by show slots ≤ 7302250; omega⟩ dL_law_567 (fun r2 u2 H2 locs2 hp2 hM2 _ hk2 => ?_)
  have hX2 := hX1.keep (N2 := 18) (ad2 := adM) hk2 (fun i j hi hj e => hap j i hj hi e.symm) hM2.2.2.2.1
  have he : r = r2 := by rw [hp, hp2.1]; exact hE.pdinner (xLx n τ) _
  have hLI : LI (ad 0) (adM 0) (fun q : Nat => s.heap.size ≤ q) s H2 locs2 := ⟨D, cs, cA, n, z, ad, adM, u, TT, τ, σ, u2, T, σM, hX2, hM2, hap, h, rfl, rfl⟩
  refine lv_icmp_eq (tgt := 1458) hx hb dL_law_570 (by decide) (fun _ => ?_) (fun cn => ?_)
  · refine W.widen (k := cells + 3) (n := slots + 168) (Nat.le_add_right _ _) (Nat.le_add_right _ _) ?_
    exact kk H2 locs2 hLI
  · exact absurd he cn
set_option maxHeartbeats 1000000 in
set_option maxRecDepth 100000 in
theorem lc_11 (l : Launch) : LCase l 575 := by
  intro p e s m below meth c Q b L i a1 a2 tk adK adV xs H locs ls cells slots F hXs hbl hXL hi hL hl hcs hI kk
  obtain ⟨hx, hb, hml, hown, hts⟩ := id F
  have hbA : ¬ (fun q : Nat => s.heap.size ≤ q) b := Nat.not_le.mpr hbl
  obtain ⟨D, cs, cA, n, z, ad, adM, ρ, TT, τ, σ, ρM, T, σM, hW, hM, hap, h, rfl, rfl⟩ := hI
  have hE := h.2.1
  have hT := h.hT
  refine lv_aload_n hx hb dL_law_575 rfl (lv_at hl 2 rfl) ?_
  refine gw_callVi (As := []) (rest := []) F hl.1 hW (xl_E hXL) XE_E (by omega) xe_0 rfl (kX7_minute h.hO) pd_yX7_minute ml_RL_62 im_yX7_minute se_yX7_minute ini_RX7 cd_yX7_minute ⟨rfl, rfl⟩ ⟨Nat.le_of_ble_eq_true rfl, Nat.le_of_ble_eq_true rfl⟩ rfl rfl (Nat.le_of_ble_eq_true rfl) ⟨by show cells ≤ 600000; omega, by show slots ≤ 7302250; omega⟩ dL_law_576 (fun r u H1 locs1 hp hX1 _ hk => ?_)
  have hM1 := hM.keep (N2 := 42 + 3 * n) (ad2 := ad) hk hap hX1.2.2.2.1
  refine lv_aload_n hx hb dL_law_579 rfl (lv_at hl 1 rfl) ?_
  obtain ⟨mi, hm9, hmi⟩ := h.mi
  refine gw_callVi (As := []) (rest := [.int r]) F hl.1 hM1 (fun _ _ _ => trivial) gw_T_E (by decide) (rfl : ment adM cA _ _ _ 0 = _) rfl (kX8_minute h.hTM h.hM hmi hm9) pd_yX8_minute ml_RL_65 im_yX8_minute se_yX8_minute ini_RX8 cd_yX8_minute ⟨rfl, rfl⟩ ⟨Nat.le_of_ble_eq_true rfl, Nat.le_of_ble_eq_true rfl⟩ rfl rfl (Nat.le_of_ble_eq_true rfl) ⟨by show cells ≤ 600000; omega, by show slots ≤ 7302250; omega⟩ dL_law_580 (fun r2 u2 H2 locs2 hp2 hM2 _ hk2 => ?_)
  have hX2 := hX1.keep (N2 := 18) (ad2 := adM) hk2 (fun i j hi hj e => hap j i hj hi e.symm) hM2.2.2.2.1
  have he : r = r2 := by rw [hp.1, hp2.1]; exact (hE.pminute hT (xLx n τ)).1
  have hLI : LI (ad 0) (adM 0) (fun q : Nat => s.heap.size ≤ q) s H2 locs2 := ⟨D, cs, cA, n, z, ad, adM, u.1, u.2, τ, σ, u2.1, u2.2, σM, hX2, hM2, hap, (by rw [hp.2, hp2.2.1, va_up_self, va_up_ne _ _ (by decide)]; exact sim_T h (st_minute hT h.1.2.2.2.2.2.2.2.2 (xLx n τ)) (hE.pminute hT (xLx n τ)).2), rfl, rfl⟩
  refine lv_icmp_eq (tgt := 1458) hx hb dL_law_583 (by decide) (fun _ => ?_) (fun cn => ?_)
  · refine W.widen (k := cells + 3) (n := slots + 168) (Nat.le_add_right _ _) (Nat.le_add_right _ _) ?_
    exact kk H2 locs2 hLI
  · exact absurd he cn
set_option maxHeartbeats 1000000 in
set_option maxRecDepth 100000 in
theorem lc_12 (l : Launch) : LCase l 588 := by
  intro p e s m below meth c Q b L i a1 a2 tk adK adV xs H locs ls cells slots F hXs hbl hXL hi hL hl hcs hI kk
  obtain ⟨hx, hb, hml, hown, hts⟩ := id F
  have hbA : ¬ (fun q : Nat => s.heap.size ≤ q) b := Nat.not_le.mpr hbl
  obtain ⟨D, cs, cA, n, z, ad, adM, ρ, TT, τ, σ, ρM, T, σM, hW, hM, hap, h, rfl, rfl⟩ := hI
  have hE := h.2.1
  have hT := h.hT
  refine lv_aload_n hx hb dL_law_588 rfl (lv_at hl 2 rfl) ?_
  refine lv_aload_n hx hb dL_law_589 rfl (lv_at hl 3 rfl) ?_
  refine lv_iload_n hx hb dL_law_590 rfl (lv_at hl 0 rfl) ?_
  refine lv_iconst (v := 1) hx hb dL_law_591 (by decide) ?_
  refine lv_iadd hx hb dL_law_592 ?_
  refine lv_as (z := nI (i + 1)) (show nI i + (1 : Int32) = nI (i + 1) from nI_add i 1) ?_
  refine va_sld hx hb hXs hbl hbA hW.2.2.2.1 (vp_in_nI (by omega) (by omega)) dL_law_593 ?_
  refine gw_callVi (As := [.int (xs (nI (i + 1)).toNatClampNeg)]) (rest := []) F hl.1 hW (xl_E hXL) XE_E (by omega) xe_0 rfl (kX7_act h.hO) pd_yX7_act ml_RL_66 im_yX7_act se_yX7_act ini_RX7 cd_yX7_act ⟨rfl, rfl⟩ ⟨Nat.le_of_ble_eq_true rfl, Nat.le_of_ble_eq_true rfl⟩ rfl rfl (Nat.le_of_ble_eq_true rfl) ⟨by show cells ≤ 600000; omega, by show slots ≤ 7302250; omega⟩ dL_law_594 (fun r u H1 locs1 hp hX1 _ hk => ?_)
  have hM1 := hM.keep (N2 := 42 + 3 * n) (ad2 := ad) hk hap hX1.2.2.2.1
  refine lv_aload_n hx hb dL_law_597 rfl (lv_at hl 1 rfl) ?_
  refine lv_aload_n hx hb dL_law_598 rfl (lv_at hl 3 rfl) ?_
  refine lv_iload_n hx hb dL_law_599 rfl (lv_at hl 0 rfl) ?_
  refine lv_iconst (v := 1) hx hb dL_law_600 (by decide) ?_
  refine lv_iadd hx hb dL_law_601 ?_
  refine lv_as (z := nI (i + 1)) (show nI i + (1 : Int32) = nI (i + 1) from nI_add i 1) ?_
  refine va_sld hx hb hXs hbl hbA hX1.2.2.2.1 (vp_in_nI (by omega) (by omega)) dL_law_602 ?_
  refine gw_callVi (As := [.int (xs (nI (i + 1)).toNatClampNeg)]) (rest := [.int r]) F hl.1 hM1 (fun _ _ _ => trivial) gw_T_E (by decide) (rfl : ment adM cA _ _ _ 0 = _) rfl (kX8_act h.hTM h.hM) pd_yX8_act ml_RL_69 im_yX8_act se_yX8_act ini_RX8 cd_yX8_act ⟨rfl, rfl⟩ ⟨Nat.le_of_ble_eq_true rfl, Nat.le_of_ble_eq_true rfl⟩ rfl rfl (Nat.le_of_ble_eq_true rfl) ⟨by show cells ≤ 600000; omega, by show slots ≤ 7302250; omega⟩ dL_law_603 (fun r2 u2 H2 locs2 hp2 hM2 _ hk2 => ?_)
  have hX2 := hX1.keep (N2 := 18) (ad2 := adM) hk2 (fun i j hi hj e => hap j i hj hi e.symm) hM2.2.2.2.1
  have he : r = r2 := by rw [hp.1, hp2.1]; exact (hE.pact hT (xLx n τ) _).1
  have hLI : LI (ad 0) (adM 0) (fun q : Nat => s.heap.size ≤ q) s H2 locs2 := ⟨D, cs, cA, n, z, ad, adM, u.1, u.2, τ, σ, u2.1, u2.2, σM, hX2, hM2, hap, (by rw [hp.2, hp2.2.1, va_up_self, va_up_ne _ _ (by decide)]; exact sim_T h (st_act hT h.1.2.2.2.2.2.2.2.2 (xLx n τ) _) (hE.pact hT (xLx n τ) _).2), rfl, rfl⟩
  refine lv_icmp_eq (tgt := 1458) hx hb dL_law_606 (by decide) (fun _ => ?_) (fun cn => ?_)
  · refine W.widen (k := cells + 3) (n := slots + 168) (Nat.le_add_right _ _) (Nat.le_add_right _ _) ?_
    exact kk H2 locs2 hLI
  · exact absurd he cn
set_option maxHeartbeats 1000000 in
set_option maxRecDepth 100000 in
theorem lc_13 (l : Launch) : LCase l 611 := by
  intro p e s m below meth c Q b L i a1 a2 tk adK adV xs H locs ls cells slots F hXs hbl hXL hi hL hl hcs hI kk
  obtain ⟨hx, hb, hml, hown, hts⟩ := id F
  have hbA : ¬ (fun q : Nat => s.heap.size ≤ q) b := Nat.not_le.mpr hbl
  obtain ⟨D, cs, cA, n, z, ad, adM, ρ, TT, τ, σ, ρM, T, σM, hW, hM, hap, h, rfl, rfl⟩ := hI
  have hE := h.2.1
  have hT := h.hT
  refine lv_aload_n hx hb dL_law_611 rfl (lv_at hl 2 rfl) ?_
  refine lv_aload_n hx hb dL_law_612 rfl (lv_at hl 3 rfl) ?_
  refine lv_iload_n hx hb dL_law_613 rfl (lv_at hl 0 rfl) ?_
  refine lv_iconst (v := 1) hx hb dL_law_614 (by decide) ?_
  refine lv_iadd hx hb dL_law_615 ?_
  refine lv_as (z := nI (i + 1)) (show nI i + (1 : Int32) = nI (i + 1) from nI_add i 1) ?_
  refine va_sld hx hb hXs hbl hbA hW.2.2.2.1 (vp_in_nI (by omega) (by omega)) dL_law_616 ?_
  refine lv_aload_n hx hb dL_law_617 rfl (lv_at hl 3 rfl) ?_
  refine lv_iload_n hx hb dL_law_618 rfl (lv_at hl 0 rfl) ?_
  refine lv_iconst (v := 2) hx hb dL_law_619 (by decide) ?_
  refine lv_iadd hx hb dL_law_620 ?_
  refine lv_as (z := nI (i + 2)) (show nI i + (2 : Int32) = nI (i + 2) from nI_add i 2) ?_
  refine va_sld hx hb hXs hbl hbA hW.2.2.2.1 (vp_in_nI (by omega) (by omega)) dL_law_621 ?_
  refine gw_callVi (As := [.int (xs (nI (i + 1)).toNatClampNeg), .int (xs (nI (i + 2)).toNatClampNeg)]) (rest := []) F hl.1 hW (xl_E hXL) XE_E (by omega) xe_0 rfl (kX7_swap h.hO) pd_yX7_swap ml_RL_70 im_yX7_swap se_yX7_swap ini_RX7 cd_yX7_swap ⟨rfl, rfl⟩ ⟨Nat.le_of_ble_eq_true rfl, Nat.le_of_ble_eq_true rfl⟩ rfl rfl (Nat.le_of_ble_eq_true rfl) ⟨by show cells ≤ 600000; omega, by show slots ≤ 7302250; omega⟩ dL_law_622 (fun r u H1 locs1 hp hX1 _ hk => ?_)
  have hM1 := hM.keep (N2 := 42 + 3 * n) (ad2 := ad) hk hap hX1.2.2.2.1
  refine lv_aload_n hx hb dL_law_625 rfl (lv_at hl 1 rfl) ?_
  refine lv_aload_n hx hb dL_law_626 rfl (lv_at hl 3 rfl) ?_
  refine lv_iload_n hx hb dL_law_627 rfl (lv_at hl 0 rfl) ?_
  refine lv_iconst (v := 1) hx hb dL_law_628 (by decide) ?_
  refine lv_iadd hx hb dL_law_629 ?_
  refine lv_as (z := nI (i + 1)) (show nI i + (1 : Int32) = nI (i + 1) from nI_add i 1) ?_
  refine va_sld hx hb hXs hbl hbA hX1.2.2.2.1 (vp_in_nI (by omega) (by omega)) dL_law_630 ?_
  refine lv_aload_n hx hb dL_law_631 rfl (lv_at hl 3 rfl) ?_
  refine lv_iload_n hx hb dL_law_632 rfl (lv_at hl 0 rfl) ?_
  refine lv_iconst (v := 2) hx hb dL_law_633 (by decide) ?_
  refine lv_iadd hx hb dL_law_634 ?_
  refine lv_as (z := nI (i + 2)) (show nI i + (2 : Int32) = nI (i + 2) from nI_add i 2) ?_
  refine va_sld hx hb hXs hbl hbA hX1.2.2.2.1 (vp_in_nI (by omega) (by omega)) dL_law_635 ?_
  refine gw_callVi (As := [.int (xs (nI (i + 1)).toNatClampNeg), .int (xs (nI (i + 2)).toNatClampNeg)]) (rest := [.int r]) F hl.1 hM1 (fun _ _ _ => trivial) gw_T_E (by decide) (rfl : ment adM cA _ _ _ 0 = _) rfl (kX8_swap h.hTM) pd_yX8_swap ml_RL_73 im_yX8_swap se_yX8_swap ini_RX8 cd_yX8_swap ⟨rfl, rfl⟩ ⟨Nat.le_of_ble_eq_true rfl, Nat.le_of_ble_eq_true rfl⟩ rfl rfl (Nat.le_of_ble_eq_true rfl) ⟨by show cells ≤ 600000; omega, by show slots ≤ 7302250; omega⟩ dL_law_636 (fun r2 u2 H2 locs2 hp2 hM2 _ hk2 => ?_)
  have hX2 := hX1.keep (N2 := 18) (ad2 := adM) hk2 (fun i j hi hj e => hap j i hj hi e.symm) hM2.2.2.2.1
  have he : r = r2 := by rw [hp.1, hp2.1]; exact (hE.pswap hT _ _).1
  have hLI : LI (ad 0) (adM 0) (fun q : Nat => s.heap.size ≤ q) s H2 locs2 := ⟨D, cs, cA, n, z, ad, adM, ρ, u, τ, σ, ρM, u2, σM, hX2, hM2, hap, (by rw [hp.2, hp2.2, va_up_self, va_up_ne _ _ (by decide)]; exact sim_T h (st_swap hT h.1.2.2.2.2.2.2.2.2 _ _) (hE.pswap hT _ _).2), rfl, rfl⟩
  refine lv_icmp_eq (tgt := 1458) hx hb dL_law_639 (by decide) (fun _ => ?_) (fun cn => ?_)
  · refine W.widen (k := cells + 3) (n := slots + 168) (Nat.le_add_right _ _) (Nat.le_add_right _ _) ?_
    exact kk H2 locs2 hLI
  · exact absurd he cn
set_option maxHeartbeats 1000000 in
set_option maxRecDepth 100000 in
theorem lc_14 (l : Launch) : LCase l 644 := by
  intro p e s m below meth c Q b L i a1 a2 tk adK adV xs H locs ls cells slots F hXs hbl hXL hi hL hl hcs hI kk
  obtain ⟨hx, hb, hml, hown, hts⟩ := id F
  have hbA : ¬ (fun q : Nat => s.heap.size ≤ q) b := Nat.not_le.mpr hbl
  obtain ⟨D, cs, cA, n, z, ad, adM, ρ, TT, τ, σ, ρM, T, σM, hW, hM, hap, h, rfl, rfl⟩ := hI
  have hE := h.2.1
  have hT := h.hT
  refine lv_aload_n hx hb dL_law_644 rfl (lv_at hl 2 rfl) ?_
  refine lv_aload_n hx hb dL_law_645 rfl (lv_at hl 3 rfl) ?_
  refine lv_iload_n hx hb dL_law_646 rfl (lv_at hl 0 rfl) ?_
  refine lv_iconst (v := 1) hx hb dL_law_647 (by decide) ?_
  refine lv_iadd hx hb dL_law_648 ?_
  refine lv_as (z := nI (i + 1)) (show nI i + (1 : Int32) = nI (i + 1) from nI_add i 1) ?_
  refine va_sld hx hb hXs hbl hbA hW.2.2.2.1 (vp_in_nI (by omega) (by omega)) dL_law_649 ?_
  refine lv_aload_n hx hb dL_law_650 rfl (lv_at hl 3 rfl) ?_
  refine lv_iload_n hx hb dL_law_651 rfl (lv_at hl 0 rfl) ?_
  refine lv_iconst (v := 2) hx hb dL_law_652 (by decide) ?_
  refine lv_iadd hx hb dL_law_653 ?_
  refine lv_as (z := nI (i + 2)) (show nI i + (2 : Int32) = nI (i + 2) from nI_add i 2) ?_
  refine va_sld hx hb hXs hbl hbA hW.2.2.2.1 (vp_in_nI (by omega) (by omega)) dL_law_654 ?_
  refine gw_callVi (As := [.int (xs (nI (i + 1)).toNatClampNeg), .int (xs (nI (i + 2)).toNatClampNeg)]) (rest := []) F hl.1 hW (xl_E hXL) XE_E (by omega) xe_0 rfl (kX7_run h.hO) pd_yX7_run ml_RL_74 im_yX7_run se_yX7_run ini_RX7 cd_yX7_run ⟨rfl, rfl⟩ ⟨Nat.le_of_ble_eq_true rfl, Nat.le_of_ble_eq_true rfl⟩ rfl rfl (Nat.le_of_ble_eq_true rfl) ⟨by show cells ≤ 600000; omega, by show slots ≤ 7302250; omega⟩ dL_law_655 (fun r u H1 locs1 hp hX1 _ hk => ?_)
  have hM1 := hM.keep (N2 := 42 + 3 * n) (ad2 := ad) hk hap hX1.2.2.2.1
  refine lv_aload_n hx hb dL_law_658 rfl (lv_at hl 1 rfl) ?_
  refine lv_aload_n hx hb dL_law_659 rfl (lv_at hl 3 rfl) ?_
  refine lv_iload_n hx hb dL_law_660 rfl (lv_at hl 0 rfl) ?_
  refine lv_iconst (v := 1) hx hb dL_law_661 (by decide) ?_
  refine lv_iadd hx hb dL_law_662 ?_
  refine lv_as (z := nI (i + 1)) (show nI i + (1 : Int32) = nI (i + 1) from nI_add i 1) ?_
  refine va_sld hx hb hXs hbl hbA hX1.2.2.2.1 (vp_in_nI (by omega) (by omega)) dL_law_663 ?_
  refine lv_aload_n hx hb dL_law_664 rfl (lv_at hl 3 rfl) ?_
  refine lv_iload_n hx hb dL_law_665 rfl (lv_at hl 0 rfl) ?_
  refine lv_iconst (v := 2) hx hb dL_law_666 (by decide) ?_
  refine lv_iadd hx hb dL_law_667 ?_
  refine lv_as (z := nI (i + 2)) (show nI i + (2 : Int32) = nI (i + 2) from nI_add i 2) ?_
  refine va_sld hx hb hXs hbl hbA hX1.2.2.2.1 (vp_in_nI (by omega) (by omega)) dL_law_668 ?_
  refine gw_callVi (As := [.int (xs (nI (i + 1)).toNatClampNeg), .int (xs (nI (i + 2)).toNatClampNeg)]) (rest := [.int r]) F hl.1 hM1 (fun _ _ _ => trivial) gw_T_E (by decide) (rfl : ment adM cA _ _ _ 0 = _) rfl (kX8_run h.hTM h.hM) pd_yX8_run ml_RL_77 im_yX8_run se_yX8_run ini_RX8 cd_yX8_run ⟨rfl, rfl⟩ ⟨Nat.le_of_ble_eq_true rfl, Nat.le_of_ble_eq_true rfl⟩ rfl rfl (Nat.le_of_ble_eq_true rfl) ⟨by show cells ≤ 600000; omega, by show slots ≤ 7302250; omega⟩ dL_law_669 (fun r2 u2 H2 locs2 hp2 hM2 _ hk2 => ?_)
  have hX2 := hX1.keep (N2 := 18) (ad2 := adM) hk2 (fun i j hi hj e => hap j i hj hi e.symm) hM2.2.2.2.1
  have he : r = r2 := by rw [hp, hp2]; exact hE.prun hT (xLx n τ) _ _
  have hLI : LI (ad 0) (adM 0) (fun q : Nat => s.heap.size ≤ q) s H2 locs2 := ⟨D, cs, cA, n, z, ad, adM, u.1, va_up TT 1 u.2, τ, σ, u2, T, σM, hX2, hM2, hap, (by rw [va_up_ne _ _ (by decide), va_up_ne _ _ (by decide)]; exact h), rfl, rfl⟩
  refine lv_icmp_eq (tgt := 1458) hx hb dL_law_672 (by decide) (fun _ => ?_) (fun cn => ?_)
  · refine W.widen (k := cells + 3) (n := slots + 168) (Nat.le_add_right _ _) (Nat.le_add_right _ _) ?_
    exact kk H2 locs2 hLI
  · exact absurd he cn
set_option maxHeartbeats 1000000 in
set_option maxRecDepth 100000 in
theorem lc_15 (l : Launch) : LCase l 677 := by
  intro p e s m below meth c Q b L i a1 a2 tk adK adV xs H locs ls cells slots F hXs hbl hXL hi hL hl hcs hI kk
  obtain ⟨hx, hb, hml, hown, hts⟩ := id F
  have hbA : ¬ (fun q : Nat => s.heap.size ≤ q) b := Nat.not_le.mpr hbl
  obtain ⟨D, cs, cA, n, z, ad, adM, ρ, TT, τ, σ, ρM, T, σM, hW, hM, hap, h, rfl, rfl⟩ := hI
  have hE := h.2.1
  have hT := h.hT
  refine lv_aload_n hx hb dL_law_677 rfl (lv_at hl 2 rfl) ?_
  refine lv_aload_n hx hb dL_law_678 rfl (lv_at hl 3 rfl) ?_
  refine lv_iload_n hx hb dL_law_679 rfl (lv_at hl 0 rfl) ?_
  refine lv_iconst (v := 1) hx hb dL_law_680 (by decide) ?_
  refine lv_iadd hx hb dL_law_681 ?_
  refine lv_as (z := nI (i + 1)) (show nI i + (1 : Int32) = nI (i + 1) from nI_add i 1) ?_
  refine va_sld hx hb hXs hbl hbA hW.2.2.2.1 (vp_in_nI (by omega) (by omega)) dL_law_682 ?_
  refine gw_callVi (As := [.int (xs (nI (i + 1)).toNatClampNeg)]) (rest := []) F hl.1 hW (xl_E hXL) XE_E (by omega) xe_0 rfl (kX7_when h.hO) pd_yX7_when ml_RL_78 im_yX7_when se_yX7_when ini_RX7 cd_yX7_when ⟨rfl, rfl⟩ ⟨Nat.le_of_ble_eq_true rfl, Nat.le_of_ble_eq_true rfl⟩ rfl rfl (Nat.le_of_ble_eq_true rfl) ⟨by show cells ≤ 600000; omega, by show slots ≤ 7302250; omega⟩ dL_law_683 (fun r u H1 locs1 hp hX1 _ hk => ?_)
  have hM1 := hM.keep (N2 := 42 + 3 * n) (ad2 := ad) hk hap hX1.2.2.2.1
  refine lv_aload_n hx hb dL_law_686 rfl (lv_at hl 1 rfl) ?_
  refine lv_aload_n hx hb dL_law_687 rfl (lv_at hl 3 rfl) ?_
  refine lv_iload_n hx hb dL_law_688 rfl (lv_at hl 0 rfl) ?_
  refine lv_iconst (v := 1) hx hb dL_law_689 (by decide) ?_
  refine lv_iadd hx hb dL_law_690 ?_
  refine lv_as (z := nI (i + 1)) (show nI i + (1 : Int32) = nI (i + 1) from nI_add i 1) ?_
  refine va_sld hx hb hXs hbl hbA hX1.2.2.2.1 (vp_in_nI (by omega) (by omega)) dL_law_691 ?_
  refine gw_callVi (As := [.int (xs (nI (i + 1)).toNatClampNeg)]) (rest := [.int r]) F hl.1 hM1 (fun _ _ _ => trivial) gw_T_E (by decide) (rfl : ment adM cA _ _ _ 0 = _) rfl (kX8_when h.hTM h.hM) pd_yX8_when ml_RL_81 im_yX8_when se_yX8_when ini_RX8 cd_yX8_when ⟨rfl, rfl⟩ ⟨Nat.le_of_ble_eq_true rfl, Nat.le_of_ble_eq_true rfl⟩ rfl rfl (Nat.le_of_ble_eq_true rfl) ⟨by show cells ≤ 600000; omega, by show slots ≤ 7302250; omega⟩ dL_law_692 (fun r2 u2 H2 locs2 hp2 hM2 _ hk2 => ?_)
  have hX2 := hX1.keep (N2 := 18) (ad2 := adM) hk2 (fun i j hi hj e => hap j i hj hi e.symm) hM2.2.2.2.1
  have he : r = r2 := by rw [hp, hp2]; exact hE.pwhen hT (xLx n τ) _
  have hLI : LI (ad 0) (adM 0) (fun q : Nat => s.heap.size ≤ q) s H2 locs2 := ⟨D, cs, cA, n, z, ad, adM, u.1, va_up TT 1 u.2, τ, σ, u2, T, σM, hX2, hM2, hap, (by rw [va_up_ne _ _ (by decide), va_up_ne _ _ (by decide)]; exact h), rfl, rfl⟩
  refine lv_icmp_eq (tgt := 1458) hx hb dL_law_695 (by decide) (fun _ => ?_) (fun cn => ?_)
  · refine W.widen (k := cells + 3) (n := slots + 168) (Nat.le_add_right _ _) (Nat.le_add_right _ _) ?_
    exact kk H2 locs2 hLI
  · exact absurd he cn
set_option maxHeartbeats 1000000 in
set_option maxRecDepth 100000 in
theorem lc_16 (l : Launch) : LCase l 700 := by
  intro p e s m below meth c Q b L i a1 a2 tk adK adV xs H locs ls cells slots F hXs hbl hXL hi hL hl hcs hI kk
  obtain ⟨hx, hb, hml, hown, hts⟩ := id F
  have hbA : ¬ (fun q : Nat => s.heap.size ≤ q) b := Nat.not_le.mpr hbl
  obtain ⟨D, cs, cA, n, z, ad, adM, ρ, TT, τ, σ, ρM, T, σM, hW, hM, hap, h, rfl, rfl⟩ := hI
  have hE := h.2.1
  have hT := h.hT
  refine lv_aload_n hx hb dL_law_700 rfl (lv_at hl 2 rfl) ?_
  refine lv_aload_n hx hb dL_law_701 rfl (lv_at hl 3 rfl) ?_
  refine lv_iload_n hx hb dL_law_702 rfl (lv_at hl 0 rfl) ?_
  refine lv_iconst (v := 1) hx hb dL_law_703 (by decide) ?_
  refine lv_iadd hx hb dL_law_704 ?_
  refine lv_as (z := nI (i + 1)) (show nI i + (1 : Int32) = nI (i + 1) from nI_add i 1) ?_
  refine va_sld hx hb hXs hbl hbA hW.2.2.2.1 (vp_in_nI (by omega) (by omega)) dL_law_705 ?_
  refine lv_aload_n hx hb dL_law_706 rfl (lv_at hl 3 rfl) ?_
  refine lv_iload_n hx hb dL_law_707 rfl (lv_at hl 0 rfl) ?_
  refine lv_iconst (v := 2) hx hb dL_law_708 (by decide) ?_
  refine lv_iadd hx hb dL_law_709 ?_
  refine lv_as (z := nI (i + 2)) (show nI i + (2 : Int32) = nI (i + 2) from nI_add i 2) ?_
  refine va_sld hx hb hXs hbl hbA hW.2.2.2.1 (vp_in_nI (by omega) (by omega)) dL_law_710 ?_
  refine gw_callVi (As := [.int (xs (nI (i + 1)).toNatClampNeg), .int (xs (nI (i + 2)).toNatClampNeg)]) (rest := []) F hl.1 hW (xl_E hXL) XE_E (by omega) xe_0 rfl (kX7_poker h.hO) pd_yX7_poker ml_RL_82 im_yX7_poker se_yX7_poker ini_RX7 cd_yX7_poker ⟨rfl, rfl⟩ ⟨Nat.le_of_ble_eq_true rfl, Nat.le_of_ble_eq_true rfl⟩ rfl rfl (Nat.le_of_ble_eq_true rfl) ⟨by show cells ≤ 600000; omega, by show slots ≤ 7302250; omega⟩ dL_law_711 (fun r u H1 locs1 hp hX1 _ hk => ?_)
  have hM1 := hM.keep (N2 := 42 + 3 * n) (ad2 := ad) hk hap hX1.2.2.2.1
  refine lv_aload_n hx hb dL_law_714 rfl (lv_at hl 1 rfl) ?_
  refine lv_aload_n hx hb dL_law_715 rfl (lv_at hl 3 rfl) ?_
  refine lv_iload_n hx hb dL_law_716 rfl (lv_at hl 0 rfl) ?_
  refine lv_iconst (v := 1) hx hb dL_law_717 (by decide) ?_
  refine lv_iadd hx hb dL_law_718 ?_
  refine lv_as (z := nI (i + 1)) (show nI i + (1 : Int32) = nI (i + 1) from nI_add i 1) ?_
  refine va_sld hx hb hXs hbl hbA hX1.2.2.2.1 (vp_in_nI (by omega) (by omega)) dL_law_719 ?_
  refine lv_aload_n hx hb dL_law_720 rfl (lv_at hl 3 rfl) ?_
  refine lv_iload_n hx hb dL_law_721 rfl (lv_at hl 0 rfl) ?_
  refine lv_iconst (v := 2) hx hb dL_law_722 (by decide) ?_
  refine lv_iadd hx hb dL_law_723 ?_
  refine lv_as (z := nI (i + 2)) (show nI i + (2 : Int32) = nI (i + 2) from nI_add i 2) ?_
  refine va_sld hx hb hXs hbl hbA hX1.2.2.2.1 (vp_in_nI (by omega) (by omega)) dL_law_724 ?_
  refine gw_callVi (As := [.int (xs (nI (i + 1)).toNatClampNeg), .int (xs (nI (i + 2)).toNatClampNeg)]) (rest := [.int r]) F hl.1 hM1 (fun _ _ _ => trivial) gw_T_E (by decide) (rfl : ment adM cA _ _ _ 0 = _) rfl (kX8_poker h.hTM h.hM) pd_yX8_poker ml_RL_85 im_yX8_poker se_yX8_poker ini_RX8 cd_yX8_poker ⟨rfl, rfl⟩ ⟨Nat.le_of_ble_eq_true rfl, Nat.le_of_ble_eq_true rfl⟩ rfl rfl (Nat.le_of_ble_eq_true rfl) ⟨by show cells ≤ 600000; omega, by show slots ≤ 7302250; omega⟩ dL_law_725 (fun r2 u2 H2 locs2 hp2 hM2 _ hk2 => ?_)
  have hX2 := hX1.keep (N2 := 18) (ad2 := adM) hk2 (fun i j hi hj e => hap j i hj hi e.symm) hM2.2.2.2.1
  have he : r = r2 := by rw [hp, hp2]; exact hE.ppoker hT (xLx n τ) _ _
  have hLI : LI (ad 0) (adM 0) (fun q : Nat => s.heap.size ≤ q) s H2 locs2 := ⟨D, cs, cA, n, z, ad, adM, u.1, va_up TT 1 u.2, τ, σ, u2, T, σM, hX2, hM2, hap, (by rw [va_up_ne _ _ (by decide), va_up_ne _ _ (by decide)]; exact h), rfl, rfl⟩
  refine lv_icmp_eq (tgt := 1458) hx hb dL_law_728 (by decide) (fun _ => ?_) (fun cn => ?_)
  · refine W.widen (k := cells + 3) (n := slots + 168) (Nat.le_add_right _ _) (Nat.le_add_right _ _) ?_
    exact kk H2 locs2 hLI
  · exact absurd he cn
set_option maxHeartbeats 1000000 in
set_option maxRecDepth 100000 in
theorem lc_17 (l : Launch) : LCase l 733 := by
  intro p e s m below meth c Q b L i a1 a2 tk adK adV xs H locs ls cells slots F hXs hbl hXL hi hL hl hcs hI kk
  obtain ⟨hx, hb, hml, hown, hts⟩ := id F
  have hbA : ¬ (fun q : Nat => s.heap.size ≤ q) b := Nat.not_le.mpr hbl
  obtain ⟨D, cs, cA, n, z, ad, adM, ρ, TT, τ, σ, ρM, T, σM, hW, hM, hap, h, rfl, rfl⟩ := hI
  have hE := h.2.1
  have hT := h.hT
  refine lv_aload_n hx hb dL_law_733 rfl (lv_at hl 2 rfl) ?_
  refine lv_aload_n hx hb dL_law_734 rfl (lv_at hl 3 rfl) ?_
  refine lv_iload_n hx hb dL_law_735 rfl (lv_at hl 0 rfl) ?_
  refine lv_iconst (v := 1) hx hb dL_law_736 (by decide) ?_
  refine lv_iadd hx hb dL_law_737 ?_
  refine lv_as (z := nI (i + 1)) (show nI i + (1 : Int32) = nI (i + 1) from nI_add i 1) ?_
  refine va_sld hx hb hXs hbl hbA hW.2.2.2.1 (vp_in_nI (by omega) (by omega)) dL_law_738 ?_
  refine lv_aload_n hx hb dL_law_739 rfl (lv_at hl 3 rfl) ?_
  refine lv_iload_n hx hb dL_law_740 rfl (lv_at hl 0 rfl) ?_
  refine lv_iconst (v := 2) hx hb dL_law_741 (by decide) ?_
  refine lv_iadd hx hb dL_law_742 ?_
  refine lv_as (z := nI (i + 2)) (show nI i + (2 : Int32) = nI (i + 2) from nI_add i 2) ?_
  refine va_sld hx hb hXs hbl hbA hW.2.2.2.1 (vp_in_nI (by omega) (by omega)) dL_law_743 ?_
  refine gw_callVi (As := [.int (xs (nI (i + 1)).toNatClampNeg), .int (xs (nI (i + 2)).toNatClampNeg)]) (rest := []) F hl.1 hW (xl_E hXL) XE_E (by omega) xe_0 rfl (kX7_forgive h.hO) pd_yX7_forgive ml_RL_86 im_yX7_forgive se_yX7_forgive ini_RX7 cd_yX7_forgive ⟨rfl, rfl⟩ ⟨Nat.le_of_ble_eq_true rfl, Nat.le_of_ble_eq_true rfl⟩ rfl rfl (Nat.le_of_ble_eq_true rfl) ⟨by show cells ≤ 600000; omega, by show slots ≤ 7302250; omega⟩ dL_law_744 (fun r u H1 locs1 hp hX1 _ hk => ?_)
  have hM1 := hM.keep (N2 := 42 + 3 * n) (ad2 := ad) hk hap hX1.2.2.2.1
  refine lv_aload_n hx hb dL_law_747 rfl (lv_at hl 1 rfl) ?_
  refine lv_aload_n hx hb dL_law_748 rfl (lv_at hl 3 rfl) ?_
  refine lv_iload_n hx hb dL_law_749 rfl (lv_at hl 0 rfl) ?_
  refine lv_iconst (v := 1) hx hb dL_law_750 (by decide) ?_
  refine lv_iadd hx hb dL_law_751 ?_
  refine lv_as (z := nI (i + 1)) (show nI i + (1 : Int32) = nI (i + 1) from nI_add i 1) ?_
  refine va_sld hx hb hXs hbl hbA hX1.2.2.2.1 (vp_in_nI (by omega) (by omega)) dL_law_752 ?_
  refine lv_aload_n hx hb dL_law_753 rfl (lv_at hl 3 rfl) ?_
  refine lv_iload_n hx hb dL_law_754 rfl (lv_at hl 0 rfl) ?_
  refine lv_iconst (v := 2) hx hb dL_law_755 (by decide) ?_
  refine lv_iadd hx hb dL_law_756 ?_
  refine lv_as (z := nI (i + 2)) (show nI i + (2 : Int32) = nI (i + 2) from nI_add i 2) ?_
  refine va_sld hx hb hXs hbl hbA hX1.2.2.2.1 (vp_in_nI (by omega) (by omega)) dL_law_757 ?_
  refine gw_callVi (As := [.int (xs (nI (i + 1)).toNatClampNeg), .int (xs (nI (i + 2)).toNatClampNeg)]) (rest := [.int r]) F hl.1 hM1 (fun _ _ _ => trivial) gw_T_E (by decide) (rfl : ment adM cA _ _ _ 0 = _) rfl (kX8_forgive h.hTM h.hM) pd_yX8_forgive ml_RL_89 im_yX8_forgive se_yX8_forgive ini_RX8 cd_yX8_forgive ⟨rfl, rfl⟩ ⟨Nat.le_of_ble_eq_true rfl, Nat.le_of_ble_eq_true rfl⟩ rfl rfl (Nat.le_of_ble_eq_true rfl) ⟨by show cells ≤ 600000; omega, by show slots ≤ 7302250; omega⟩ dL_law_758 (fun r2 u2 H2 locs2 hp2 hM2 _ hk2 => ?_)
  have hX2 := hX1.keep (N2 := 18) (ad2 := adM) hk2 (fun i j hi hj e => hap j i hj hi e.symm) hM2.2.2.2.1
  have he : r = r2 := by rw [hp, hp2.1]; exact hE.pforgive hT (xLx n τ) _ _
  have hLI : LI (ad 0) (adM 0) (fun q : Nat => s.heap.size ≤ q) s H2 locs2 := ⟨D, cs, cA, n, z, ad, adM, u.1, va_up TT 1 u.2, τ, σ, u2, T, σM, hX2, hM2, hap, (by rw [va_up_ne _ _ (by decide), va_up_ne _ _ (by decide)]; exact h), rfl, rfl⟩
  refine lv_icmp_eq (tgt := 1458) hx hb dL_law_761 (by decide) (fun _ => ?_) (fun cn => ?_)
  · refine W.widen (k := cells + 3) (n := slots + 168) (Nat.le_add_right _ _) (Nat.le_add_right _ _) ?_
    exact kk H2 locs2 hLI
  · exact absurd he cn
set_option maxHeartbeats 1000000 in
set_option maxRecDepth 100000 in
theorem lc_18 (l : Launch) : LCase l 766 := by
  intro p e s m below meth c Q b L i a1 a2 tk adK adV xs H locs ls cells slots F hXs hbl hXL hi hL hl hcs hI kk
  obtain ⟨hx, hb, hml, hown, hts⟩ := id F
  have hbA : ¬ (fun q : Nat => s.heap.size ≤ q) b := Nat.not_le.mpr hbl
  obtain ⟨D, cs, cA, n, z, ad, adM, ρ, TT, τ, σ, ρM, T, σM, hW, hM, hap, h, rfl, rfl⟩ := hI
  have hE := h.2.1
  have hT := h.hT
  refine lv_aload_n hx hb dL_law_766 rfl (lv_at hl 2 rfl) ?_
  refine lv_aload_n hx hb dL_law_767 rfl (lv_at hl 3 rfl) ?_
  refine lv_iload_n hx hb dL_law_768 rfl (lv_at hl 0 rfl) ?_
  refine lv_iconst (v := 1) hx hb dL_law_769 (by decide) ?_
  refine lv_iadd hx hb dL_law_770 ?_
  refine lv_as (z := nI (i + 1)) (show nI i + (1 : Int32) = nI (i + 1) from nI_add i 1) ?_
  refine va_sld hx hb hXs hbl hbA hW.2.2.2.1 (vp_in_nI (by omega) (by omega)) dL_law_771 ?_
  refine lv_aload_n hx hb dL_law_772 rfl (lv_at hl 3 rfl) ?_
  refine lv_iload_n hx hb dL_law_773 rfl (lv_at hl 0 rfl) ?_
  refine lv_iconst (v := 2) hx hb dL_law_774 (by decide) ?_
  refine lv_iadd hx hb dL_law_775 ?_
  refine lv_as (z := nI (i + 2)) (show nI i + (2 : Int32) = nI (i + 2) from nI_add i 2) ?_
  refine va_sld hx hb hXs hbl hbA hW.2.2.2.1 (vp_in_nI (by omega) (by omega)) dL_law_776 ?_
  refine gw_callVi (As := [.int (xs (nI (i + 1)).toNatClampNeg), .int (xs (nI (i + 2)).toNatClampNeg)]) (rest := []) F hl.1 hW (xl_E hXL) XE_E (by omega) xe_0 rfl (kX7_alarm h.hO) pd_yX7_alarm ml_RL_90 im_yX7_alarm se_yX7_alarm ini_RX7 cd_yX7_alarm ⟨rfl, rfl⟩ ⟨Nat.le_of_ble_eq_true rfl, Nat.le_of_ble_eq_true rfl⟩ rfl rfl (Nat.le_of_ble_eq_true rfl) ⟨by show cells ≤ 600000; omega, by show slots ≤ 7302250; omega⟩ dL_law_777 (fun r u H1 locs1 hp hX1 _ hk => ?_)
  have hM1 := hM.keep (N2 := 42 + 3 * n) (ad2 := ad) hk hap hX1.2.2.2.1
  refine lv_aload_n hx hb dL_law_780 rfl (lv_at hl 1 rfl) ?_
  refine lv_aload_n hx hb dL_law_781 rfl (lv_at hl 3 rfl) ?_
  refine lv_iload_n hx hb dL_law_782 rfl (lv_at hl 0 rfl) ?_
  refine lv_iconst (v := 1) hx hb dL_law_783 (by decide) ?_
  refine lv_iadd hx hb dL_law_784 ?_
  refine lv_as (z := nI (i + 1)) (show nI i + (1 : Int32) = nI (i + 1) from nI_add i 1) ?_
  refine va_sld hx hb hXs hbl hbA hX1.2.2.2.1 (vp_in_nI (by omega) (by omega)) dL_law_785 ?_
  refine lv_aload_n hx hb dL_law_786 rfl (lv_at hl 3 rfl) ?_
  refine lv_iload_n hx hb dL_law_787 rfl (lv_at hl 0 rfl) ?_
  refine lv_iconst (v := 2) hx hb dL_law_788 (by decide) ?_
  refine lv_iadd hx hb dL_law_789 ?_
  refine lv_as (z := nI (i + 2)) (show nI i + (2 : Int32) = nI (i + 2) from nI_add i 2) ?_
  refine va_sld hx hb hXs hbl hbA hX1.2.2.2.1 (vp_in_nI (by omega) (by omega)) dL_law_790 ?_
  refine gw_callVi (As := [.int (xs (nI (i + 1)).toNatClampNeg), .int (xs (nI (i + 2)).toNatClampNeg)]) (rest := [.int r]) F hl.1 hM1 (fun _ _ _ => trivial) gw_T_E (by decide) (rfl : ment adM cA _ _ _ 0 = _) rfl (kX8_alarm h.hTM h.hM) pd_yX8_alarm ml_RL_93 im_yX8_alarm se_yX8_alarm ini_RX8 cd_yX8_alarm ⟨rfl, rfl⟩ ⟨Nat.le_of_ble_eq_true rfl, Nat.le_of_ble_eq_true rfl⟩ rfl rfl (Nat.le_of_ble_eq_true rfl) ⟨by show cells ≤ 600000; omega, by show slots ≤ 7302250; omega⟩ dL_law_791 (fun r2 u2 H2 locs2 hp2 hM2 _ hk2 => ?_)
  have hX2 := hX1.keep (N2 := 18) (ad2 := adM) hk2 (fun i j hi hj e => hap j i hj hi e.symm) hM2.2.2.2.1
  have he : r = r2 := by rw [hp, hp2]; exact hE.palarm hT (xLx n τ) _ _
  have hLI : LI (ad 0) (adM 0) (fun q : Nat => s.heap.size ≤ q) s H2 locs2 := ⟨D, cs, cA, n, z, ad, adM, u.1, va_up TT 1 u.2, τ, σ, u2, T, σM, hX2, hM2, hap, (by rw [va_up_ne _ _ (by decide), va_up_ne _ _ (by decide)]; exact h), rfl, rfl⟩
  refine lv_icmp_eq (tgt := 1458) hx hb dL_law_794 (by decide) (fun _ => ?_) (fun cn => ?_)
  · refine W.widen (k := cells + 3) (n := slots + 168) (Nat.le_add_right _ _) (Nat.le_add_right _ _) ?_
    exact kk H2 locs2 hLI
  · exact absurd he cn
set_option maxHeartbeats 1000000 in
set_option maxRecDepth 100000 in
theorem lc_19 (l : Launch) : LCase l 799 := by
  intro p e s m below meth c Q b L i a1 a2 tk adK adV xs H locs ls cells slots F hXs hbl hXL hi hL hl hcs hI kk
  obtain ⟨hx, hb, hml, hown, hts⟩ := id F
  have hbA : ¬ (fun q : Nat => s.heap.size ≤ q) b := Nat.not_le.mpr hbl
  obtain ⟨D, cs, cA, n, z, ad, adM, ρ, TT, τ, σ, ρM, T, σM, hW, hM, hap, h, rfl, rfl⟩ := hI
  have hE := h.2.1
  have hT := h.hT
  refine lv_aload_n hx hb dL_law_799 rfl (lv_at hl 2 rfl) ?_
  refine lv_aload_n hx hb dL_law_800 rfl (lv_at hl 3 rfl) ?_
  refine lv_iload_n hx hb dL_law_801 rfl (lv_at hl 0 rfl) ?_
  refine lv_iconst (v := 1) hx hb dL_law_802 (by decide) ?_
  refine lv_iadd hx hb dL_law_803 ?_
  refine lv_as (z := nI (i + 1)) (show nI i + (1 : Int32) = nI (i + 1) from nI_add i 1) ?_
  refine va_sld hx hb hXs hbl hbA hW.2.2.2.1 (vp_in_nI (by omega) (by omega)) dL_law_804 ?_
  refine lv_aload_n hx hb dL_law_805 rfl (lv_at hl 3 rfl) ?_
  refine lv_iload_n hx hb dL_law_806 rfl (lv_at hl 0 rfl) ?_
  refine lv_iconst (v := 2) hx hb dL_law_807 (by decide) ?_
  refine lv_iadd hx hb dL_law_808 ?_
  refine lv_as (z := nI (i + 2)) (show nI i + (2 : Int32) = nI (i + 2) from nI_add i 2) ?_
  refine va_sld hx hb hXs hbl hbA hW.2.2.2.1 (vp_in_nI (by omega) (by omega)) dL_law_809 ?_
  refine gw_callVi (As := [.int (xs (nI (i + 1)).toNatClampNeg), .int (xs (nI (i + 2)).toNatClampNeg)]) (rest := []) F hl.1 hW (xl_E hXL) XE_E (by omega) xe_0 rfl (kX7_change h.hO) pd_yX7_change ml_RL_94 im_yX7_change se_yX7_change ini_RX7 cd_yX7_change ⟨rfl, rfl⟩ ⟨Nat.le_of_ble_eq_true rfl, Nat.le_of_ble_eq_true rfl⟩ rfl rfl (Nat.le_of_ble_eq_true rfl) ⟨by show cells ≤ 600000; omega, by show slots ≤ 7302250; omega⟩ dL_law_810 (fun r u H1 locs1 hp hX1 _ hk => ?_)
  have hM1 := hM.keep (N2 := 42 + 3 * n) (ad2 := ad) hk hap hX1.2.2.2.1
  refine lv_aload_n hx hb dL_law_813 rfl (lv_at hl 1 rfl) ?_
  refine lv_aload_n hx hb dL_law_814 rfl (lv_at hl 3 rfl) ?_
  refine lv_iload_n hx hb dL_law_815 rfl (lv_at hl 0 rfl) ?_
  refine lv_iconst (v := 1) hx hb dL_law_816 (by decide) ?_
  refine lv_iadd hx hb dL_law_817 ?_
  refine lv_as (z := nI (i + 1)) (show nI i + (1 : Int32) = nI (i + 1) from nI_add i 1) ?_
  refine va_sld hx hb hXs hbl hbA hX1.2.2.2.1 (vp_in_nI (by omega) (by omega)) dL_law_818 ?_
  refine lv_aload_n hx hb dL_law_819 rfl (lv_at hl 3 rfl) ?_
  refine lv_iload_n hx hb dL_law_820 rfl (lv_at hl 0 rfl) ?_
  refine lv_iconst (v := 2) hx hb dL_law_821 (by decide) ?_
  refine lv_iadd hx hb dL_law_822 ?_
  refine lv_as (z := nI (i + 2)) (show nI i + (2 : Int32) = nI (i + 2) from nI_add i 2) ?_
  refine va_sld hx hb hXs hbl hbA hX1.2.2.2.1 (vp_in_nI (by omega) (by omega)) dL_law_823 ?_
  refine gw_callVi (As := [.int (xs (nI (i + 1)).toNatClampNeg), .int (xs (nI (i + 2)).toNatClampNeg)]) (rest := [.int r]) F hl.1 hM1 (fun _ _ _ => trivial) gw_T_E (by decide) (rfl : ment adM cA _ _ _ 0 = _) rfl (kX8_change h.hTM h.hM) pd_yX8_change ml_RL_97 im_yX8_change se_yX8_change ini_RX8 cd_yX8_change ⟨rfl, rfl⟩ ⟨Nat.le_of_ble_eq_true rfl, Nat.le_of_ble_eq_true rfl⟩ rfl rfl (Nat.le_of_ble_eq_true rfl) ⟨by show cells ≤ 600000; omega, by show slots ≤ 7302250; omega⟩ dL_law_824 (fun r2 u2 H2 locs2 hp2 hM2 _ hk2 => ?_)
  have hX2 := hX1.keep (N2 := 18) (ad2 := adM) hk2 (fun i j hi hj e => hap j i hj hi e.symm) hM2.2.2.2.1
  have he : r = r2 := by rw [hp, hp2]; exact hE.pchange hT (xLx n τ) _ _
  have hLI : LI (ad 0) (adM 0) (fun q : Nat => s.heap.size ≤ q) s H2 locs2 := ⟨D, cs, cA, n, z, ad, adM, u.1, va_up TT 1 u.2, τ, σ, u2, T, σM, hX2, hM2, hap, (by rw [va_up_ne _ _ (by decide), va_up_ne _ _ (by decide)]; exact h), rfl, rfl⟩
  refine lv_icmp_eq (tgt := 1458) hx hb dL_law_827 (by decide) (fun _ => ?_) (fun cn => ?_)
  · refine W.widen (k := cells + 3) (n := slots + 168) (Nat.le_add_right _ _) (Nat.le_add_right _ _) ?_
    exact kk H2 locs2 hLI
  · exact absurd he cn
set_option maxHeartbeats 1000000 in
set_option maxRecDepth 100000 in
theorem lc_20 (l : Launch) : LCase l 832 := by
  intro p e s m below meth c Q b L i a1 a2 tk adK adV xs H locs ls cells slots F hXs hbl hXL hi hL hl hcs hI kk
  obtain ⟨hx, hb, hml, hown, hts⟩ := id F
  have hbA : ¬ (fun q : Nat => s.heap.size ≤ q) b := Nat.not_le.mpr hbl
  obtain ⟨D, cs, cA, n, z, ad, adM, ρ, TT, τ, σ, ρM, T, σM, hW, hM, hap, h, rfl, rfl⟩ := hI
  have hE := h.2.1
  have hT := h.hT
  refine lv_aload_n hx hb dL_law_832 rfl (lv_at hl 2 rfl) ?_
  refine lv_aload_n hx hb dL_law_833 rfl (lv_at hl 3 rfl) ?_
  refine lv_iload_n hx hb dL_law_834 rfl (lv_at hl 0 rfl) ?_
  refine lv_iconst (v := 1) hx hb dL_law_835 (by decide) ?_
  refine lv_iadd hx hb dL_law_836 ?_
  refine lv_as (z := nI (i + 1)) (show nI i + (1 : Int32) = nI (i + 1) from nI_add i 1) ?_
  refine va_sld hx hb hXs hbl hbA hW.2.2.2.1 (vp_in_nI (by omega) (by omega)) dL_law_837 ?_
  refine gw_callVi (As := [.int (xs (nI (i + 1)).toNatClampNeg)]) (rest := []) F hl.1 hW (xl_E hXL) XE_E (by omega) xe_0 rfl (kX7_bold h.hO) pd_yX7_bold ml_RL_98 im_yX7_bold se_yX7_bold ini_RX7 cd_yX7_bold ⟨rfl, rfl⟩ ⟨Nat.le_of_ble_eq_true rfl, Nat.le_of_ble_eq_true rfl⟩ rfl rfl (Nat.le_of_ble_eq_true rfl) ⟨by show cells ≤ 600000; omega, by show slots ≤ 7302250; omega⟩ dL_law_838 (fun r u H1 locs1 hp hX1 _ hk => ?_)
  have hM1 := hM.keep (N2 := 42 + 3 * n) (ad2 := ad) hk hap hX1.2.2.2.1
  refine lv_aload_n hx hb dL_law_841 rfl (lv_at hl 1 rfl) ?_
  refine lv_aload_n hx hb dL_law_842 rfl (lv_at hl 3 rfl) ?_
  refine lv_iload_n hx hb dL_law_843 rfl (lv_at hl 0 rfl) ?_
  refine lv_iconst (v := 1) hx hb dL_law_844 (by decide) ?_
  refine lv_iadd hx hb dL_law_845 ?_
  refine lv_as (z := nI (i + 1)) (show nI i + (1 : Int32) = nI (i + 1) from nI_add i 1) ?_
  refine va_sld hx hb hXs hbl hbA hX1.2.2.2.1 (vp_in_nI (by omega) (by omega)) dL_law_846 ?_
  refine gw_callVi (As := [.int (xs (nI (i + 1)).toNatClampNeg)]) (rest := [.int r]) F hl.1 hM1 (fun _ _ _ => trivial) gw_T_E (by decide) (rfl : ment adM cA _ _ _ 0 = _) rfl (kX8_bold h.hTM h.hM) pd_yX8_bold ml_RL_101 im_yX8_bold se_yX8_bold ini_RX8 cd_yX8_bold ⟨rfl, rfl⟩ ⟨Nat.le_of_ble_eq_true rfl, Nat.le_of_ble_eq_true rfl⟩ rfl rfl (Nat.le_of_ble_eq_true rfl) ⟨by show cells ≤ 600000; omega, by show slots ≤ 7302250; omega⟩ dL_law_847 (fun r2 u2 H2 locs2 hp2 hM2 _ hk2 => ?_)
  have hX2 := hX1.keep (N2 := 18) (ad2 := adM) hk2 (fun i j hi hj e => hap j i hj hi e.symm) hM2.2.2.2.1
  have he : r = r2 := by rw [hp, hp2.1]; exact hE.pbold hT (xLx n τ) _
  have hLI : LI (ad 0) (adM 0) (fun q : Nat => s.heap.size ≤ q) s H2 locs2 := ⟨D, cs, cA, n, z, ad, adM, u.1, va_up TT 1 u.2, τ, σ, u2, T, σM, hX2, hM2, hap, (by rw [va_up_ne _ _ (by decide), va_up_ne _ _ (by decide)]; exact h), rfl, rfl⟩
  refine lv_icmp_eq (tgt := 1458) hx hb dL_law_850 (by decide) (fun _ => ?_) (fun cn => ?_)
  · refine W.widen (k := cells + 3) (n := slots + 168) (Nat.le_add_right _ _) (Nat.le_add_right _ _) ?_
    exact kk H2 locs2 hLI
  · exact absurd he cn
set_option maxHeartbeats 1000000 in
set_option maxRecDepth 100000 in
theorem lc_21 (l : Launch) : LCase l 855 := by
  intro p e s m below meth c Q b L i a1 a2 tk adK adV xs H locs ls cells slots F hXs hbl hXL hi hL hl hcs hI kk
  obtain ⟨hx, hb, hml, hown, hts⟩ := id F
  have hbA : ¬ (fun q : Nat => s.heap.size ≤ q) b := Nat.not_le.mpr hbl
  obtain ⟨D, cs, cA, n, z, ad, adM, ρ, TT, τ, σ, ρM, T, σM, hW, hM, hap, h, rfl, rfl⟩ := hI
  have hE := h.2.1
  have hT := h.hT
  refine lv_aload_n hx hb dL_law_855 rfl (lv_at hl 2 rfl) ?_
  refine lv_aload_n hx hb dL_law_856 rfl (lv_at hl 3 rfl) ?_
  refine lv_iload_n hx hb dL_law_857 rfl (lv_at hl 0 rfl) ?_
  refine lv_iconst (v := 1) hx hb dL_law_858 (by decide) ?_
  refine lv_iadd hx hb dL_law_859 ?_
  refine lv_as (z := nI (i + 1)) (show nI i + (1 : Int32) = nI (i + 1) from nI_add i 1) ?_
  refine va_sld hx hb hXs hbl hbA hW.2.2.2.1 (vp_in_nI (by omega) (by omega)) dL_law_860 ?_
  refine gw_callVl (As := [.int (xs (nI (i + 1)).toNatClampNeg)]) (rest := []) F hl.1 hW (xl_E hXL) XE_E (by omega) xe_0 rfl (kX7_mean h.hO) pd_yX7_mean ml_RL_102 im_yX7_mean se_yX7_mean ini_RX7 cd_yX7_mean ⟨rfl, rfl⟩ ⟨Nat.le_of_ble_eq_true rfl, Nat.le_of_ble_eq_true rfl⟩ rfl rfl (Nat.le_of_ble_eq_true rfl) ⟨by show cells ≤ 600000; omega, by show slots ≤ 7302250; omega⟩ dL_law_861 (fun r u H1 locs1 hp hX1 _ hk => ?_)
  have hM1 := hM.keep (N2 := 42 + 3 * n) (ad2 := ad) hk hap hX1.2.2.2.1
  refine lv_aload_n hx hb dL_law_864 rfl (lv_at hl 1 rfl) ?_
  refine lv_aload_n hx hb dL_law_865 rfl (lv_at hl 3 rfl) ?_
  refine lv_iload_n hx hb dL_law_866 rfl (lv_at hl 0 rfl) ?_
  refine lv_iconst (v := 1) hx hb dL_law_867 (by decide) ?_
  refine lv_iadd hx hb dL_law_868 ?_
  refine lv_as (z := nI (i + 1)) (show nI i + (1 : Int32) = nI (i + 1) from nI_add i 1) ?_
  refine va_sld hx hb hXs hbl hbA hX1.2.2.2.1 (vp_in_nI (by omega) (by omega)) dL_law_869 ?_
  refine gw_callVl (As := [.int (xs (nI (i + 1)).toNatClampNeg)]) (rest := [.long r]) F hl.1 hM1 (fun _ _ _ => trivial) gw_T_E (by decide) (rfl : ment adM cA _ _ _ 0 = _) rfl (kX8_mean h.hTM) pd_yX8_mean ml_RL_106 im_yX8_mean se_yX8_mean ini_RX8 cd_yX8_mean ⟨rfl, rfl⟩ ⟨Nat.le_of_ble_eq_true rfl, Nat.le_of_ble_eq_true rfl⟩ rfl rfl (Nat.le_of_ble_eq_true rfl) ⟨by show cells ≤ 600000; omega, by show slots ≤ 7302250; omega⟩ dL_law_870 (fun r2 u2 H2 locs2 hp2 hM2 _ hk2 => ?_)
  have hX2 := hX1.keep (N2 := 18) (ad2 := adM) hk2 (fun i j hi hj e => hap j i hj hi e.symm) hM2.2.2.2.1
  have he : r = r2 := by rw [hp, hp2]; exact hE.pmean _
  have hLI : LI (ad 0) (adM 0) (fun q : Nat => s.heap.size ≤ q) s H2 locs2 := ⟨D, cs, cA, n, z, ad, adM, u, TT, τ, σ, ρM, T, σM, hX2, hM2, hap, h, rfl, rfl⟩
  refine W.lcmp hx hb dL_law_873 ?_
  refine lv_if_eq (tgt := 1458) hx hb dL_law_874 (by decide) (fun _ => ?_) (fun cn => ?_)
  · refine W.widen (k := cells + 3) (n := slots + 168) (Nat.le_add_right _ _) (Nat.le_add_right _ _) ?_
    exact kk H2 locs2 hLI
  · exact absurd (by rw [he]; exact lgc_s r2) cn
set_option maxHeartbeats 1000000 in
set_option maxRecDepth 100000 in
theorem lc_22 (l : Launch) : LCase l 879 := by
  intro p e s m below meth c Q b L i a1 a2 tk adK adV xs H locs ls cells slots F hXs hbl hXL hi hL hl hcs hI kk
  obtain ⟨hx, hb, hml, hown, hts⟩ := id F
  have hbA : ¬ (fun q : Nat => s.heap.size ≤ q) b := Nat.not_le.mpr hbl
  obtain ⟨D, cs, cA, n, z, ad, adM, ρ, TT, τ, σ, ρM, T, σM, hW, hM, hap, h, rfl, rfl⟩ := hI
  have hE := h.2.1
  have hT := h.hT
  refine lv_aload_n hx hb dL_law_879 rfl (lv_at hl 2 rfl) ?_
  refine lv_aload_n hx hb dL_law_880 rfl (lv_at hl 3 rfl) ?_
  refine lv_iload_n hx hb dL_law_881 rfl (lv_at hl 0 rfl) ?_
  refine lv_iconst (v := 1) hx hb dL_law_882 (by decide) ?_
  refine lv_iadd hx hb dL_law_883 ?_
  refine lv_as (z := nI (i + 1)) (show nI i + (1 : Int32) = nI (i + 1) from nI_add i 1) ?_
  refine va_sld hx hb hXs hbl hbA hW.2.2.2.1 (vp_in_nI (by omega) (by omega)) dL_law_884 ?_
  refine gw_callVi (As := [.int (xs (nI (i + 1)).toNatClampNeg)]) (rest := []) F hl.1 hW (xl_E hXL) XE_E (by omega) xe_0 rfl (kX7_judge h.hO h.hSh) pd_yX7_judge ml_RL_107 im_yX7_judge se_yX7_judge ini_RX7 cd_yX7_judge ⟨rfl, rfl⟩ ⟨Nat.le_of_ble_eq_true rfl, Nat.le_of_ble_eq_true rfl⟩ rfl rfl (Nat.le_of_ble_eq_true rfl) ⟨by show cells ≤ 600000; omega, by show slots ≤ 7302250; omega⟩ dL_law_885 (fun r u H1 locs1 hp hX1 _ hk => ?_)
  have hM1 := hM.keep (N2 := 42 + 3 * n) (ad2 := ad) hk hap hX1.2.2.2.1
  refine lv_aload_n hx hb dL_law_888 rfl (lv_at hl 1 rfl) ?_
  refine lv_aload_n hx hb dL_law_889 rfl (lv_at hl 3 rfl) ?_
  refine lv_iload_n hx hb dL_law_890 rfl (lv_at hl 0 rfl) ?_
  refine lv_iconst (v := 1) hx hb dL_law_891 (by decide) ?_
  refine lv_iadd hx hb dL_law_892 ?_
  refine lv_as (z := nI (i + 1)) (show nI i + (1 : Int32) = nI (i + 1) from nI_add i 1) ?_
  refine va_sld hx hb hXs hbl hbA hX1.2.2.2.1 (vp_in_nI (by omega) (by omega)) dL_law_893 ?_
  refine gw_callVi (As := [.int (xs (nI (i + 1)).toNatClampNeg)]) (rest := [.int r]) F hl.1 hM1 (fun _ _ _ => trivial) gw_T_E (by decide) (rfl : ment adM cA _ _ _ 0 = _) rfl (kX8_judge h.hTM h.hM h.hSM) pd_yX8_judge ml_RL_110 im_yX8_judge se_yX8_judge ini_RX8 cd_yX8_judge ⟨rfl, rfl⟩ ⟨Nat.le_of_ble_eq_true rfl, Nat.le_of_ble_eq_true rfl⟩ rfl rfl (Nat.le_of_ble_eq_true rfl) ⟨by show cells ≤ 600000; omega, by show slots ≤ 7302250; omega⟩ dL_law_894 (fun r2 u2 H2 locs2 hp2 hM2 _ hk2 => ?_)
  have hX2 := hX1.keep (N2 := 18) (ad2 := adM) hk2 (fun i j hi hj e => hap j i hj hi e.symm) hM2.2.2.2.1
  have he : r = r2 := by rw [hp, hp2]; exact hE.pjudge hT h.sheets (xLx n τ) _
  have hLI : LI (ad 0) (adM 0) (fun q : Nat => s.heap.size ≤ q) s H2 locs2 := ⟨D, cs, cA, n, z, ad, adM, u.1, va_up TT 1 u.2, τ, σ, u2, T, σM, hX2, hM2, hap, (by rw [va_up_ne _ _ (by decide), va_up_ne _ _ (by decide)]; exact h), rfl, rfl⟩
  refine lv_icmp_eq (tgt := 1458) hx hb dL_law_897 (by decide) (fun _ => ?_) (fun cn => ?_)
  · refine W.widen (k := cells + 3) (n := slots + 168) (Nat.le_add_right _ _) (Nat.le_add_right _ _) ?_
    exact kk H2 locs2 hLI
  · exact absurd he cn
set_option maxHeartbeats 1000000 in
set_option maxRecDepth 100000 in
theorem lc_23 (l : Launch) : LCase l 902 := by
  intro p e s m below meth c Q b L i a1 a2 tk adK adV xs H locs ls cells slots F hXs hbl hXL hi hL hl hcs hI kk
  obtain ⟨hx, hb, hml, hown, hts⟩ := id F
  have hbA : ¬ (fun q : Nat => s.heap.size ≤ q) b := Nat.not_le.mpr hbl
  obtain ⟨D, cs, cA, n, z, ad, adM, ρ, TT, τ, σ, ρM, T, σM, hW, hM, hap, h, rfl, rfl⟩ := hI
  have hE := h.2.1
  have hT := h.hT
  refine lv_aload_n hx hb dL_law_902 rfl (lv_at hl 2 rfl) ?_
  refine lv_aload_n hx hb dL_law_903 rfl (lv_at hl 3 rfl) ?_
  refine lv_iload_n hx hb dL_law_904 rfl (lv_at hl 0 rfl) ?_
  refine lv_iconst (v := 1) hx hb dL_law_905 (by decide) ?_
  refine lv_iadd hx hb dL_law_906 ?_
  refine lv_as (z := nI (i + 1)) (show nI i + (1 : Int32) = nI (i + 1) from nI_add i 1) ?_
  refine va_sld hx hb hXs hbl hbA hW.2.2.2.1 (vp_in_nI (by omega) (by omega)) dL_law_907 ?_
  refine lv_aload_n hx hb dL_law_908 rfl (lv_at hl 3 rfl) ?_
  refine lv_iload_n hx hb dL_law_909 rfl (lv_at hl 0 rfl) ?_
  refine lv_iconst (v := 2) hx hb dL_law_910 (by decide) ?_
  refine lv_iadd hx hb dL_law_911 ?_
  refine lv_as (z := nI (i + 2)) (show nI i + (2 : Int32) = nI (i + 2) from nI_add i 2) ?_
  refine va_sld hx hb hXs hbl hbA hW.2.2.2.1 (vp_in_nI (by omega) (by omega)) dL_law_912 ?_
  refine lv_aload_n hx hb dL_law_913 rfl (lv_at hl 3 rfl) ?_
  refine lv_iload_n hx hb dL_law_914 rfl (lv_at hl 0 rfl) ?_
  refine lv_iconst (v := 3) hx hb dL_law_915 (by decide) ?_
  refine lv_iadd hx hb dL_law_916 ?_
  refine lv_as (z := nI (i + 3)) (show nI i + (3 : Int32) = nI (i + 3) from nI_add i 3) ?_
  refine va_sld hx hb hXs hbl hbA hW.2.2.2.1 (vp_in_nI (by omega) (by omega)) dL_law_917 ?_
  refine gw_callVi (As := [.int (xs (nI (i + 1)).toNatClampNeg), .int (xs (nI (i + 2)).toNatClampNeg), .int (xs (nI (i + 3)).toNatClampNeg)]) (rest := []) F hl.1 hW (xl_E hXL) XE_E (by omega) xe_0 rfl (kX7_kinds h.hO h.hSh) pd_yX7_kinds ml_RL_111 im_yX7_kinds se_yX7_kinds ini_RX7 cd_yX7_kinds ⟨rfl, rfl⟩ ⟨Nat.le_of_ble_eq_true rfl, Nat.le_of_ble_eq_true rfl⟩ rfl rfl (Nat.le_of_ble_eq_true rfl) ⟨by show cells ≤ 600000; omega, by show slots ≤ 7302250; omega⟩ dL_law_918 (fun r u H1 locs1 hp hX1 _ hk => ?_)
  have hM1 := hM.keep (N2 := 42 + 3 * n) (ad2 := ad) hk hap hX1.2.2.2.1
  refine lv_aload_n hx hb dL_law_921 rfl (lv_at hl 1 rfl) ?_
  refine lv_aload_n hx hb dL_law_922 rfl (lv_at hl 3 rfl) ?_
  refine lv_iload_n hx hb dL_law_923 rfl (lv_at hl 0 rfl) ?_
  refine lv_iconst (v := 1) hx hb dL_law_924 (by decide) ?_
  refine lv_iadd hx hb dL_law_925 ?_
  refine lv_as (z := nI (i + 1)) (show nI i + (1 : Int32) = nI (i + 1) from nI_add i 1) ?_
  refine va_sld hx hb hXs hbl hbA hX1.2.2.2.1 (vp_in_nI (by omega) (by omega)) dL_law_926 ?_
  refine lv_aload_n hx hb dL_law_927 rfl (lv_at hl 3 rfl) ?_
  refine lv_iload_n hx hb dL_law_928 rfl (lv_at hl 0 rfl) ?_
  refine lv_iconst (v := 2) hx hb dL_law_929 (by decide) ?_
  refine lv_iadd hx hb dL_law_930 ?_
  refine lv_as (z := nI (i + 2)) (show nI i + (2 : Int32) = nI (i + 2) from nI_add i 2) ?_
  refine va_sld hx hb hXs hbl hbA hX1.2.2.2.1 (vp_in_nI (by omega) (by omega)) dL_law_931 ?_
  refine lv_aload_n hx hb dL_law_932 rfl (lv_at hl 3 rfl) ?_
  refine lv_iload_n hx hb dL_law_933 rfl (lv_at hl 0 rfl) ?_
  refine lv_iconst (v := 3) hx hb dL_law_934 (by decide) ?_
  refine lv_iadd hx hb dL_law_935 ?_
  refine lv_as (z := nI (i + 3)) (show nI i + (3 : Int32) = nI (i + 3) from nI_add i 3) ?_
  refine va_sld hx hb hXs hbl hbA hX1.2.2.2.1 (vp_in_nI (by omega) (by omega)) dL_law_936 ?_
  refine gw_callVi (As := [.int (xs (nI (i + 1)).toNatClampNeg), .int (xs (nI (i + 2)).toNatClampNeg), .int (xs (nI (i + 3)).toNatClampNeg)]) (rest := [.int r]) F hl.1 hM1 (fun _ _ _ => trivial) gw_T_E (by decide) (rfl : ment adM cA _ _ _ 0 = _) rfl (kX8_kinds h.hTM h.hM h.hSM) pd_yX8_kinds ml_RL_114 im_yX8_kinds se_yX8_kinds ini_RX8 cd_yX8_kinds ⟨rfl, rfl⟩ ⟨Nat.le_of_ble_eq_true rfl, Nat.le_of_ble_eq_true rfl⟩ rfl rfl (Nat.le_of_ble_eq_true rfl) ⟨by show cells ≤ 600000; omega, by show slots ≤ 7302250; omega⟩ dL_law_937 (fun r2 u2 H2 locs2 hp2 hM2 _ hk2 => ?_)
  have hX2 := hX1.keep (N2 := 18) (ad2 := adM) hk2 (fun i j hi hj e => hap j i hj hi e.symm) hM2.2.2.2.1
  have he : r = r2 := by rw [hp, hp2]; exact hE.pkinds hT h.sheets (xLx n τ) _ _ _
  have hLI : LI (ad 0) (adM 0) (fun q : Nat => s.heap.size ≤ q) s H2 locs2 := ⟨D, cs, cA, n, z, ad, adM, u.1, va_up TT 1 u.2, τ, σ, u2, T, σM, hX2, hM2, hap, (by rw [va_up_ne _ _ (by decide), va_up_ne _ _ (by decide)]; exact h), rfl, rfl⟩
  refine lv_icmp_eq (tgt := 1458) hx hb dL_law_940 (by decide) (fun _ => ?_) (fun cn => ?_)
  · refine W.widen (k := cells + 3) (n := slots + 168) (Nat.le_add_right _ _) (Nat.le_add_right _ _) ?_
    exact kk H2 locs2 hLI
  · exact absurd he cn
set_option maxHeartbeats 1000000 in
set_option maxRecDepth 100000 in
theorem lc_24 (l : Launch) : LCase l 945 := by
  intro p e s m below meth c Q b L i a1 a2 tk adK adV xs H locs ls cells slots F hXs hbl hXL hi hL hl hcs hI kk
  obtain ⟨hx, hb, hml, hown, hts⟩ := id F
  have hbA : ¬ (fun q : Nat => s.heap.size ≤ q) b := Nat.not_le.mpr hbl
  obtain ⟨D, cs, cA, n, z, ad, adM, ρ, TT, τ, σ, ρM, T, σM, hW, hM, hap, h, rfl, rfl⟩ := hI
  have hE := h.2.1
  have hT := h.hT
  refine lv_aload_n hx hb dL_law_945 rfl (lv_at hl 2 rfl) ?_
  refine lv_aload_n hx hb dL_law_946 rfl (lv_at hl 3 rfl) ?_
  refine lv_iload_n hx hb dL_law_947 rfl (lv_at hl 0 rfl) ?_
  refine lv_iconst (v := 1) hx hb dL_law_948 (by decide) ?_
  refine lv_iadd hx hb dL_law_949 ?_
  refine lv_as (z := nI (i + 1)) (show nI i + (1 : Int32) = nI (i + 1) from nI_add i 1) ?_
  refine va_sld hx hb hXs hbl hbA hW.2.2.2.1 (vp_in_nI (by omega) (by omega)) dL_law_950 ?_
  refine lv_aload_n hx hb dL_law_951 rfl (lv_at hl 3 rfl) ?_
  refine lv_iload_n hx hb dL_law_952 rfl (lv_at hl 0 rfl) ?_
  refine lv_iconst (v := 2) hx hb dL_law_953 (by decide) ?_
  refine lv_iadd hx hb dL_law_954 ?_
  refine lv_as (z := nI (i + 2)) (show nI i + (2 : Int32) = nI (i + 2) from nI_add i 2) ?_
  refine va_sld hx hb hXs hbl hbA hW.2.2.2.1 (vp_in_nI (by omega) (by omega)) dL_law_955 ?_
  refine gw_callVi (As := [.int (xs (nI (i + 1)).toNatClampNeg), .int (xs (nI (i + 2)).toNatClampNeg)]) (rest := []) F hl.1 hW (xl_E hXL) XE_E (by omega) xe_0 rfl (kX7_turned h.hO h.hSh) pd_yX7_turned ml_RL_115 im_yX7_turned se_yX7_turned ini_RX7 cd_yX7_turned ⟨rfl, rfl⟩ ⟨Nat.le_of_ble_eq_true rfl, Nat.le_of_ble_eq_true rfl⟩ rfl rfl (Nat.le_of_ble_eq_true rfl) ⟨by show cells ≤ 600000; omega, by show slots ≤ 7302250; omega⟩ dL_law_956 (fun r u H1 locs1 hp hX1 _ hk => ?_)
  have hM1 := hM.keep (N2 := 42 + 3 * n) (ad2 := ad) hk hap hX1.2.2.2.1
  refine lv_aload_n hx hb dL_law_959 rfl (lv_at hl 1 rfl) ?_
  refine lv_aload_n hx hb dL_law_960 rfl (lv_at hl 3 rfl) ?_
  refine lv_iload_n hx hb dL_law_961 rfl (lv_at hl 0 rfl) ?_
  refine lv_iconst (v := 1) hx hb dL_law_962 (by decide) ?_
  refine lv_iadd hx hb dL_law_963 ?_
  refine lv_as (z := nI (i + 1)) (show nI i + (1 : Int32) = nI (i + 1) from nI_add i 1) ?_
  refine va_sld hx hb hXs hbl hbA hX1.2.2.2.1 (vp_in_nI (by omega) (by omega)) dL_law_964 ?_
  refine lv_aload_n hx hb dL_law_965 rfl (lv_at hl 3 rfl) ?_
  refine lv_iload_n hx hb dL_law_966 rfl (lv_at hl 0 rfl) ?_
  refine lv_iconst (v := 2) hx hb dL_law_967 (by decide) ?_
  refine lv_iadd hx hb dL_law_968 ?_
  refine lv_as (z := nI (i + 2)) (show nI i + (2 : Int32) = nI (i + 2) from nI_add i 2) ?_
  refine va_sld hx hb hXs hbl hbA hX1.2.2.2.1 (vp_in_nI (by omega) (by omega)) dL_law_969 ?_
  refine gw_callVi (As := [.int (xs (nI (i + 1)).toNatClampNeg), .int (xs (nI (i + 2)).toNatClampNeg)]) (rest := [.int r]) F hl.1 hM1 (fun _ _ _ => trivial) gw_T_E (by decide) (rfl : ment adM cA _ _ _ 0 = _) rfl (kX8_turned h.hTM h.hM h.hSM) pd_yX8_turned ml_RL_118 im_yX8_turned se_yX8_turned ini_RX8 cd_yX8_turned ⟨rfl, rfl⟩ ⟨Nat.le_of_ble_eq_true rfl, Nat.le_of_ble_eq_true rfl⟩ rfl rfl (Nat.le_of_ble_eq_true rfl) ⟨by show cells ≤ 600000; omega, by show slots ≤ 7302250; omega⟩ dL_law_970 (fun r2 u2 H2 locs2 hp2 hM2 _ hk2 => ?_)
  have hX2 := hX1.keep (N2 := 18) (ad2 := adM) hk2 (fun i j hi hj e => hap j i hj hi e.symm) hM2.2.2.2.1
  have he : r = r2 := by rw [hp, hp2]; exact hE.pturned hT h.sheets (xLx n τ) _ _
  have hLI : LI (ad 0) (adM 0) (fun q : Nat => s.heap.size ≤ q) s H2 locs2 := ⟨D, cs, cA, n, z, ad, adM, u.1, va_up TT 1 u.2, τ, σ, u2, T, σM, hX2, hM2, hap, (by rw [va_up_ne _ _ (by decide), va_up_ne _ _ (by decide)]; exact h), rfl, rfl⟩
  refine lv_icmp_eq (tgt := 1458) hx hb dL_law_973 (by decide) (fun _ => ?_) (fun cn => ?_)
  · refine W.widen (k := cells + 3) (n := slots + 168) (Nat.le_add_right _ _) (Nat.le_add_right _ _) ?_
    exact kk H2 locs2 hLI
  · exact absurd he cn
set_option maxHeartbeats 1000000 in
set_option maxRecDepth 100000 in
theorem lc_25 (l : Launch) : LCase l 978 := by
  intro p e s m below meth c Q b L i a1 a2 tk adK adV xs H locs ls cells slots F hXs hbl hXL hi hL hl hcs hI kk
  obtain ⟨hx, hb, hml, hown, hts⟩ := id F
  have hbA : ¬ (fun q : Nat => s.heap.size ≤ q) b := Nat.not_le.mpr hbl
  obtain ⟨D, cs, cA, n, z, ad, adM, ρ, TT, τ, σ, ρM, T, σM, hW, hM, hap, h, rfl, rfl⟩ := hI
  have hE := h.2.1
  have hT := h.hT
  refine lv_aload_n hx hb dL_law_978 rfl (lv_at hl 2 rfl) ?_
  refine lv_aload_n hx hb dL_law_979 rfl (lv_at hl 3 rfl) ?_
  refine lv_iload_n hx hb dL_law_980 rfl (lv_at hl 0 rfl) ?_
  refine lv_iconst (v := 1) hx hb dL_law_981 (by decide) ?_
  refine lv_iadd hx hb dL_law_982 ?_
  refine lv_as (z := nI (i + 1)) (show nI i + (1 : Int32) = nI (i + 1) from nI_add i 1) ?_
  refine va_sld hx hb hXs hbl hbA hW.2.2.2.1 (vp_in_nI (by omega) (by omega)) dL_law_983 ?_
  refine lv_aload_n hx hb dL_law_984 rfl (lv_at hl 3 rfl) ?_
  refine lv_iload_n hx hb dL_law_985 rfl (lv_at hl 0 rfl) ?_
  refine lv_iconst (v := 2) hx hb dL_law_986 (by decide) ?_
  refine lv_iadd hx hb dL_law_987 ?_
  refine lv_as (z := nI (i + 2)) (show nI i + (2 : Int32) = nI (i + 2) from nI_add i 2) ?_
  refine va_sld hx hb hXs hbl hbA hW.2.2.2.1 (vp_in_nI (by omega) (by omega)) dL_law_988 ?_
  refine lv_aload_n hx hb dL_law_989 rfl (lv_at hl 3 rfl) ?_
  refine lv_iload_n hx hb dL_law_990 rfl (lv_at hl 0 rfl) ?_
  refine lv_iconst (v := 3) hx hb dL_law_991 (by decide) ?_
  refine lv_iadd hx hb dL_law_992 ?_
  refine lv_as (z := nI (i + 3)) (show nI i + (3 : Int32) = nI (i + 3) from nI_add i 3) ?_
  refine va_sld hx hb hXs hbl hbA hW.2.2.2.1 (vp_in_nI (by omega) (by omega)) dL_law_993 ?_
  refine lv_aload_n hx hb dL_law_994 rfl (lv_at hl 3 rfl) ?_
  refine lv_iload_n hx hb dL_law_995 rfl (lv_at hl 0 rfl) ?_
  refine lv_iconst (v := 4) hx hb dL_law_996 (by decide) ?_
  refine lv_iadd hx hb dL_law_997 ?_
  refine lv_as (z := nI (i + 4)) (show nI i + (4 : Int32) = nI (i + 4) from nI_add i 4) ?_
  refine va_sld hx hb hXs hbl hbA hW.2.2.2.1 (vp_in_nI (by omega) (by omega)) dL_law_998 ?_
  refine gw_callVi (As := [.int (xs (nI (i + 1)).toNatClampNeg), .int (xs (nI (i + 2)).toNatClampNeg), .int (xs (nI (i + 3)).toNatClampNeg), .int (xs (nI (i + 4)).toNatClampNeg)]) (rest := []) F hl.1 hW (xl_E hXL) XE_E (by omega) xe_0 rfl (kX7_states h.hO h.hSh) pd_yX7_states ml_RL_119 im_yX7_states se_yX7_states ini_RX7 cd_yX7_states ⟨rfl, rfl⟩ ⟨Nat.le_of_ble_eq_true rfl, Nat.le_of_ble_eq_true rfl⟩ rfl rfl (Nat.le_of_ble_eq_true rfl) ⟨by show cells ≤ 600000; omega, by show slots ≤ 7302250; omega⟩ dL_law_999 (fun r u H1 locs1 hp hX1 _ hk => ?_)
  have hM1 := hM.keep (N2 := 42 + 3 * n) (ad2 := ad) hk hap hX1.2.2.2.1
  refine lv_aload_n hx hb dL_law_1002 rfl (lv_at hl 1 rfl) ?_
  refine lv_aload_n hx hb dL_law_1003 rfl (lv_at hl 3 rfl) ?_
  refine lv_iload_n hx hb dL_law_1004 rfl (lv_at hl 0 rfl) ?_
  refine lv_iconst (v := 1) hx hb dL_law_1005 (by decide) ?_
  refine lv_iadd hx hb dL_law_1006 ?_
  refine lv_as (z := nI (i + 1)) (show nI i + (1 : Int32) = nI (i + 1) from nI_add i 1) ?_
  refine va_sld hx hb hXs hbl hbA hX1.2.2.2.1 (vp_in_nI (by omega) (by omega)) dL_law_1007 ?_
  refine lv_aload_n hx hb dL_law_1008 rfl (lv_at hl 3 rfl) ?_
  refine lv_iload_n hx hb dL_law_1009 rfl (lv_at hl 0 rfl) ?_
  refine lv_iconst (v := 2) hx hb dL_law_1010 (by decide) ?_
  refine lv_iadd hx hb dL_law_1011 ?_
  refine lv_as (z := nI (i + 2)) (show nI i + (2 : Int32) = nI (i + 2) from nI_add i 2) ?_
  refine va_sld hx hb hXs hbl hbA hX1.2.2.2.1 (vp_in_nI (by omega) (by omega)) dL_law_1012 ?_
  refine lv_aload_n hx hb dL_law_1013 rfl (lv_at hl 3 rfl) ?_
  refine lv_iload_n hx hb dL_law_1014 rfl (lv_at hl 0 rfl) ?_
  refine lv_iconst (v := 3) hx hb dL_law_1015 (by decide) ?_
  refine lv_iadd hx hb dL_law_1016 ?_
  refine lv_as (z := nI (i + 3)) (show nI i + (3 : Int32) = nI (i + 3) from nI_add i 3) ?_
  refine va_sld hx hb hXs hbl hbA hX1.2.2.2.1 (vp_in_nI (by omega) (by omega)) dL_law_1017 ?_
  refine lv_aload_n hx hb dL_law_1018 rfl (lv_at hl 3 rfl) ?_
  refine lv_iload_n hx hb dL_law_1019 rfl (lv_at hl 0 rfl) ?_
  refine lv_iconst (v := 4) hx hb dL_law_1020 (by decide) ?_
  refine lv_iadd hx hb dL_law_1021 ?_
  refine lv_as (z := nI (i + 4)) (show nI i + (4 : Int32) = nI (i + 4) from nI_add i 4) ?_
  refine va_sld hx hb hXs hbl hbA hX1.2.2.2.1 (vp_in_nI (by omega) (by omega)) dL_law_1022 ?_
  refine gw_callVi (As := [.int (xs (nI (i + 1)).toNatClampNeg), .int (xs (nI (i + 2)).toNatClampNeg), .int (xs (nI (i + 3)).toNatClampNeg), .int (xs (nI (i + 4)).toNatClampNeg)]) (rest := [.int r]) F hl.1 hM1 (fun _ _ _ => trivial) gw_T_E (by decide) (rfl : ment adM cA _ _ _ 0 = _) rfl (kX8_states h.hTM h.hM h.hSM) pd_yX8_states ml_RL_123 im_yX8_states se_yX8_states ini_RX8 cd_yX8_states ⟨rfl, rfl⟩ ⟨Nat.le_of_ble_eq_true rfl, Nat.le_of_ble_eq_true rfl⟩ rfl rfl (Nat.le_of_ble_eq_true rfl) ⟨by show cells ≤ 600000; omega, by show slots ≤ 7302250; omega⟩ dL_law_1023 (fun r2 u2 H2 locs2 hp2 hM2 _ hk2 => ?_)
  have hX2 := hX1.keep (N2 := 18) (ad2 := adM) hk2 (fun i j hi hj e => hap j i hj hi e.symm) hM2.2.2.2.1
  have he : r = r2 := by rw [hp, hp2]; exact hE.pstates hT h.sheets (xLx n τ) _ _ _ _
  have hLI : LI (ad 0) (adM 0) (fun q : Nat => s.heap.size ≤ q) s H2 locs2 := ⟨D, cs, cA, n, z, ad, adM, u.1, va_up TT 1 u.2, τ, σ, u2, T, σM, hX2, hM2, hap, (by rw [va_up_ne _ _ (by decide), va_up_ne _ _ (by decide)]; exact h), rfl, rfl⟩
  refine lv_icmp_eq (tgt := 1458) hx hb dL_law_1026 (by decide) (fun _ => ?_) (fun cn => ?_)
  · refine W.widen (k := cells + 3) (n := slots + 168) (Nat.le_add_right _ _) (Nat.le_add_right _ _) ?_
    exact kk H2 locs2 hLI
  · exact absurd he cn
set_option maxHeartbeats 1000000 in
set_option maxRecDepth 100000 in
theorem lc_26 (l : Launch) : LCase l 1031 := by
  intro p e s m below meth c Q b L i a1 a2 tk adK adV xs H locs ls cells slots F hXs hbl hXL hi hL hl hcs hI kk
  obtain ⟨hx, hb, hml, hown, hts⟩ := id F
  have hbA : ¬ (fun q : Nat => s.heap.size ≤ q) b := Nat.not_le.mpr hbl
  obtain ⟨D, cs, cA, n, z, ad, adM, ρ, TT, τ, σ, ρM, T, σM, hW, hM, hap, h, rfl, rfl⟩ := hI
  have hE := h.2.1
  have hT := h.hT
  refine lv_aload_n hx hb dL_law_1031 rfl (lv_at hl 2 rfl) ?_
  refine lv_aload_n hx hb dL_law_1032 rfl (lv_at hl 3 rfl) ?_
  refine lv_iload_n hx hb dL_law_1033 rfl (lv_at hl 0 rfl) ?_
  refine lv_iconst (v := 1) hx hb dL_law_1034 (by decide) ?_
  refine lv_iadd hx hb dL_law_1035 ?_
  refine lv_as (z := nI (i + 1)) (show nI i + (1 : Int32) = nI (i + 1) from nI_add i 1) ?_
  refine va_sld hx hb hXs hbl hbA hW.2.2.2.1 (vp_in_nI (by omega) (by omega)) dL_law_1036 ?_
  refine gw_callVi (As := [.int (xs (nI (i + 1)).toNatClampNeg)]) (rest := []) F hl.1 hW (xl_E hXL) XE_E (by omega) xe_0 rfl (kX7_feared h.hO h.hSh) pd_yX7_feared ml_RL_124 im_yX7_feared se_yX7_feared ini_RX7 cd_yX7_feared ⟨rfl, rfl⟩ ⟨Nat.le_of_ble_eq_true rfl, Nat.le_of_ble_eq_true rfl⟩ rfl rfl (Nat.le_of_ble_eq_true rfl) ⟨by show cells ≤ 600000; omega, by show slots ≤ 7302250; omega⟩ dL_law_1037 (fun r u H1 locs1 hp hX1 _ hk => ?_)
  have hM1 := hM.keep (N2 := 42 + 3 * n) (ad2 := ad) hk hap hX1.2.2.2.1
  refine lv_aload_n hx hb dL_law_1040 rfl (lv_at hl 1 rfl) ?_
  refine lv_aload_n hx hb dL_law_1041 rfl (lv_at hl 3 rfl) ?_
  refine lv_iload_n hx hb dL_law_1042 rfl (lv_at hl 0 rfl) ?_
  refine lv_iconst (v := 1) hx hb dL_law_1043 (by decide) ?_
  refine lv_iadd hx hb dL_law_1044 ?_
  refine lv_as (z := nI (i + 1)) (show nI i + (1 : Int32) = nI (i + 1) from nI_add i 1) ?_
  refine va_sld hx hb hXs hbl hbA hX1.2.2.2.1 (vp_in_nI (by omega) (by omega)) dL_law_1045 ?_
  refine gw_callVi (As := [.int (xs (nI (i + 1)).toNatClampNeg)]) (rest := [.int r]) F hl.1 hM1 (fun _ _ _ => trivial) gw_T_E (by decide) (rfl : ment adM cA _ _ _ 0 = _) rfl (kX8_feared h.hTM h.hM h.hSM) pd_yX8_feared ml_RL_127 im_yX8_feared se_yX8_feared ini_RX8 cd_yX8_feared ⟨rfl, rfl⟩ ⟨Nat.le_of_ble_eq_true rfl, Nat.le_of_ble_eq_true rfl⟩ rfl rfl (Nat.le_of_ble_eq_true rfl) ⟨by show cells ≤ 600000; omega, by show slots ≤ 7302250; omega⟩ dL_law_1046 (fun r2 u2 H2 locs2 hp2 hM2 _ hk2 => ?_)
  have hX2 := hX1.keep (N2 := 18) (ad2 := adM) hk2 (fun i j hi hj e => hap j i hj hi e.symm) hM2.2.2.2.1
  have he : r = r2 := by rw [hp, hp2]; exact hE.pfeared hT h.sheets (xLx n τ) _
  have hLI : LI (ad 0) (adM 0) (fun q : Nat => s.heap.size ≤ q) s H2 locs2 := ⟨D, cs, cA, n, z, ad, adM, u.1, va_up TT 1 u.2, τ, σ, u2, T, σM, hX2, hM2, hap, (by rw [va_up_ne _ _ (by decide), va_up_ne _ _ (by decide)]; exact h), rfl, rfl⟩
  refine lv_icmp_eq (tgt := 1458) hx hb dL_law_1049 (by decide) (fun _ => ?_) (fun cn => ?_)
  · refine W.widen (k := cells + 3) (n := slots + 168) (Nat.le_add_right _ _) (Nat.le_add_right _ _) ?_
    exact kk H2 locs2 hLI
  · exact absurd he cn
set_option maxHeartbeats 1000000 in
set_option maxRecDepth 100000 in
theorem lc_27 (l : Launch) : LCase l 1054 := by
  intro p e s m below meth c Q b L i a1 a2 tk adK adV xs H locs ls cells slots F hXs hbl hXL hi hL hl hcs hI kk
  obtain ⟨hx, hb, hml, hown, hts⟩ := id F
  have hbA : ¬ (fun q : Nat => s.heap.size ≤ q) b := Nat.not_le.mpr hbl
  obtain ⟨D, cs, cA, n, z, ad, adM, ρ, TT, τ, σ, ρM, T, σM, hW, hM, hap, h, rfl, rfl⟩ := hI
  have hE := h.2.1
  have hT := h.hT
  refine lv_aload_n hx hb dL_law_1054 rfl (lv_at hl 2 rfl) ?_
  refine lv_aload_n hx hb dL_law_1055 rfl (lv_at hl 3 rfl) ?_
  refine lv_iload_n hx hb dL_law_1056 rfl (lv_at hl 0 rfl) ?_
  refine lv_iconst (v := 1) hx hb dL_law_1057 (by decide) ?_
  refine lv_iadd hx hb dL_law_1058 ?_
  refine lv_as (z := nI (i + 1)) (show nI i + (1 : Int32) = nI (i + 1) from nI_add i 1) ?_
  refine va_sld hx hb hXs hbl hbA hW.2.2.2.1 (vp_in_nI (by omega) (by omega)) dL_law_1059 ?_
  refine gw_callVi (As := [.int (xs (nI (i + 1)).toNatClampNeg)]) (rest := []) F hl.1 hW (xl_E hXL) XE_E (by omega) xe_0 rfl (kX7_laws h.hO h.hSh) pd_yX7_laws ml_RL_128 im_yX7_laws se_yX7_laws ini_RX7 cd_yX7_laws ⟨rfl, rfl⟩ ⟨Nat.le_of_ble_eq_true rfl, Nat.le_of_ble_eq_true rfl⟩ rfl rfl (Nat.le_of_ble_eq_true rfl) ⟨by show cells ≤ 600000; omega, by show slots ≤ 7302250; omega⟩ dL_law_1060 (fun r u H1 locs1 hp hX1 _ hk => ?_)
  have hM1 := hM.keep (N2 := 42 + 3 * n) (ad2 := ad) hk hap hX1.2.2.2.1
  refine lv_aload_n hx hb dL_law_1063 rfl (lv_at hl 1 rfl) ?_
  refine lv_aload_n hx hb dL_law_1064 rfl (lv_at hl 3 rfl) ?_
  refine lv_iload_n hx hb dL_law_1065 rfl (lv_at hl 0 rfl) ?_
  refine lv_iconst (v := 1) hx hb dL_law_1066 (by decide) ?_
  refine lv_iadd hx hb dL_law_1067 ?_
  refine lv_as (z := nI (i + 1)) (show nI i + (1 : Int32) = nI (i + 1) from nI_add i 1) ?_
  refine va_sld hx hb hXs hbl hbA hX1.2.2.2.1 (vp_in_nI (by omega) (by omega)) dL_law_1068 ?_
  refine gw_callVi (As := [.int (xs (nI (i + 1)).toNatClampNeg)]) (rest := [.int r]) F hl.1 hM1 (fun _ _ _ => trivial) gw_T_E (by decide) (rfl : ment adM cA _ _ _ 0 = _) rfl (kX8_laws h.hTM h.hM h.hSM h.2.2.1.2.1) pd_yX8_laws ml_RL_131 im_yX8_laws se_yX8_laws ini_RX8 cd_yX8_laws ⟨rfl, rfl⟩ ⟨Nat.le_of_ble_eq_true rfl, Nat.le_of_ble_eq_true rfl⟩ rfl rfl (Nat.le_of_ble_eq_true rfl) ⟨by show cells ≤ 600000; omega, by show slots ≤ 7302250; omega⟩ dL_law_1069 (fun r2 u2 H2 locs2 hp2 hM2 _ hk2 => ?_)
  have hX2 := hX1.keep (N2 := 18) (ad2 := adM) hk2 (fun i j hi hj e => hap j i hj hi e.symm) hM2.2.2.2.1
  have he : r = r2 := by rw [hp, hp2]; exact hE.plaws hT h.1.2.1 h.sheets (xLx n τ) _
  have hLI : LI (ad 0) (adM 0) (fun q : Nat => s.heap.size ≤ q) s H2 locs2 := ⟨D, cs, cA, n, z, ad, adM, u.1, va_up TT 1 u.2, τ, σ, u2, T, σM, hX2, hM2, hap, (by rw [va_up_ne _ _ (by decide), va_up_ne _ _ (by decide)]; exact h), rfl, rfl⟩
  refine lv_icmp_eq (tgt := 1458) hx hb dL_law_1072 (by decide) (fun _ => ?_) (fun cn => ?_)
  · refine W.widen (k := cells + 3) (n := slots + 168) (Nat.le_add_right _ _) (Nat.le_add_right _ _) ?_
    exact kk H2 locs2 hLI
  · exact absurd he cn
set_option maxHeartbeats 1000000 in
set_option maxRecDepth 100000 in
theorem lc_28 (l : Launch) : LCase l 1077 := by
  intro p e s m below meth c Q b L i a1 a2 tk adK adV xs H locs ls cells slots F hXs hbl hXL hi hL hl hcs hI kk
  obtain ⟨hx, hb, hml, hown, hts⟩ := id F
  have hbA : ¬ (fun q : Nat => s.heap.size ≤ q) b := Nat.not_le.mpr hbl
  obtain ⟨D, cs, cA, n, z, ad, adM, ρ, TT, τ, σ, ρM, T, σM, hW, hM, hap, h, rfl, rfl⟩ := hI
  have hE := h.2.1
  have hT := h.hT
  refine lv_aload_n hx hb dL_law_1077 rfl (lv_at hl 2 rfl) ?_
  refine lv_aload_n hx hb dL_law_1078 rfl (lv_at hl 3 rfl) ?_
  refine lv_iload_n hx hb dL_law_1079 rfl (lv_at hl 0 rfl) ?_
  refine lv_iconst (v := 1) hx hb dL_law_1080 (by decide) ?_
  refine lv_iadd hx hb dL_law_1081 ?_
  refine lv_as (z := nI (i + 1)) (show nI i + (1 : Int32) = nI (i + 1) from nI_add i 1) ?_
  refine va_sld hx hb hXs hbl hbA hW.2.2.2.1 (vp_in_nI (by omega) (by omega)) dL_law_1082 ?_
  refine lv_aload_n hx hb dL_law_1083 rfl (lv_at hl 3 rfl) ?_
  refine lv_iload_n hx hb dL_law_1084 rfl (lv_at hl 0 rfl) ?_
  refine lv_iconst (v := 2) hx hb dL_law_1085 (by decide) ?_
  refine lv_iadd hx hb dL_law_1086 ?_
  refine lv_as (z := nI (i + 2)) (show nI i + (2 : Int32) = nI (i + 2) from nI_add i 2) ?_
  refine va_sld hx hb hXs hbl hbA hW.2.2.2.1 (vp_in_nI (by omega) (by omega)) dL_law_1087 ?_
  refine gw_callVi (As := [.int (xs (nI (i + 1)).toNatClampNeg), .int (xs (nI (i + 2)).toNatClampNeg)]) (rest := []) F hl.1 hW (xl_E hXL) XE_E (by omega) xe_0 rfl (kX7_film h.hO) pd_yX7_film ml_RL_132 im_yX7_film se_yX7_film ini_RX7 cd_yX7_film ⟨rfl, rfl⟩ ⟨Nat.le_of_ble_eq_true rfl, Nat.le_of_ble_eq_true rfl⟩ rfl rfl (Nat.le_of_ble_eq_true rfl) ⟨by show cells ≤ 600000; omega, by show slots ≤ 7302250; omega⟩ dL_law_1088 (fun r u H1 locs1 hp hX1 _ hk => ?_)
  have hM1 := hM.keep (N2 := 42 + 3 * n) (ad2 := ad) hk hap hX1.2.2.2.1
  refine lv_aload_n hx hb dL_law_1091 rfl (lv_at hl 1 rfl) ?_
  refine lv_aload_n hx hb dL_law_1092 rfl (lv_at hl 3 rfl) ?_
  refine lv_iload_n hx hb dL_law_1093 rfl (lv_at hl 0 rfl) ?_
  refine lv_iconst (v := 1) hx hb dL_law_1094 (by decide) ?_
  refine lv_iadd hx hb dL_law_1095 ?_
  refine lv_as (z := nI (i + 1)) (show nI i + (1 : Int32) = nI (i + 1) from nI_add i 1) ?_
  refine va_sld hx hb hXs hbl hbA hX1.2.2.2.1 (vp_in_nI (by omega) (by omega)) dL_law_1096 ?_
  refine lv_aload_n hx hb dL_law_1097 rfl (lv_at hl 3 rfl) ?_
  refine lv_iload_n hx hb dL_law_1098 rfl (lv_at hl 0 rfl) ?_
  refine lv_iconst (v := 2) hx hb dL_law_1099 (by decide) ?_
  refine lv_iadd hx hb dL_law_1100 ?_
  refine lv_as (z := nI (i + 2)) (show nI i + (2 : Int32) = nI (i + 2) from nI_add i 2) ?_
  refine va_sld hx hb hXs hbl hbA hX1.2.2.2.1 (vp_in_nI (by omega) (by omega)) dL_law_1101 ?_
  refine gw_callVi (As := [.int (xs (nI (i + 1)).toNatClampNeg), .int (xs (nI (i + 2)).toNatClampNeg)]) (rest := [.int r]) F hl.1 hM1 (fun _ _ _ => trivial) gw_T_E (by decide) (rfl : ment adM cA _ _ _ 0 = _) rfl (kX8_film (χ := σ) h.hTM h.hM h.2.2.2.2.1) pd_yX8_film ml_RL_135 im_yX8_film se_yX8_film ini_RX8 cd_yX8_film ⟨rfl, rfl⟩ ⟨Nat.le_of_ble_eq_true rfl, Nat.le_of_ble_eq_true rfl⟩ rfl rfl (Nat.le_of_ble_eq_true rfl) ⟨by show cells ≤ 600000; omega, by show slots ≤ 7302250; omega⟩ dL_law_1102 (fun r2 u2 H2 locs2 hp2 hM2 _ hk2 => ?_)
  have hX2 := hX1.keep (N2 := 18) (ad2 := adM) hk2 (fun i j hi hj e => hap j i hj hi e.symm) hM2.2.2.2.1
  rw [← hE.pfilm hT (xLx n τ) σ _ _] at hp2
  have he : r = r2 := by rw [hp.1, hp2.1]
  have hLI : LI (ad 0) (adM 0) (fun q : Nat => s.heap.size ≤ q) s H2 locs2 := ⟨D, cs, cA, n, z, ad, adM, u.1, va_up TT 1 u.2.1, τ, u.2.2, u2.1, T, u2.2, hX2, hM2, hap, (by rw [va_up_ne _ _ (by decide), va_up_ne _ _ (by decide), hp.2]; exact sim_S h (fun o ho => lo_film (xLx n τ) _ _ ho) (ok_film h.hSh (xLx n τ) _ _) hp2.2.1 hp2.2.2), rfl, rfl⟩
  refine lv_icmp_eq (tgt := 1458) hx hb dL_law_1105 (by decide) (fun _ => ?_) (fun cn => ?_)
  · refine W.widen (k := cells + 3) (n := slots + 168) (Nat.le_add_right _ _) (Nat.le_add_right _ _) ?_
    exact kk H2 locs2 hLI
  · exact absurd he cn
set_option maxHeartbeats 1000000 in
set_option maxRecDepth 100000 in
theorem lc_29 (l : Launch) : LCase l 1110 := by
  intro p e s m below meth c Q b L i a1 a2 tk adK adV xs H locs ls cells slots F hXs hbl hXL hi hL hl hcs hI kk
  obtain ⟨hx, hb, hml, hown, hts⟩ := id F
  have hbA : ¬ (fun q : Nat => s.heap.size ≤ q) b := Nat.not_le.mpr hbl
  obtain ⟨D, cs, cA, n, z, ad, adM, ρ, TT, τ, σ, ρM, T, σM, hW, hM, hap, h, rfl, rfl⟩ := hI
  have hE := h.2.1
  have hT := h.hT
  refine lv_aload_n hx hb dL_law_1110 rfl (lv_at hl 2 rfl) ?_
  refine lv_aload_n hx hb dL_law_1111 rfl (lv_at hl 3 rfl) ?_
  refine lv_iload_n hx hb dL_law_1112 rfl (lv_at hl 0 rfl) ?_
  refine lv_iconst (v := 1) hx hb dL_law_1113 (by decide) ?_
  refine lv_iadd hx hb dL_law_1114 ?_
  refine lv_as (z := nI (i + 1)) (show nI i + (1 : Int32) = nI (i + 1) from nI_add i 1) ?_
  refine va_sld hx hb hXs hbl hbA hW.2.2.2.1 (vp_in_nI (by omega) (by omega)) dL_law_1115 ?_
  refine lv_aload_n hx hb dL_law_1116 rfl (lv_at hl 3 rfl) ?_
  refine lv_iload_n hx hb dL_law_1117 rfl (lv_at hl 0 rfl) ?_
  refine lv_iconst (v := 2) hx hb dL_law_1118 (by decide) ?_
  refine lv_iadd hx hb dL_law_1119 ?_
  refine lv_as (z := nI (i + 2)) (show nI i + (2 : Int32) = nI (i + 2) from nI_add i 2) ?_
  refine va_sld hx hb hXs hbl hbA hW.2.2.2.1 (vp_in_nI (by omega) (by omega)) dL_law_1120 ?_
  refine gw_callVi (As := [.int (xs (nI (i + 1)).toNatClampNeg), .int (xs (nI (i + 2)).toNatClampNeg)]) (rest := []) F hl.1 hW (xl_E hXL) XE_E (by omega) xe_0 rfl (kX7_drawn h.hO) pd_yX7_drawn ml_RL_136 im_yX7_drawn se_yX7_drawn ini_RX7 cd_yX7_drawn ⟨rfl, rfl⟩ ⟨Nat.le_of_ble_eq_true rfl, Nat.le_of_ble_eq_true rfl⟩ rfl rfl (Nat.le_of_ble_eq_true rfl) ⟨by show cells ≤ 600000; omega, by show slots ≤ 7302250; omega⟩ dL_law_1121 (fun r u H1 locs1 hp hX1 _ hk => ?_)
  have hM1 := hM.keep (N2 := 42 + 3 * n) (ad2 := ad) hk hap hX1.2.2.2.1
  refine lv_aload_n hx hb dL_law_1124 rfl (lv_at hl 1 rfl) ?_
  refine lv_aload_n hx hb dL_law_1125 rfl (lv_at hl 3 rfl) ?_
  refine lv_iload_n hx hb dL_law_1126 rfl (lv_at hl 0 rfl) ?_
  refine lv_iconst (v := 1) hx hb dL_law_1127 (by decide) ?_
  refine lv_iadd hx hb dL_law_1128 ?_
  refine lv_as (z := nI (i + 1)) (show nI i + (1 : Int32) = nI (i + 1) from nI_add i 1) ?_
  refine va_sld hx hb hXs hbl hbA hX1.2.2.2.1 (vp_in_nI (by omega) (by omega)) dL_law_1129 ?_
  refine lv_aload_n hx hb dL_law_1130 rfl (lv_at hl 3 rfl) ?_
  refine lv_iload_n hx hb dL_law_1131 rfl (lv_at hl 0 rfl) ?_
  refine lv_iconst (v := 2) hx hb dL_law_1132 (by decide) ?_
  refine lv_iadd hx hb dL_law_1133 ?_
  refine lv_as (z := nI (i + 2)) (show nI i + (2 : Int32) = nI (i + 2) from nI_add i 2) ?_
  refine va_sld hx hb hXs hbl hbA hX1.2.2.2.1 (vp_in_nI (by omega) (by omega)) dL_law_1134 ?_
  refine gw_callVi (As := [.int (xs (nI (i + 1)).toNatClampNeg), .int (xs (nI (i + 2)).toNatClampNeg)]) (rest := [.int r]) F hl.1 hM1 (fun _ _ _ => trivial) gw_T_E (by decide) (rfl : ment adM cA _ _ _ 0 = _) rfl (kX8_drawn h.hTM h.hM) pd_yX8_drawn ml_RL_139 im_yX8_drawn se_yX8_drawn ini_RX8 cd_yX8_drawn ⟨rfl, rfl⟩ ⟨Nat.le_of_ble_eq_true rfl, Nat.le_of_ble_eq_true rfl⟩ rfl rfl (Nat.le_of_ble_eq_true rfl) ⟨by show cells ≤ 600000; omega, by show slots ≤ 7302250; omega⟩ dL_law_1135 (fun r2 u2 H2 locs2 hp2 hM2 _ hk2 => ?_)
  have hX2 := hX1.keep (N2 := 18) (ad2 := adM) hk2 (fun i j hi hj e => hap j i hj hi e.symm) hM2.2.2.2.1
  have he : r = r2 := by rw [hp, hp2]; exact hE.pdrawn hT (xLx n τ) _ _
  have hLI : LI (ad 0) (adM 0) (fun q : Nat => s.heap.size ≤ q) s H2 locs2 := ⟨D, cs, cA, n, z, ad, adM, u.1, va_up TT 1 u.2, τ, σ, u2, T, σM, hX2, hM2, hap, (by rw [va_up_ne _ _ (by decide), va_up_ne _ _ (by decide)]; exact h), rfl, rfl⟩
  refine lv_icmp_eq (tgt := 1458) hx hb dL_law_1138 (by decide) (fun _ => ?_) (fun cn => ?_)
  · refine W.widen (k := cells + 3) (n := slots + 168) (Nat.le_add_right _ _) (Nat.le_add_right _ _) ?_
    exact kk H2 locs2 hLI
  · exact absurd he cn
set_option maxHeartbeats 1000000 in
set_option maxRecDepth 100000 in
theorem lc_30 (l : Launch) : LCase l 1143 := by
  intro p e s m below meth c Q b L i a1 a2 tk adK adV xs H locs ls cells slots F hXs hbl hXL hi hL hl hcs hI kk
  obtain ⟨hx, hb, hml, hown, hts⟩ := id F
  have hbA : ¬ (fun q : Nat => s.heap.size ≤ q) b := Nat.not_le.mpr hbl
  obtain ⟨D, cs, cA, n, z, ad, adM, ρ, TT, τ, σ, ρM, T, σM, hW, hM, hap, h, rfl, rfl⟩ := hI
  have hE := h.2.1
  have hT := h.hT
  refine lv_aload_n hx hb dL_law_1143 rfl (lv_at hl 2 rfl) ?_
  refine lv_aload_n hx hb dL_law_1144 rfl (lv_at hl 3 rfl) ?_
  refine lv_iload_n hx hb dL_law_1145 rfl (lv_at hl 0 rfl) ?_
  refine lv_iconst (v := 1) hx hb dL_law_1146 (by decide) ?_
  refine lv_iadd hx hb dL_law_1147 ?_
  refine lv_as (z := nI (i + 1)) (show nI i + (1 : Int32) = nI (i + 1) from nI_add i 1) ?_
  refine va_sld hx hb hXs hbl hbA hW.2.2.2.1 (vp_in_nI (by omega) (by omega)) dL_law_1148 ?_
  refine lv_aload_n hx hb dL_law_1149 rfl (lv_at hl 3 rfl) ?_
  refine lv_iload_n hx hb dL_law_1150 rfl (lv_at hl 0 rfl) ?_
  refine lv_iconst (v := 2) hx hb dL_law_1151 (by decide) ?_
  refine lv_iadd hx hb dL_law_1152 ?_
  refine lv_as (z := nI (i + 2)) (show nI i + (2 : Int32) = nI (i + 2) from nI_add i 2) ?_
  refine va_sld hx hb hXs hbl hbA hW.2.2.2.1 (vp_in_nI (by omega) (by omega)) dL_law_1153 ?_
  refine lv_aload_n hx hb dL_law_1154 rfl (lv_at hl 3 rfl) ?_
  refine lv_iload_n hx hb dL_law_1155 rfl (lv_at hl 0 rfl) ?_
  refine lv_iconst (v := 3) hx hb dL_law_1156 (by decide) ?_
  refine lv_iadd hx hb dL_law_1157 ?_
  refine lv_as (z := nI (i + 3)) (show nI i + (3 : Int32) = nI (i + 3) from nI_add i 3) ?_
  refine va_sld hx hb hXs hbl hbA hW.2.2.2.1 (vp_in_nI (by omega) (by omega)) dL_law_1158 ?_
  refine lv_aload_n hx hb dL_law_1159 rfl (lv_at hl 3 rfl) ?_
  refine lv_iload_n hx hb dL_law_1160 rfl (lv_at hl 0 rfl) ?_
  refine lv_iconst (v := 4) hx hb dL_law_1161 (by decide) ?_
  refine lv_iadd hx hb dL_law_1162 ?_
  refine lv_as (z := nI (i + 4)) (show nI i + (4 : Int32) = nI (i + 4) from nI_add i 4) ?_
  refine va_sld hx hb hXs hbl hbA hW.2.2.2.1 (vp_in_nI (by omega) (by omega)) dL_law_1163 ?_
  refine gw_callVl (As := [.int (xs (nI (i + 1)).toNatClampNeg), .int (xs (nI (i + 2)).toNatClampNeg), .int (xs (nI (i + 3)).toNatClampNeg), .int (xs (nI (i + 4)).toNatClampNeg)]) (rest := []) F hl.1 hW (xl_E hXL) XE_E (by omega) xe_0 rfl (kX7_odds h.hO) pd_yX7_odds ml_RL_140 im_yX7_odds se_yX7_odds ini_RX7 cd_yX7_odds ⟨rfl, rfl⟩ ⟨Nat.le_of_ble_eq_true rfl, Nat.le_of_ble_eq_true rfl⟩ rfl rfl (Nat.le_of_ble_eq_true rfl) ⟨by show cells ≤ 600000; omega, by show slots ≤ 7302250; omega⟩ dL_law_1164 (fun r u H1 locs1 hp hX1 _ hk => ?_)
  have hM1 := hM.keep (N2 := 42 + 3 * n) (ad2 := ad) hk hap hX1.2.2.2.1
  refine lv_aload_n hx hb dL_law_1167 rfl (lv_at hl 1 rfl) ?_
  refine lv_aload_n hx hb dL_law_1168 rfl (lv_at hl 3 rfl) ?_
  refine lv_iload_n hx hb dL_law_1169 rfl (lv_at hl 0 rfl) ?_
  refine lv_iconst (v := 1) hx hb dL_law_1170 (by decide) ?_
  refine lv_iadd hx hb dL_law_1171 ?_
  refine lv_as (z := nI (i + 1)) (show nI i + (1 : Int32) = nI (i + 1) from nI_add i 1) ?_
  refine va_sld hx hb hXs hbl hbA hX1.2.2.2.1 (vp_in_nI (by omega) (by omega)) dL_law_1172 ?_
  refine lv_aload_n hx hb dL_law_1173 rfl (lv_at hl 3 rfl) ?_
  refine lv_iload_n hx hb dL_law_1174 rfl (lv_at hl 0 rfl) ?_
  refine lv_iconst (v := 2) hx hb dL_law_1175 (by decide) ?_
  refine lv_iadd hx hb dL_law_1176 ?_
  refine lv_as (z := nI (i + 2)) (show nI i + (2 : Int32) = nI (i + 2) from nI_add i 2) ?_
  refine va_sld hx hb hXs hbl hbA hX1.2.2.2.1 (vp_in_nI (by omega) (by omega)) dL_law_1177 ?_
  refine lv_aload_n hx hb dL_law_1178 rfl (lv_at hl 3 rfl) ?_
  refine lv_iload_n hx hb dL_law_1179 rfl (lv_at hl 0 rfl) ?_
  refine lv_iconst (v := 3) hx hb dL_law_1180 (by decide) ?_
  refine lv_iadd hx hb dL_law_1181 ?_
  refine lv_as (z := nI (i + 3)) (show nI i + (3 : Int32) = nI (i + 3) from nI_add i 3) ?_
  refine va_sld hx hb hXs hbl hbA hX1.2.2.2.1 (vp_in_nI (by omega) (by omega)) dL_law_1182 ?_
  refine lv_aload_n hx hb dL_law_1183 rfl (lv_at hl 3 rfl) ?_
  refine lv_iload_n hx hb dL_law_1184 rfl (lv_at hl 0 rfl) ?_
  refine lv_iconst (v := 4) hx hb dL_law_1185 (by decide) ?_
  refine lv_iadd hx hb dL_law_1186 ?_
  refine lv_as (z := nI (i + 4)) (show nI i + (4 : Int32) = nI (i + 4) from nI_add i 4) ?_
  refine va_sld hx hb hXs hbl hbA hX1.2.2.2.1 (vp_in_nI (by omega) (by omega)) dL_law_1187 ?_
  refine gw_callVl (As := [.int (xs (nI (i + 1)).toNatClampNeg), .int (xs (nI (i + 2)).toNatClampNeg), .int (xs (nI (i + 3)).toNatClampNeg), .int (xs (nI (i + 4)).toNatClampNeg)]) (rest := [.long r]) F hl.1 hM1 (fun _ _ _ => trivial) gw_T_E (by decide) (rfl : ment adM cA _ _ _ 0 = _) rfl (kX8_odds h.hTM h.hM) pd_yX8_odds ml_RL_144 im_yX8_odds se_yX8_odds ini_RX8 cd_yX8_odds ⟨rfl, rfl⟩ ⟨Nat.le_of_ble_eq_true rfl, Nat.le_of_ble_eq_true rfl⟩ rfl rfl (Nat.le_of_ble_eq_true rfl) ⟨by show cells ≤ 600000; omega, by show slots ≤ 7302250; omega⟩ dL_law_1188 (fun r2 u2 H2 locs2 hp2 hM2 _ hk2 => ?_)
  have hX2 := hX1.keep (N2 := 18) (ad2 := adM) hk2 (fun i j hi hj e => hap j i hj hi e.symm) hM2.2.2.2.1
  have he : r = r2 := by rw [hp, hp2]; exact hE.podds hT (xLx n τ) _ _ _ _
  have hLI : LI (ad 0) (adM 0) (fun q : Nat => s.heap.size ≤ q) s H2 locs2 := ⟨D, cs, cA, n, z, ad, adM, u.1, va_up TT 1 u.2, τ, σ, u2, T, σM, hX2, hM2, hap, (by rw [va_up_ne _ _ (by decide), va_up_ne _ _ (by decide)]; exact h), rfl, rfl⟩
  refine W.lcmp hx hb dL_law_1191 ?_
  refine lv_if_eq (tgt := 1458) hx hb dL_law_1192 (by decide) (fun _ => ?_) (fun cn => ?_)
  · refine W.widen (k := cells + 3) (n := slots + 168) (Nat.le_add_right _ _) (Nat.le_add_right _ _) ?_
    exact kk H2 locs2 hLI
  · exact absurd (by rw [he]; exact lgc_s r2) cn
set_option maxHeartbeats 1000000 in
set_option maxRecDepth 100000 in
theorem lc_31 (l : Launch) : LCase l 1197 := by
  intro p e s m below meth c Q b L i a1 a2 tk adK adV xs H locs ls cells slots F hXs hbl hXL hi hL hl hcs hI kk
  obtain ⟨hx, hb, hml, hown, hts⟩ := id F
  have hbA : ¬ (fun q : Nat => s.heap.size ≤ q) b := Nat.not_le.mpr hbl
  obtain ⟨D, cs, cA, n, z, ad, adM, ρ, TT, τ, σ, ρM, T, σM, hW, hM, hap, h, rfl, rfl⟩ := hI
  have hE := h.2.1
  have hT := h.hT
  refine lv_aload_n hx hb dL_law_1197 rfl (lv_at hl 2 rfl) ?_
  refine gw_callVi (As := []) (rest := []) F hl.1 hW (xl_E hXL) XE_E (by omega) xe_0 rfl (kX7_image hT) pd_yX7_image ml_RL_145 im_yX7_image se_yX7_image ini_RX7 cd_yX7_image ⟨rfl, rfl⟩ ⟨Nat.le_of_ble_eq_true rfl, Nat.le_of_ble_eq_true rfl⟩ rfl rfl (Nat.le_of_ble_eq_true rfl) ⟨by show cells ≤ 600000; omega, by show slots ≤ 7302250; omega⟩ dL_law_1198 (fun r u H1 locs1 hp hX1 _ hk => ?_)
  have hM1 := hM.keep (N2 := 42 + 3 * n) (ad2 := ad) hk hap hX1.2.2.2.1
  refine lv_aload_n hx hb dL_law_1201 rfl (lv_at hl 1 rfl) ?_
  refine gw_callVi (As := []) (rest := [.int r]) F hl.1 hM1 (fun _ _ _ => trivial) gw_T_E (by decide) (rfl : ment adM cA _ _ _ 0 = _) rfl (kX8_image) pd_yX8_image ml_RL_148 im_yX8_image se_yX8_image ini_RX8 cd_yX8_image ⟨rfl, rfl⟩ ⟨Nat.le_of_ble_eq_true rfl, Nat.le_of_ble_eq_true rfl⟩ rfl rfl (Nat.le_of_ble_eq_true rfl) ⟨by show cells ≤ 600000; omega, by show slots ≤ 7302250; omega⟩ dL_law_1202 (fun r2 u2 H2 locs2 hp2 hM2 _ hk2 => ?_)
  have hX2 := hX1.keep (N2 := 18) (ad2 := adM) hk2 (fun i j hi hj e => hap j i hj hi e.symm) hM2.2.2.2.1
  have he : r = r2 := by rw [hp.1, hp2.1]; exact hE.1
  have hLI : LI (ad 0) (adM 0) (fun q : Nat => s.heap.size ≤ q) s H2 locs2 := ⟨D, cs, cA, n, z, ad, adM, ρ, va_up TT 2 u.1, τ, u.2, ρM, T, u2, hX2, hM2, hap, (by rw [va_up_ne _ _ (by decide), va_up_self, hp.2.2]; exact sim_I h hp.2.1 hp2.2.1 hp2.2.2), rfl, rfl⟩
  refine lv_icmp_eq (tgt := 1458) hx hb dL_law_1205 (by decide) (fun _ => ?_) (fun cn => ?_)
  · refine W.widen (k := cells + 3) (n := slots + 168) (Nat.le_add_right _ _) (Nat.le_add_right _ _) ?_
    exact kk H2 locs2 hLI
  · exact absurd he cn
set_option maxHeartbeats 1000000 in
set_option maxRecDepth 100000 in
theorem lc_32 (l : Launch) : LCase l 1210 := by
  intro p e s m below meth c Q b L i a1 a2 tk adK adV xs H locs ls cells slots F hXs hbl hXL hi hL hl hcs hI kk
  obtain ⟨hx, hb, hml, hown, hts⟩ := id F
  have hbA : ¬ (fun q : Nat => s.heap.size ≤ q) b := Nat.not_le.mpr hbl
  obtain ⟨D, cs, cA, n, z, ad, adM, ρ, TT, τ, σ, ρM, T, σM, hW, hM, hap, h, rfl, rfl⟩ := hI
  have hE := h.2.1
  have hT := h.hT
  refine lv_aload_n hx hb dL_law_1210 rfl (lv_at hl 2 rfl) ?_
  refine gw_callVi (As := []) (rest := []) F hl.1 hW (xl_E hXL) XE_E (by omega) xe_0 rfl (kX7_back h.im) pd_yX7_back ml_RL_149 im_yX7_back se_yX7_back ini_RX7 cd_yX7_back ⟨rfl, rfl⟩ ⟨Nat.le_of_ble_eq_true rfl, Nat.le_of_ble_eq_true rfl⟩ rfl rfl (Nat.le_of_ble_eq_true rfl) ⟨by show cells ≤ 600000; omega, by show slots ≤ 7302250; omega⟩ dL_law_1211 (fun r u H1 locs1 hp hX1 _ hk => ?_)
  have hM1 := hM.keep (N2 := 42 + 3 * n) (ad2 := ad) hk hap hX1.2.2.2.1
  refine lv_aload_n hx hb dL_law_1214 rfl (lv_at hl 1 rfl) ?_
  refine gw_callVi (As := []) (rest := [.int r]) F hl.1 hM1 (fun _ _ _ => trivial) gw_T_E (by decide) (rfl : ment adM cA _ _ _ 0 = _) rfl (kX8_back) pd_yX8_back ml_RL_152 im_yX8_back se_yX8_back ini_RX8 cd_yX8_back ⟨rfl, rfl⟩ ⟨Nat.le_of_ble_eq_true rfl, Nat.le_of_ble_eq_true rfl⟩ rfl rfl (Nat.le_of_ble_eq_true rfl) ⟨by show cells ≤ 600000; omega, by show slots ≤ 7302250; omega⟩ dL_law_1215 (fun r2 u2 H2 locs2 hp2 hM2 _ hk2 => ?_)
  have hX2 := hX1.keep (N2 := 18) (ad2 := adM) hk2 (fun i j hi hj e => hap j i hj hi e.symm) hM2.2.2.2.1
  obtain ⟨he0, hs0⟩ : r = r2 ∧ SIM n z (u 0) (u 2) τ σ u2 σM := by
    obtain ⟨p1, p2, p3⟩ := hp
    obtain ⟨q1, q2⟩ := hp2
    by_cases h8 : σ 0 8 = 0
    · have h11 := sim_B0 h h8
      rw [if_pos h8] at p1
      rw [if_pos h11] at q1 q2
      rw [p2 h8, q2]
      exact ⟨p1.trans q1.symm, h⟩
    · obtain ⟨Y, hY, hu⟩ := p3 h8
      obtain ⟨h11, hg, hs⟩ := sim_B h h8 hY
      rw [if_neg h8] at p1
      rw [if_neg h11] at q1 q2
      rw [hu, q2, va_up_self, va_up_ne _ _ (by decide)]
      exact ⟨p1.trans (hg.trans q1.symm), hs⟩
  have he : r = r2 := he0
  have hLI : LI (ad 0) (adM 0) (fun q : Nat => s.heap.size ≤ q) s H2 locs2 := ⟨D, cs, cA, n, z, ad, adM, ρ, u, τ, σ, ρM, u2, σM, hX2, hM2, hap, hs0, rfl, rfl⟩
  refine lv_icmp_eq (tgt := 1458) hx hb dL_law_1218 (by decide) (fun _ => ?_) (fun cn => ?_)
  · refine W.widen (k := cells + 3) (n := slots + 168) (Nat.le_add_right _ _) (Nat.le_add_right _ _) ?_
    exact kk H2 locs2 hLI
  · exact absurd he cn
set_option maxHeartbeats 1000000 in
set_option maxRecDepth 100000 in
theorem lc_33 (l : Launch) : LCase l 1223 := by
  intro p e s m below meth c Q b L i a1 a2 tk adK adV xs H locs ls cells slots F hXs hbl hXL hi hL hl hcs hI kk
  obtain ⟨hx, hb, hml, hown, hts⟩ := id F
  have hbA : ¬ (fun q : Nat => s.heap.size ≤ q) b := Nat.not_le.mpr hbl
  obtain ⟨D, cs, cA, n, z, ad, adM, ρ, TT, τ, σ, ρM, T, σM, hW, hM, hap, h, rfl, rfl⟩ := hI
  have hE := h.2.1
  have hT := h.hT
  refine lv_aload_n hx hb dL_law_1223 rfl (lv_at hl 2 rfl) ?_
  refine lv_aload_n hx hb dL_law_1224 rfl (lv_at hl 3 rfl) ?_
  refine lv_iload_n hx hb dL_law_1225 rfl (lv_at hl 0 rfl) ?_
  refine lv_iconst (v := 1) hx hb dL_law_1226 (by decide) ?_
  refine lv_iadd hx hb dL_law_1227 ?_
  refine lv_as (z := nI (i + 1)) (show nI i + (1 : Int32) = nI (i + 1) from nI_add i 1) ?_
  refine va_sld hx hb hXs hbl hbA hW.2.2.2.1 (vp_in_nI (by omega) (by omega)) dL_law_1228 ?_
  refine lv_aload_n hx hb dL_law_1229 rfl (lv_at hl 3 rfl) ?_
  refine lv_iload_n hx hb dL_law_1230 rfl (lv_at hl 0 rfl) ?_
  refine lv_iconst (v := 2) hx hb dL_law_1231 (by decide) ?_
  refine lv_iadd hx hb dL_law_1232 ?_
  refine lv_as (z := nI (i + 2)) (show nI i + (2 : Int32) = nI (i + 2) from nI_add i 2) ?_
  refine va_sld hx hb hXs hbl hbA hW.2.2.2.1 (vp_in_nI (by omega) (by omega)) dL_law_1233 ?_
  refine lv_aload_n hx hb dL_law_1234 rfl (lv_at hl 3 rfl) ?_
  refine lv_iload_n hx hb dL_law_1235 rfl (lv_at hl 0 rfl) ?_
  refine lv_iconst (v := 3) hx hb dL_law_1236 (by decide) ?_
  refine lv_iadd hx hb dL_law_1237 ?_
  refine lv_as (z := nI (i + 3)) (show nI i + (3 : Int32) = nI (i + 3) from nI_add i 3) ?_
  refine va_sld hx hb hXs hbl hbA hW.2.2.2.1 (vp_in_nI (by omega) (by omega)) dL_law_1238 ?_
  refine gw_callVi (As := [.int (xs (nI (i + 1)).toNatClampNeg), .int (xs (nI (i + 2)).toNatClampNeg), .int (xs (nI (i + 3)).toNatClampNeg)]) (rest := []) F hl.1 hW (xl_E hXL) XE_E (by omega) xe_0 rfl (kX7_sheet) pd_yX7_sheet ml_RL_153 im_yX7_sheet se_yX7_sheet ini_RX7 cd_yX7_sheet ⟨rfl, rfl⟩ ⟨Nat.le_of_ble_eq_true rfl, Nat.le_of_ble_eq_true rfl⟩ rfl rfl (Nat.le_of_ble_eq_true rfl) ⟨by show cells ≤ 600000; omega, by show slots ≤ 7302250; omega⟩ dL_law_1239 (fun r u H1 locs1 hp hX1 _ hk => ?_)
  have hM1 := hM.keep (N2 := 42 + 3 * n) (ad2 := ad) hk hap hX1.2.2.2.1
  refine lv_aload_n hx hb dL_law_1242 rfl (lv_at hl 1 rfl) ?_
  refine lv_aload_n hx hb dL_law_1243 rfl (lv_at hl 3 rfl) ?_
  refine lv_iload_n hx hb dL_law_1244 rfl (lv_at hl 0 rfl) ?_
  refine lv_iconst (v := 1) hx hb dL_law_1245 (by decide) ?_
  refine lv_iadd hx hb dL_law_1246 ?_
  refine lv_as (z := nI (i + 1)) (show nI i + (1 : Int32) = nI (i + 1) from nI_add i 1) ?_
  refine va_sld hx hb hXs hbl hbA hX1.2.2.2.1 (vp_in_nI (by omega) (by omega)) dL_law_1247 ?_
  refine lv_aload_n hx hb dL_law_1248 rfl (lv_at hl 3 rfl) ?_
  refine lv_iload_n hx hb dL_law_1249 rfl (lv_at hl 0 rfl) ?_
  refine lv_iconst (v := 2) hx hb dL_law_1250 (by decide) ?_
  refine lv_iadd hx hb dL_law_1251 ?_
  refine lv_as (z := nI (i + 2)) (show nI i + (2 : Int32) = nI (i + 2) from nI_add i 2) ?_
  refine va_sld hx hb hXs hbl hbA hX1.2.2.2.1 (vp_in_nI (by omega) (by omega)) dL_law_1252 ?_
  refine lv_aload_n hx hb dL_law_1253 rfl (lv_at hl 3 rfl) ?_
  refine lv_iload_n hx hb dL_law_1254 rfl (lv_at hl 0 rfl) ?_
  refine lv_iconst (v := 3) hx hb dL_law_1255 (by decide) ?_
  refine lv_iadd hx hb dL_law_1256 ?_
  refine lv_as (z := nI (i + 3)) (show nI i + (3 : Int32) = nI (i + 3) from nI_add i 3) ?_
  refine va_sld hx hb hXs hbl hbA hX1.2.2.2.1 (vp_in_nI (by omega) (by omega)) dL_law_1257 ?_
  refine gw_callVi (As := [.int (xs (nI (i + 1)).toNatClampNeg), .int (xs (nI (i + 2)).toNatClampNeg), .int (xs (nI (i + 3)).toNatClampNeg)]) (rest := [.int r]) F hl.1 hM1 (fun _ _ _ => trivial) gw_T_E (by decide) (rfl : ment adM cA _ _ _ 0 = _) rfl (kX8_sheet (χ := σ) h.2.2.2.2.1) pd_yX8_sheet ml_RL_156 im_yX8_sheet se_yX8_sheet ini_RX8 cd_yX8_sheet ⟨rfl, rfl⟩ ⟨Nat.le_of_ble_eq_true rfl, Nat.le_of_ble_eq_true rfl⟩ rfl rfl (Nat.le_of_ble_eq_true rfl) ⟨by show cells ≤ 600000; omega, by show slots ≤ 7302250; omega⟩ dL_law_1258 (fun r2 u2 H2 locs2 hp2 hM2 _ hk2 => ?_)
  have hX2 := hX1.keep (N2 := 18) (ad2 := adM) hk2 (fun i j hi hj e => hap j i hj hi e.symm) hM2.2.2.2.1
  have he : r = r2 := by rw [hp.1, hp2.1]
  have hLI : LI (ad 0) (adM 0) (fun q : Nat => s.heap.size ≤ q) s H2 locs2 := ⟨D, cs, cA, n, z, ad, adM, ρ, TT, τ, u, ρM, T, u2, hX2, hM2, hap, (by rw [hp.2]; exact sim_S h (fun o ho => lo_sheet _ _ _ ho) (ok_sheet h.hSh _ _ _) hp2.2.1 hp2.2.2), rfl, rfl⟩
  refine lv_icmp_eq (tgt := 1458) hx hb dL_law_1261 (by decide) (fun _ => ?_) (fun cn => ?_)
  · refine W.widen (k := cells + 3) (n := slots + 168) (Nat.le_add_right _ _) (Nat.le_add_right _ _) ?_
    exact kk H2 locs2 hLI
  · exact absurd he cn
set_option maxHeartbeats 1000000 in
set_option maxRecDepth 100000 in
theorem lc_34 (l : Launch) : LCase l 1266 := by
  intro p e s m below meth c Q b L i a1 a2 tk adK adV xs H locs ls cells slots F hXs hbl hXL hi hL hl hcs hI kk
  obtain ⟨hx, hb, hml, hown, hts⟩ := id F
  have hbA : ¬ (fun q : Nat => s.heap.size ≤ q) b := Nat.not_le.mpr hbl
  obtain ⟨D, cs, cA, n, z, ad, adM, ρ, TT, τ, σ, ρM, T, σM, hW, hM, hap, h, rfl, rfl⟩ := hI
  have hE := h.2.1
  have hT := h.hT
  refine lv_aload_n hx hb dL_law_1266 rfl (lv_at hl 2 rfl) ?_
  refine lv_aload_n hx hb dL_law_1267 rfl (lv_at hl 3 rfl) ?_
  refine lv_iload_n hx hb dL_law_1268 rfl (lv_at hl 0 rfl) ?_
  refine lv_iconst (v := 1) hx hb dL_law_1269 (by decide) ?_
  refine lv_iadd hx hb dL_law_1270 ?_
  refine lv_as (z := nI (i + 1)) (show nI i + (1 : Int32) = nI (i + 1) from nI_add i 1) ?_
  refine va_sld hx hb hXs hbl hbA hW.2.2.2.1 (vp_in_nI (by omega) (by omega)) dL_law_1271 ?_
  refine lv_aload_n hx hb dL_law_1272 rfl (lv_at hl 3 rfl) ?_
  refine lv_iload_n hx hb dL_law_1273 rfl (lv_at hl 0 rfl) ?_
  refine lv_iconst (v := 2) hx hb dL_law_1274 (by decide) ?_
  refine lv_iadd hx hb dL_law_1275 ?_
  refine lv_as (z := nI (i + 2)) (show nI i + (2 : Int32) = nI (i + 2) from nI_add i 2) ?_
  refine va_sld hx hb hXs hbl hbA hW.2.2.2.1 (vp_in_nI (by omega) (by omega)) dL_law_1276 ?_
  refine lv_aload_n hx hb dL_law_1277 rfl (lv_at hl 3 rfl) ?_
  refine lv_iload_n hx hb dL_law_1278 rfl (lv_at hl 0 rfl) ?_
  refine lv_iconst (v := 3) hx hb dL_law_1279 (by decide) ?_
  refine lv_iadd hx hb dL_law_1280 ?_
  refine lv_as (z := nI (i + 3)) (show nI i + (3 : Int32) = nI (i + 3) from nI_add i 3) ?_
  refine va_sld hx hb hXs hbl hbA hW.2.2.2.1 (vp_in_nI (by omega) (by omega)) dL_law_1281 ?_
  refine gw_callVi (As := [.int (xs (nI (i + 1)).toNatClampNeg), .int (xs (nI (i + 2)).toNatClampNeg), .int (xs (nI (i + 3)).toNatClampNeg)]) (rest := []) F hl.1 hW (xl_E hXL) XE_E (by omega) xe_0 rfl (kX7_cell h.hSh) pd_yX7_cell ml_RL_157 im_yX7_cell se_yX7_cell ini_RX7 cd_yX7_cell ⟨rfl, rfl⟩ ⟨Nat.le_of_ble_eq_true rfl, Nat.le_of_ble_eq_true rfl⟩ rfl rfl (Nat.le_of_ble_eq_true rfl) ⟨by show cells ≤ 600000; omega, by show slots ≤ 7302250; omega⟩ dL_law_1282 (fun r u H1 locs1 hp hX1 _ hk => ?_)
  have hM1 := hM.keep (N2 := 42 + 3 * n) (ad2 := ad) hk hap hX1.2.2.2.1
  refine lv_aload_n hx hb dL_law_1285 rfl (lv_at hl 1 rfl) ?_
  refine lv_aload_n hx hb dL_law_1286 rfl (lv_at hl 3 rfl) ?_
  refine lv_iload_n hx hb dL_law_1287 rfl (lv_at hl 0 rfl) ?_
  refine lv_iconst (v := 1) hx hb dL_law_1288 (by decide) ?_
  refine lv_iadd hx hb dL_law_1289 ?_
  refine lv_as (z := nI (i + 1)) (show nI i + (1 : Int32) = nI (i + 1) from nI_add i 1) ?_
  refine va_sld hx hb hXs hbl hbA hX1.2.2.2.1 (vp_in_nI (by omega) (by omega)) dL_law_1290 ?_
  refine lv_aload_n hx hb dL_law_1291 rfl (lv_at hl 3 rfl) ?_
  refine lv_iload_n hx hb dL_law_1292 rfl (lv_at hl 0 rfl) ?_
  refine lv_iconst (v := 2) hx hb dL_law_1293 (by decide) ?_
  refine lv_iadd hx hb dL_law_1294 ?_
  refine lv_as (z := nI (i + 2)) (show nI i + (2 : Int32) = nI (i + 2) from nI_add i 2) ?_
  refine va_sld hx hb hXs hbl hbA hX1.2.2.2.1 (vp_in_nI (by omega) (by omega)) dL_law_1295 ?_
  refine lv_aload_n hx hb dL_law_1296 rfl (lv_at hl 3 rfl) ?_
  refine lv_iload_n hx hb dL_law_1297 rfl (lv_at hl 0 rfl) ?_
  refine lv_iconst (v := 3) hx hb dL_law_1298 (by decide) ?_
  refine lv_iadd hx hb dL_law_1299 ?_
  refine lv_as (z := nI (i + 3)) (show nI i + (3 : Int32) = nI (i + 3) from nI_add i 3) ?_
  refine va_sld hx hb hXs hbl hbA hX1.2.2.2.1 (vp_in_nI (by omega) (by omega)) dL_law_1300 ?_
  refine gw_callVi (As := [.int (xs (nI (i + 1)).toNatClampNeg), .int (xs (nI (i + 2)).toNatClampNeg), .int (xs (nI (i + 3)).toNatClampNeg)]) (rest := [.int r]) F hl.1 hM1 (fun _ _ _ => trivial) gw_T_E (by decide) (rfl : ment adM cA _ _ _ 0 = _) rfl (kX8_cell (χ := σ) h.2.2.2.2.1 h.hSh) pd_yX8_cell ml_RL_160 im_yX8_cell se_yX8_cell ini_RX8 cd_yX8_cell ⟨rfl, rfl⟩ ⟨Nat.le_of_ble_eq_true rfl, Nat.le_of_ble_eq_true rfl⟩ rfl rfl (Nat.le_of_ble_eq_true rfl) ⟨by show cells ≤ 600000; omega, by show slots ≤ 7302250; omega⟩ dL_law_1301 (fun r2 u2 H2 locs2 hp2 hM2 _ hk2 => ?_)
  have hX2 := hX1.keep (N2 := 18) (ad2 := adM) hk2 (fun i j hi hj e => hap j i hj hi e.symm) hM2.2.2.2.1
  have he : r = r2 := by rw [hp.1, hp2.1]
  have hLI : LI (ad 0) (adM 0) (fun q : Nat => s.heap.size ≤ q) s H2 locs2 := ⟨D, cs, cA, n, z, ad, adM, ρ, TT, τ, u, ρM, T, u2, hX2, hM2, hap, (by rw [hp.2]; exact sim_S h (fun o ho => lo_cell _ _ _ ho) (ok_cell h.hSh _ _ _) hp2.2.1 hp2.2.2), rfl, rfl⟩
  refine lv_icmp_eq (tgt := 1458) hx hb dL_law_1304 (by decide) (fun _ => ?_) (fun cn => ?_)
  · refine W.widen (k := cells + 3) (n := slots + 168) (Nat.le_add_right _ _) (Nat.le_add_right _ _) ?_
    exact kk H2 locs2 hLI
  · exact absurd he cn
set_option maxHeartbeats 1000000 in
set_option maxRecDepth 100000 in
theorem lc_35 (l : Launch) : LCase l 1309 := by
  intro p e s m below meth c Q b L i a1 a2 tk adK adV xs H locs ls cells slots F hXs hbl hXL hi hL hl hcs hI kk
  obtain ⟨hx, hb, hml, hown, hts⟩ := id F
  have hbA : ¬ (fun q : Nat => s.heap.size ≤ q) b := Nat.not_le.mpr hbl
  obtain ⟨D, cs, cA, n, z, ad, adM, ρ, TT, τ, σ, ρM, T, σM, hW, hM, hap, h, rfl, rfl⟩ := hI
  have hE := h.2.1
  have hT := h.hT
  refine lv_aload_n hx hb dL_law_1309 rfl (lv_at hl 2 rfl) ?_
  refine lv_aload_n hx hb dL_law_1310 rfl (lv_at hl 3 rfl) ?_
  refine lv_iload_n hx hb dL_law_1311 rfl (lv_at hl 0 rfl) ?_
  refine lv_iconst (v := 1) hx hb dL_law_1312 (by decide) ?_
  refine lv_iadd hx hb dL_law_1313 ?_
  refine lv_as (z := nI (i + 1)) (show nI i + (1 : Int32) = nI (i + 1) from nI_add i 1) ?_
  refine va_sld hx hb hXs hbl hbA hW.2.2.2.1 (vp_in_nI (by omega) (by omega)) dL_law_1314 ?_
  refine lv_aload_n hx hb dL_law_1315 rfl (lv_at hl 3 rfl) ?_
  refine lv_iload_n hx hb dL_law_1316 rfl (lv_at hl 0 rfl) ?_
  refine lv_iconst (v := 2) hx hb dL_law_1317 (by decide) ?_
  refine lv_iadd hx hb dL_law_1318 ?_
  refine lv_as (z := nI (i + 2)) (show nI i + (2 : Int32) = nI (i + 2) from nI_add i 2) ?_
  refine va_sld hx hb hXs hbl hbA hW.2.2.2.1 (vp_in_nI (by omega) (by omega)) dL_law_1319 ?_
  refine lv_aload_n hx hb dL_law_1320 rfl (lv_at hl 3 rfl) ?_
  refine lv_iload_n hx hb dL_law_1321 rfl (lv_at hl 0 rfl) ?_
  refine lv_iconst (v := 3) hx hb dL_law_1322 (by decide) ?_
  refine lv_iadd hx hb dL_law_1323 ?_
  refine lv_as (z := nI (i + 3)) (show nI i + (3 : Int32) = nI (i + 3) from nI_add i 3) ?_
  refine va_sld hx hb hXs hbl hbA hW.2.2.2.1 (vp_in_nI (by omega) (by omega)) dL_law_1324 ?_
  refine lv_aload_n hx hb dL_law_1325 rfl (lv_at hl 3 rfl) ?_
  refine lv_iload_n hx hb dL_law_1326 rfl (lv_at hl 0 rfl) ?_
  refine lv_iconst (v := 4) hx hb dL_law_1327 (by decide) ?_
  refine lv_iadd hx hb dL_law_1328 ?_
  refine lv_as (z := nI (i + 4)) (show nI i + (4 : Int32) = nI (i + 4) from nI_add i 4) ?_
  refine va_sld hx hb hXs hbl hbA hW.2.2.2.1 (vp_in_nI (by omega) (by omega)) dL_law_1329 ?_
  refine lv_aload_n hx hb dL_law_1330 rfl (lv_at hl 3 rfl) ?_
  refine lv_iload_n hx hb dL_law_1331 rfl (lv_at hl 0 rfl) ?_
  refine lv_iconst (v := 5) hx hb dL_law_1332 (by decide) ?_
  refine lv_iadd hx hb dL_law_1333 ?_
  refine lv_as (z := nI (i + 5)) (show nI i + (5 : Int32) = nI (i + 5) from nI_add i 5) ?_
  refine va_sld hx hb hXs hbl hbA hW.2.2.2.1 (vp_in_nI (by omega) (by omega)) dL_law_1334 ?_
  refine gw_callVi (As := [.int (xs (nI (i + 1)).toNatClampNeg), .int (xs (nI (i + 2)).toNatClampNeg), .int (xs (nI (i + 3)).toNatClampNeg), .int (xs (nI (i + 4)).toNatClampNeg), .int (xs (nI (i + 5)).toNatClampNeg)]) (rest := []) F hl.1 hW (xl_E hXL) XE_E (by omega) xe_0 rfl (kX7_copy h.hSh) pd_yX7_copy ml_RL_161 im_yX7_copy se_yX7_copy ini_RX7 cd_yX7_copy ⟨rfl, rfl⟩ ⟨Nat.le_of_ble_eq_true rfl, Nat.le_of_ble_eq_true rfl⟩ rfl rfl (Nat.le_of_ble_eq_true rfl) ⟨by show cells ≤ 600000; omega, by show slots ≤ 7302250; omega⟩ dL_law_1335 (fun r u H1 locs1 hp hX1 _ hk => ?_)
  have hM1 := hM.keep (N2 := 42 + 3 * n) (ad2 := ad) hk hap hX1.2.2.2.1
  refine lv_aload_n hx hb dL_law_1338 rfl (lv_at hl 1 rfl) ?_
  refine lv_aload_n hx hb dL_law_1339 rfl (lv_at hl 3 rfl) ?_
  refine lv_iload_n hx hb dL_law_1340 rfl (lv_at hl 0 rfl) ?_
  refine lv_iconst (v := 1) hx hb dL_law_1341 (by decide) ?_
  refine lv_iadd hx hb dL_law_1342 ?_
  refine lv_as (z := nI (i + 1)) (show nI i + (1 : Int32) = nI (i + 1) from nI_add i 1) ?_
  refine va_sld hx hb hXs hbl hbA hX1.2.2.2.1 (vp_in_nI (by omega) (by omega)) dL_law_1343 ?_
  refine lv_aload_n hx hb dL_law_1344 rfl (lv_at hl 3 rfl) ?_
  refine lv_iload_n hx hb dL_law_1345 rfl (lv_at hl 0 rfl) ?_
  refine lv_iconst (v := 2) hx hb dL_law_1346 (by decide) ?_
  refine lv_iadd hx hb dL_law_1347 ?_
  refine lv_as (z := nI (i + 2)) (show nI i + (2 : Int32) = nI (i + 2) from nI_add i 2) ?_
  refine va_sld hx hb hXs hbl hbA hX1.2.2.2.1 (vp_in_nI (by omega) (by omega)) dL_law_1348 ?_
  refine lv_aload_n hx hb dL_law_1349 rfl (lv_at hl 3 rfl) ?_
  refine lv_iload_n hx hb dL_law_1350 rfl (lv_at hl 0 rfl) ?_
  refine lv_iconst (v := 3) hx hb dL_law_1351 (by decide) ?_
  refine lv_iadd hx hb dL_law_1352 ?_
  refine lv_as (z := nI (i + 3)) (show nI i + (3 : Int32) = nI (i + 3) from nI_add i 3) ?_
  refine va_sld hx hb hXs hbl hbA hX1.2.2.2.1 (vp_in_nI (by omega) (by omega)) dL_law_1353 ?_
  refine lv_aload_n hx hb dL_law_1354 rfl (lv_at hl 3 rfl) ?_
  refine lv_iload_n hx hb dL_law_1355 rfl (lv_at hl 0 rfl) ?_
  refine lv_iconst (v := 4) hx hb dL_law_1356 (by decide) ?_
  refine lv_iadd hx hb dL_law_1357 ?_
  refine lv_as (z := nI (i + 4)) (show nI i + (4 : Int32) = nI (i + 4) from nI_add i 4) ?_
  refine va_sld hx hb hXs hbl hbA hX1.2.2.2.1 (vp_in_nI (by omega) (by omega)) dL_law_1358 ?_
  refine lv_aload_n hx hb dL_law_1359 rfl (lv_at hl 3 rfl) ?_
  refine lv_iload_n hx hb dL_law_1360 rfl (lv_at hl 0 rfl) ?_
  refine lv_iconst (v := 5) hx hb dL_law_1361 (by decide) ?_
  refine lv_iadd hx hb dL_law_1362 ?_
  refine lv_as (z := nI (i + 5)) (show nI i + (5 : Int32) = nI (i + 5) from nI_add i 5) ?_
  refine va_sld hx hb hXs hbl hbA hX1.2.2.2.1 (vp_in_nI (by omega) (by omega)) dL_law_1363 ?_
  refine gw_callVi (As := [.int (xs (nI (i + 1)).toNatClampNeg), .int (xs (nI (i + 2)).toNatClampNeg), .int (xs (nI (i + 3)).toNatClampNeg), .int (xs (nI (i + 4)).toNatClampNeg), .int (xs (nI (i + 5)).toNatClampNeg)]) (rest := [.int r]) F hl.1 hM1 (fun _ _ _ => trivial) gw_T_E (by decide) (rfl : ment adM cA _ _ _ 0 = _) rfl (kX8_copy (χ := σ) h.2.2.2.2.1 h.hSh) pd_yX8_copy ml_RL_165 im_yX8_copy se_yX8_copy ini_RX8 cd_yX8_copy ⟨rfl, rfl⟩ ⟨Nat.le_of_ble_eq_true rfl, Nat.le_of_ble_eq_true rfl⟩ rfl rfl (Nat.le_of_ble_eq_true rfl) ⟨by show cells ≤ 600000; omega, by show slots ≤ 7302250; omega⟩ dL_law_1364 (fun r2 u2 H2 locs2 hp2 hM2 _ hk2 => ?_)
  have hX2 := hX1.keep (N2 := 18) (ad2 := adM) hk2 (fun i j hi hj e => hap j i hj hi e.symm) hM2.2.2.2.1
  have he : r = r2 := by rw [hp.1, hp2.1]
  have hLI : LI (ad 0) (adM 0) (fun q : Nat => s.heap.size ≤ q) s H2 locs2 := ⟨D, cs, cA, n, z, ad, adM, ρ, TT, τ, u, ρM, T, u2, hX2, hM2, hap, (by rw [hp.2]; exact sim_S h (fun o ho => lo_copy _ _ _ _ _ ho) (ok_copy h.hSh _ _ _ _ _) hp2.2.1 hp2.2.2), rfl, rfl⟩
  refine lv_icmp_eq (tgt := 1458) hx hb dL_law_1367 (by decide) (fun _ => ?_) (fun cn => ?_)
  · refine W.widen (k := cells + 3) (n := slots + 168) (Nat.le_add_right _ _) (Nat.le_add_right _ _) ?_
    exact kk H2 locs2 hLI
  · exact absurd he cn
set_option maxHeartbeats 1000000 in
set_option maxRecDepth 100000 in
theorem lc_36 (l : Launch) : LCase l 1372 := by
  intro p e s m below meth c Q b L i a1 a2 tk adK adV xs H locs ls cells slots F hXs hbl hXL hi hL hl hcs hI kk
  obtain ⟨hx, hb, hml, hown, hts⟩ := id F
  have hbA : ¬ (fun q : Nat => s.heap.size ≤ q) b := Nat.not_le.mpr hbl
  obtain ⟨D, cs, cA, n, z, ad, adM, ρ, TT, τ, σ, ρM, T, σM, hW, hM, hap, h, rfl, rfl⟩ := hI
  have hE := h.2.1
  have hT := h.hT
  refine lv_aload_n hx hb dL_law_1372 rfl (lv_at hl 2 rfl) ?_
  refine lv_aload_n hx hb dL_law_1373 rfl (lv_at hl 3 rfl) ?_
  refine lv_iload_n hx hb dL_law_1374 rfl (lv_at hl 0 rfl) ?_
  refine lv_iconst (v := 1) hx hb dL_law_1375 (by decide) ?_
  refine lv_iadd hx hb dL_law_1376 ?_
  refine lv_as (z := nI (i + 1)) (show nI i + (1 : Int32) = nI (i + 1) from nI_add i 1) ?_
  refine va_sld hx hb hXs hbl hbA hW.2.2.2.1 (vp_in_nI (by omega) (by omega)) dL_law_1377 ?_
  refine lv_aload_n hx hb dL_law_1378 rfl (lv_at hl 3 rfl) ?_
  refine lv_iload_n hx hb dL_law_1379 rfl (lv_at hl 0 rfl) ?_
  refine lv_iconst (v := 2) hx hb dL_law_1380 (by decide) ?_
  refine lv_iadd hx hb dL_law_1381 ?_
  refine lv_as (z := nI (i + 2)) (show nI i + (2 : Int32) = nI (i + 2) from nI_add i 2) ?_
  refine va_sld hx hb hXs hbl hbA hW.2.2.2.1 (vp_in_nI (by omega) (by omega)) dL_law_1382 ?_
  refine lv_aload_n hx hb dL_law_1383 rfl (lv_at hl 3 rfl) ?_
  refine lv_iload_n hx hb dL_law_1384 rfl (lv_at hl 0 rfl) ?_
  refine lv_iconst (v := 3) hx hb dL_law_1385 (by decide) ?_
  refine lv_iadd hx hb dL_law_1386 ?_
  refine lv_as (z := nI (i + 3)) (show nI i + (3 : Int32) = nI (i + 3) from nI_add i 3) ?_
  refine va_sld hx hb hXs hbl hbA hW.2.2.2.1 (vp_in_nI (by omega) (by omega)) dL_law_1387 ?_
  refine lv_aload_n hx hb dL_law_1388 rfl (lv_at hl 3 rfl) ?_
  refine lv_iload_n hx hb dL_law_1389 rfl (lv_at hl 0 rfl) ?_
  refine lv_iconst (v := 4) hx hb dL_law_1390 (by decide) ?_
  refine lv_iadd hx hb dL_law_1391 ?_
  refine lv_as (z := nI (i + 4)) (show nI i + (4 : Int32) = nI (i + 4) from nI_add i 4) ?_
  refine va_sld hx hb hXs hbl hbA hW.2.2.2.1 (vp_in_nI (by omega) (by omega)) dL_law_1392 ?_
  refine gw_callVi (As := [.int (xs (nI (i + 1)).toNatClampNeg), .int (xs (nI (i + 2)).toNatClampNeg), .int (xs (nI (i + 3)).toNatClampNeg), .int (xs (nI (i + 4)).toNatClampNeg)]) (rest := []) F hl.1 hW (xl_E hXL) XE_E (by omega) xe_0 rfl (kX7_guestsBy h.hO h.hSh) pd_yX7_guestsBy ml_RL_166 im_yX7_guestsBy se_yX7_guestsBy ini_RX7 cd_yX7_guestsBy ⟨rfl, rfl⟩ ⟨Nat.le_of_ble_eq_true rfl, Nat.le_of_ble_eq_true rfl⟩ rfl rfl (Nat.le_of_ble_eq_true rfl) ⟨by show cells ≤ 600000; omega, by show slots ≤ 7302250; omega⟩ dL_law_1393 (fun r u H1 locs1 hp hX1 _ hk => ?_)
  have hM1 := hM.keep (N2 := 42 + 3 * n) (ad2 := ad) hk hap hX1.2.2.2.1
  refine lv_aload_n hx hb dL_law_1396 rfl (lv_at hl 1 rfl) ?_
  refine lv_aload_n hx hb dL_law_1397 rfl (lv_at hl 3 rfl) ?_
  refine lv_iload_n hx hb dL_law_1398 rfl (lv_at hl 0 rfl) ?_
  refine lv_iconst (v := 1) hx hb dL_law_1399 (by decide) ?_
  refine lv_iadd hx hb dL_law_1400 ?_
  refine lv_as (z := nI (i + 1)) (show nI i + (1 : Int32) = nI (i + 1) from nI_add i 1) ?_
  refine va_sld hx hb hXs hbl hbA hX1.2.2.2.1 (vp_in_nI (by omega) (by omega)) dL_law_1401 ?_
  refine lv_aload_n hx hb dL_law_1402 rfl (lv_at hl 3 rfl) ?_
  refine lv_iload_n hx hb dL_law_1403 rfl (lv_at hl 0 rfl) ?_
  refine lv_iconst (v := 2) hx hb dL_law_1404 (by decide) ?_
  refine lv_iadd hx hb dL_law_1405 ?_
  refine lv_as (z := nI (i + 2)) (show nI i + (2 : Int32) = nI (i + 2) from nI_add i 2) ?_
  refine va_sld hx hb hXs hbl hbA hX1.2.2.2.1 (vp_in_nI (by omega) (by omega)) dL_law_1406 ?_
  refine lv_aload_n hx hb dL_law_1407 rfl (lv_at hl 3 rfl) ?_
  refine lv_iload_n hx hb dL_law_1408 rfl (lv_at hl 0 rfl) ?_
  refine lv_iconst (v := 3) hx hb dL_law_1409 (by decide) ?_
  refine lv_iadd hx hb dL_law_1410 ?_
  refine lv_as (z := nI (i + 3)) (show nI i + (3 : Int32) = nI (i + 3) from nI_add i 3) ?_
  refine va_sld hx hb hXs hbl hbA hX1.2.2.2.1 (vp_in_nI (by omega) (by omega)) dL_law_1411 ?_
  refine lv_aload_n hx hb dL_law_1412 rfl (lv_at hl 3 rfl) ?_
  refine lv_iload_n hx hb dL_law_1413 rfl (lv_at hl 0 rfl) ?_
  refine lv_iconst (v := 4) hx hb dL_law_1414 (by decide) ?_
  refine lv_iadd hx hb dL_law_1415 ?_
  refine lv_as (z := nI (i + 4)) (show nI i + (4 : Int32) = nI (i + 4) from nI_add i 4) ?_
  refine va_sld hx hb hXs hbl hbA hX1.2.2.2.1 (vp_in_nI (by omega) (by omega)) dL_law_1416 ?_
  refine gw_callVi (As := [.int (xs (nI (i + 1)).toNatClampNeg), .int (xs (nI (i + 2)).toNatClampNeg), .int (xs (nI (i + 3)).toNatClampNeg), .int (xs (nI (i + 4)).toNatClampNeg)]) (rest := [.int r]) F hl.1 hM1 (fun _ _ _ => trivial) gw_T_E (by decide) (rfl : ment adM cA _ _ _ 0 = _) rfl (kX8_guestsBy (χ := σ) h.hTM h.2.2.2.2.1 h.hSh) pd_yX8_guestsBy ml_RL_169 im_yX8_guestsBy se_yX8_guestsBy ini_RX8 cd_yX8_guestsBy ⟨rfl, rfl⟩ ⟨Nat.le_of_ble_eq_true rfl, Nat.le_of_ble_eq_true rfl⟩ rfl rfl (Nat.le_of_ble_eq_true rfl) ⟨by show cells ≤ 600000; omega, by show slots ≤ 7302250; omega⟩ dL_law_1417 (fun r2 u2 H2 locs2 hp2 hM2 _ hk2 => ?_)
  have hX2 := hX1.keep (N2 := 18) (ad2 := adM) hk2 (fun i j hi hj e => hap j i hj hi e.symm) hM2.2.2.2.1
  have he : r = r2 := by rw [hp.1, hp2.1]; exact (hE.pby hT _ _ _ _ _ _ _).1
  have hLI : LI (ad 0) (adM 0) (fun q : Nat => s.heap.size ≤ q) s H2 locs2 := ⟨D, cs, cA, n, z, ad, adM, ρ, u, τ, σ, ρM, u2, σM, hX2, hM2, hap, (by rw [hp.2, hp2.2, va_up_self, va_up_ne _ _ (by decide)]; exact sim_T h (st_by hT h.1.2.2.2.2.2.2.2.2 _ _ _ _ _ _ _) (hE.pby hT _ _ _ _ _ _ _).2), rfl, rfl⟩
  refine lv_icmp_eq (tgt := 1458) hx hb dL_law_1420 (by decide) (fun _ => ?_) (fun cn => ?_)
  · refine W.widen (k := cells + 3) (n := slots + 168) (Nat.le_add_right _ _) (Nat.le_add_right _ _) ?_
    exact kk H2 locs2 hLI
  · exact absurd he cn
set_option maxHeartbeats 1000000 in
set_option maxRecDepth 100000 in
theorem lc_37 (l : Launch) : LCase l 1425 := by
  intro p e s m below meth c Q b L i a1 a2 tk adK adV xs H locs ls cells slots F hXs hbl hXL hi hL hl hcs hI kk
  obtain ⟨hx, hb, hml, hown, hts⟩ := id F
  have hbA : ¬ (fun q : Nat => s.heap.size ≤ q) b := Nat.not_le.mpr hbl
  obtain ⟨D, cs, cA, n, z, ad, adM, ρ, TT, τ, σ, ρM, T, σM, hW, hM, hap, h, rfl, rfl⟩ := hI
  have hE := h.2.1
  have hT := h.hT
  refine lv_aload_n hx hb dL_law_1425 rfl (lv_at hl 2 rfl) ?_
  refine lv_aload_n hx hb dL_law_1426 rfl (lv_at hl 3 rfl) ?_
  refine lv_iload_n hx hb dL_law_1427 rfl (lv_at hl 0 rfl) ?_
  refine lv_iconst (v := 1) hx hb dL_law_1428 (by decide) ?_
  refine lv_iadd hx hb dL_law_1429 ?_
  refine lv_as (z := nI (i + 1)) (show nI i + (1 : Int32) = nI (i + 1) from nI_add i 1) ?_
  refine va_sld hx hb hXs hbl hbA hW.2.2.2.1 (vp_in_nI (by omega) (by omega)) dL_law_1430 ?_
  refine lv_aload_n hx hb dL_law_1431 rfl (lv_at hl 3 rfl) ?_
  refine lv_iload_n hx hb dL_law_1432 rfl (lv_at hl 0 rfl) ?_
  refine lv_iconst (v := 2) hx hb dL_law_1433 (by decide) ?_
  refine lv_iadd hx hb dL_law_1434 ?_
  refine lv_as (z := nI (i + 2)) (show nI i + (2 : Int32) = nI (i + 2) from nI_add i 2) ?_
  refine va_sld hx hb hXs hbl hbA hW.2.2.2.1 (vp_in_nI (by omega) (by omega)) dL_law_1435 ?_
  refine gw_callVi (As := [.int (xs (nI (i + 1)).toNatClampNeg), .int (xs (nI (i + 2)).toNatClampNeg)]) (rest := []) F hl.1 hW (xl_Z hXL hW) XZ_E (by omega) xe_0 rfl (kX7_taken (tk := tk) h.hO) pd_yX7_taken ml_RL_170 im_yX7_taken se_yX7_taken ini_RX7 cd_yX7_taken ⟨rfl, rfl⟩ ⟨Nat.le_of_ble_eq_true rfl, Nat.le_of_ble_eq_true rfl⟩ rfl rfl (Nat.le_of_ble_eq_true rfl) ⟨by show cells ≤ 600000; omega, by show slots ≤ 7302250; omega⟩ dL_law_1436 (fun r u H1 locs1 hp hX1 _ hk => ?_)
  have hM1 := hM.keep (N2 := 42 + 3 * n) (ad2 := ad) hk hap hX1.2.2.2.1
  refine lv_aload_n hx hb dL_law_1439 rfl (lv_at hl 1 rfl) ?_
  refine lv_aload_n hx hb dL_law_1440 rfl (lv_at hl 3 rfl) ?_
  refine lv_iload_n hx hb dL_law_1441 rfl (lv_at hl 0 rfl) ?_
  refine lv_iconst (v := 1) hx hb dL_law_1442 (by decide) ?_
  refine lv_iadd hx hb dL_law_1443 ?_
  refine lv_as (z := nI (i + 1)) (show nI i + (1 : Int32) = nI (i + 1) from nI_add i 1) ?_
  refine va_sld hx hb hXs hbl hbA hX1.2.2.2.1 (vp_in_nI (by omega) (by omega)) dL_law_1444 ?_
  refine lv_aload_n hx hb dL_law_1445 rfl (lv_at hl 3 rfl) ?_
  refine lv_iload_n hx hb dL_law_1446 rfl (lv_at hl 0 rfl) ?_
  refine lv_iconst (v := 2) hx hb dL_law_1447 (by decide) ?_
  refine lv_iadd hx hb dL_law_1448 ?_
  refine lv_as (z := nI (i + 2)) (show nI i + (2 : Int32) = nI (i + 2) from nI_add i 2) ?_
  refine va_sld hx hb hXs hbl hbA hX1.2.2.2.1 (vp_in_nI (by omega) (by omega)) dL_law_1449 ?_
  refine gw_callVi (As := [.int (xs (nI (i + 1)).toNatClampNeg), .int (xs (nI (i + 2)).toNatClampNeg)]) (rest := [.int r]) F hl.1 hM1 (fun _ _ _ => trivial) gw_T_E (by decide) (rfl : ment adM cA _ _ _ 0 = _) rfl (kX8_taken h.hTM) pd_yX8_taken ml_RL_173 im_yX8_taken se_yX8_taken ini_RX8 cd_yX8_taken ⟨rfl, rfl⟩ ⟨Nat.le_of_ble_eq_true rfl, Nat.le_of_ble_eq_true rfl⟩ rfl rfl (Nat.le_of_ble_eq_true rfl) ⟨by show cells ≤ 600000; omega, by show slots ≤ 7302250; omega⟩ dL_law_1450 (fun r2 u2 H2 locs2 hp2 hM2 _ hk2 => ?_)
  have hX2 := hX1.keep (N2 := 18) (ad2 := adM) hk2 (fun i j hi hj e => hap j i hj hi e.symm) hM2.2.2.2.1
  have he : r = r2 := by rw [hp, hp2]; exact hE.ptaken hT _ _
  have hLI : LI (ad 0) (adM 0) (fun q : Nat => s.heap.size ≤ q) s H2 locs2 := ⟨D, cs, cA, n, z, ad, adM, ρ, TT, τ, σ, ρM, T, σM, hX2, hM2, hap, h, rfl, rfl⟩
  refine lv_icmp_eq (tgt := 1458) hx hb dL_law_1453 (by decide) (fun _ => ?_) (fun cn => ?_)
  · refine W.widen (k := cells + 3) (n := slots + 168) (Nat.le_add_right _ _) (Nat.le_add_right _ _) ?_
    exact kk H2 locs2 hLI
  · exact absurd he cn
