set_option maxHeartbeats 4000000 in
set_option maxRecDepth 100000 in
theorem lw_c2 {p : Program} {l : Launch} {e : Env} {s : State} {m : MethodId} {below : List Frame} {meth : Method} {c : Code} {b L : Nat} {xs : Nat → Int32} {dC : Nat → ClassId} {dI : Nat → Nat → Nat} {cI cL : ClassId} {ad am : Nat → Nat} {oa k : Nat} (C0 : lw_C p l s m c b L xs dC dI cI cL) (hk : 3 * k + 3 ≤ L) (J : lw_J p l e s m below meth c b dC dI cI cL ad am oa k (k + 1) 823) : lw_J p l e s m below meth c b dC dI cI cL ad am oa k k 200 := by
  obtain ⟨hx, hb, hml, hown, hts, hX, hbl, hK, hN, hT, hst, hL⟩ := C0
  have hbA : ¬ (fun q : Nat => s.heap.size ≤ q) b := Nat.not_le.mpr hbl
  intro f0 c0 f1 c1 f2 c2 lo up be si pl cu ge fa ou g bm sim gem cum plm brm th H locs ls hR hP hD hS hl
  refine lv_aload_n hx hb dL_law_200 rfl (lv_at hl 1 rfl) ?_
  refine lv_aload_n hx hb dL_law_201 rfl (lv_at hl 0 rfl) ?_
  refine lv_iload hx hb dL_law_202 (lv_at hl 4 rfl) ?_
  refine lv_iconst (v := 1) hx hb dL_law_204 (by decide) ?_
  refine lv_iadd hx hb dL_law_205 ?_
  refine va_sld hx hb hX hbl hbA hS (lw_in1 hk hL) dL_law_206 ?_
  refine lv_topi (fun p1 ep1 => ?_)
  refine lv_aload_n hx hb dL_law_207 rfl (lv_at hl 0 rfl) ?_
  refine lv_iload hx hb dL_law_208 (lv_at hl 4 rfl) ?_
  refine lv_iconst (v := 2) hx hb dL_law_210 (by decide) ?_
  refine lv_iadd hx hb dL_law_211 ?_
  refine va_sld hx hb hX hbl hbA hS (lw_in2 hk hL) dL_law_212 ?_
  refine lv_topi (fun p2 ep2 => ?_)
  refine lv_aload_n hx hb dL_law_213 rfl (lv_at hl 3 rfl) ?_
  have hPc : va_P (dC, dI) vwCl (gw_V cI cL ad oa f0 c0 f1 c1 f2 c2 lo up be si pl cu ge fa ou) H := gv_sub [0, 1, 2, 3, 4, 5, 6, 7, 8, 9, 10, 11, 12, 13] hP rfl
  have hDc : va_D (gv_in (gw_V cI cL ad oa f0 c0 f1 c1 f2 c2 lo up be si pl cu ge fa ou)) (gw_V cI cL ad oa f0 c0 f1 c1 f2 c2 lo up be si pl cu ge fa ou) := gv_D hD [0, 1, 2, 3, 4, 5, 6, 7, 8, 9, 10, 11, 12, 13] (by decide) rfl
  have hXc : gx_T (gv_in (gw_V cI cL ad oa f0 c0 f1 c1 f2 c2 lo up be si pl cu ge fa ou)) s H := hT.to hS.2.1 (gv_inA hD [0, 1, 2, 3, 4, 5, 6, 7, 8, 9, 10, 11, 12, 13] rfl)
  refine gw_ki (wf := (fun (u : (Nat → Int32) × (Nat → Int64)) => (gw_V cI cL ad oa f0 c0 f1 c1 f2 c2 lo up u.1 si pl cu ge fa u.2))) (wc := (gw_V cI cL ad oa f0 c0 f1 c1 f2 c2 lo up be si pl cu ge fa ou)) [0, 1, 2, 3, 4, 5, 6, 7, 8, 9, 10, 11, 12, 13] (fun _ => rfl) hP hD hS rfl (vx_runSW (As := [.ref (ad 0), .int p1, .int p2, .ref oa]) (rest := []) ⟨hx, hb, hml, hown, hts⟩ (kL_trellis l hst dC dI cI cL ad oa f0 c0 f1 c1 f2 c2 lo up be si pl cu ge fa ou p1 p2 (gv_in (gw_V cI cL ad oa f0 c0 f1 c1 f2 c2 lo up be si pl cu ge fa ou))) (vx_cwSW (rm := gx_R 8 2 125) 4 hts gL_law_L_trellis rfl rfl rfl (by decide +kernel) ⟨(Nat.le_of_ble_eq_true rfl), (Nat.le_of_ble_eq_true rfl)⟩) (gx_preS hK hPc hDc hN hXc) rfl rfl hl.1 rfl (lv_room (Nat.le_of_ble_eq_true rfl)) dL_law_214 ⟨lw_rc (by omega), lw_rs (by omega)⟩) (fun kq u H locs hw hP hD hS => ?_)
  refine W.widen (k := 17 + 2 * (k + 1)) (n := 6172 + 12 * (k + 1)) (by omega) (by omega) ?_
  obtain ⟨k2, b2, be2, bm2, ou2, e1, e2, e3, hR2⟩ := ms_trellis (f1 := f1) (c1 := c1) (f2 := f2) (c2 := c2) (lo := lo) (up := up) (th := th) (ou := ou) (p1 := p1) (p2 := p2) hR
  have hw := (show (kq, u) = _ from hw).trans e1
  have hq : k2 = kq := (congrArg Prod.fst hw).symm
  subst hq
  have hu : u = (be2, ou2) := congrArg Prod.snd hw
  subst hu
  clear hw
  have hP : va_P (dC, dI) vwCl (lw_W cI cL ad am oa f0 c0 f1 c1 f2 c2 lo up be2 si pl cu ge fa ou2 g bm sim gem cum plm brm th) H := hP
  have hD : va_D (fun q : Nat => s.heap.size ≤ q) (lw_W cI cL ad am oa f0 c0 f1 c1 f2 c2 lo up be2 si pl cu ge fa ou2 g bm sim gem cum plm brm th) := hD
  refine lv_istore (lv' := [(5, .int k2), (0, .ref b), (1, .ref (ad 0)), (2, .ref (am 0)), (3, .ref oa), (4, .int (nI (3 * k)))]) hx hb dL_law_217 hl (by decide) rfl (fun ls hl => ?_)
  refine lv_aload_n hx hb dL_law_219 rfl (lv_at hl 3 rfl) ?_
  refine lv_aload_n hx hb dL_law_220 rfl (lv_at hl 1 rfl) ?_
  refine lv_iload hx hb dL_law_221 (lv_at hl 5 rfl) ?_
  refine lv_iconst (v := 1) hx hb dL_law_223 (by decide) ?_
  refine lv_iadd hx hb dL_law_224 ?_
  refine va_sld hx hb hX hbl hbA hS (lw_in1 hk hL) dL_law_225 ?_
  refine lv_topi (fun pz1 ez1 => ?_)
  obtain rfl : p1 = pz1 := ep1.trans ez1.symm
  refine lv_aload_n hx hb dL_law_226 rfl (lv_at hl 1 rfl) ?_
  refine lv_iload hx hb dL_law_227 (lv_at hl 5 rfl) ?_
  refine lv_iconst (v := 2) hx hb dL_law_229 (by decide) ?_
  refine lv_iadd hx hb dL_law_230 ?_
  refine va_sld hx hb hX hbl hbA hS (lw_in2 hk hL) dL_law_231 ?_
  refine lv_topi (fun pz2 ez2 => ?_)
  obtain rfl : p2 = pz2 := ep2.trans ez2.symm
  have hPc : va_P (dC, dI) vwCl (gv_M cI am g bm sim gem cum plm brm th) H := gv_sub [14, 15, 16] hP rfl
  have hDc : va_D (gv_in (gv_M cI am g bm sim gem cum plm brm th)) (gv_M cI am g bm sim gem cum plm brm th) := gv_D hD [14, 15, 16] (by decide) rfl
  refine gv_ki (wf := (fun (u : (Nat → Int32) × (Int32)) => (gv_M cI am g u.1 sim gem cum plm brm u.2))) (wc := (gv_M cI am g bm sim gem cum plm brm th)) [14, 15, 16] (fun _ => rfl) hP hD hS rfl rfl (va_runV (As := [.int p1, .int p2]) (rest := []) ⟨hx, hb, hml, hown, hts⟩ (kX2_trellis l dC dI cI cL am g bm sim gem cum plm brm th p1 p2 (gv_in (gv_M cI am g bm sim gem cum plm brm th))) (cwV (rm := gv_R 1 20) 2 hts gL_law_X2_trellis rfl rfl rfl (by decide +kernel) ⟨(Nat.le_of_ble_eq_true rfl), (Nat.le_of_ble_eq_true rfl)⟩) (gv_preV (ci := 2) hK hPc hDc hN rfl rfl) rfl rfl hl.1 rfl (lv_room (Nat.le_of_ble_eq_true rfl)) dL_law_232 ⟨lw_rc (by omega), lw_rs (by omega)⟩) (fun bq u H locs hw hP hD hS => ?_)
  have hw := (show (bq, u) = _ from hw).trans e2
  have hq : b2 = bq := (congrArg Prod.fst hw).symm
  subst hq
  have hu : u = (bm2, k2) := congrArg Prod.snd hw
  subst hu
  clear hw
  have hP : va_P (dC, dI) vwCl (lw_W cI cL ad am oa f0 c0 f1 c1 f2 c2 lo up be2 si pl cu ge fa ou2 g bm2 sim gem cum plm brm k2) H := hP
  have hD : va_D (fun q : Nat => s.heap.size ≤ q) (lw_W cI cL ad am oa f0 c0 f1 c1 f2 c2 lo up be2 si pl cu ge fa ou2 g bm2 sim gem cum plm brm k2) := hD
  refine lv_istore (lv' := [(6, .int b2), (5, .int k2), (0, .ref b), (1, .ref (ad 0)), (2, .ref (am 0)), (3, .ref oa), (4, .int (nI (3 * k)))]) hx hb dL_law_235 hl (by decide) rfl (fun ls hl => ?_)
  refine lv_aload_n hx hb dL_law_237 rfl (lv_at hl 4 rfl) ?_
  have hPc : va_P (dC, dI) vwCl (gv_M cI am g bm2 sim gem cum plm brm k2) H := gv_sub [14, 15, 16] hP rfl
  have hDc : va_D (gv_in (gv_M cI am g bm2 sim gem cum plm brm k2)) (gv_M cI am g bm2 sim gem cum plm brm k2) := gv_D hD [14, 15, 16] (by decide) rfl
  refine gv_ki (wf := (fun (_ : Unit) => (gv_M cI am g bm2 sim gem cum plm brm k2))) (wc := (gv_M cI am g bm2 sim gem cum plm brm k2)) [14, 15, 16] (fun _ => rfl) hP hD hS rfl rfl (va_runV (As := []) (rest := []) ⟨hx, hb, hml, hown, hts⟩ (kX2_thrown l dC dI cI cL am g bm2 sim gem cum plm brm k2 (gv_in (gv_M cI am g bm2 sim gem cum plm brm k2))) (cwV (rm := gv_R 0 0) 0 hts gL_law_X2_thrown rfl rfl rfl (by decide +kernel) ⟨(Nat.le_of_ble_eq_true rfl), (Nat.le_of_ble_eq_true rfl)⟩) (gv_preV (ci := 2) hK hPc hDc hN rfl rfl) rfl rfl hl.1 rfl (lv_room (Nat.le_of_ble_eq_true rfl)) dL_law_238 ⟨lw_rc (by omega), lw_rs (by omega)⟩) (fun tq u H locs hw hP hD hS => ?_)
  have hq : k2 = tq := (show tq = k2 from hw).symm
  subst hq
  clear hw
  have hP : va_P (dC, dI) vwCl (lw_W cI cL ad am oa f0 c0 f1 c1 f2 c2 lo up be2 si pl cu ge fa ou2 g bm2 sim gem cum plm brm k2) H := hP
  have hD : va_D (fun q : Nat => s.heap.size ≤ q) (lw_W cI cL ad am oa f0 c0 f1 c1 f2 c2 lo up be2 si pl cu ge fa ou2 g bm2 sim gem cum plm brm k2) := hD
  refine lv_iload hx hb dL_law_241 (lv_at hl 1 rfl) ?_
  refine lv_icmp_eq (tgt := 248) hx hb dL_law_243 (by decide) (fun cd => ?_) (fun cd => ?_)
  · refine lv_iload hx hb dL_law_248 (lv_at hl 1 rfl) ?_
    refine lv_if_ne (tgt := 265) hx hb dL_law_250 (by decide) (fun cd0 => ?_) (fun cd0 => ?_)
    · refine lv_goto (tgt := 823) hx hb dL_law_265 (by decide) ?_
      exact J f0 c0 f1 c1 f2 c2 lo up be2 si pl cu ge fa ou2 g bm2 sim gem cum plm brm k2 H locs ls hR2 hP hD hS (lv_sub hl [2, 3, 4, 5, 6] rfl)
    · refine lv_aload_n hx hb dL_law_253 rfl (lv_at hl 5 rfl) ?_
      refine lv_iconst (v := 0) hx hb dL_law_254 (by decide) ?_
      refine gv_lald (cA := cL) (f := ou2) (k := 0) hx hb hK hP 13 1 rfl rfl nI_0.symm (by decide) (by decide) dL_law_255 ?_
      refine lv_iload hx hb dL_law_256 (lv_at hl 0 rfl) ?_
      refine lv_i2l (v := Int32.toInt64 b2) hx hb dL_law_258 rfl ?_
      refine W.lcmp hx hb dL_law_259 ?_
      refine lv_if_eq (tgt := 265) hx hb dL_law_260 (by decide) (fun cd1 => ?_) (fun cd1 => ?_)
      · refine lv_goto (tgt := 823) hx hb dL_law_265 (by decide) ?_
        exact J f0 c0 f1 c1 f2 c2 lo up be2 si pl cu ge fa ou2 g bm2 sim gem cum plm brm k2 H locs ls hR2 hP hD hS (lv_sub hl [2, 3, 4, 5, 6] rfl)
      · exact absurd ((lg_cmp_eq _ _).mpr (e3 cd0)) cd1
  · exact absurd rfl cd
set_option maxHeartbeats 4000000 in
set_option maxRecDepth 100000 in
theorem lw_c3 {p : Program} {l : Launch} {e : Env} {s : State} {m : MethodId} {below : List Frame} {meth : Method} {c : Code} {b L : Nat} {xs : Nat → Int32} {dC : Nat → ClassId} {dI : Nat → Nat → Nat} {cI cL : ClassId} {ad am : Nat → Nat} {oa k : Nat} (C0 : lw_C p l s m c b L xs dC dI cI cL) (hk : 3 * k + 3 ≤ L) (J : lw_J p l e s m below meth c b dC dI cI cL ad am oa k (k + 1) 823) : lw_J p l e s m below meth c b dC dI cI cL ad am oa k k 268 := by
  obtain ⟨hx, hb, hml, hown, hts, hX, hbl, hK, hN, hT, hst, hL⟩ := C0
  have hbA : ¬ (fun q : Nat => s.heap.size ≤ q) b := Nat.not_le.mpr hbl
  intro f0 c0 f1 c1 f2 c2 lo up be si pl cu ge fa ou g bm sim gem cum plm brm th H locs ls hR hP hD hS hl
  refine lv_aload_n hx hb dL_law_268 rfl (lv_at hl 1 rfl) ?_
  refine lv_aload_n hx hb dL_law_269 rfl (lv_at hl 0 rfl) ?_
  refine lv_iload hx hb dL_law_270 (lv_at hl 4 rfl) ?_
  refine lv_iconst (v := 1) hx hb dL_law_272 (by decide) ?_
  refine lv_iadd hx hb dL_law_273 ?_
  refine va_sld hx hb hX hbl hbA hS (lw_in1 hk hL) dL_law_274 ?_
  refine lv_topi (fun p1 ep1 => ?_)
  refine lv_aload_n hx hb dL_law_275 rfl (lv_at hl 0 rfl) ?_
  refine lv_iload hx hb dL_law_276 (lv_at hl 4 rfl) ?_
  refine lv_iconst (v := 2) hx hb dL_law_278 (by decide) ?_
  refine lv_iadd hx hb dL_law_279 ?_
  refine va_sld hx hb hX hbl hbA hS (lw_in2 hk hL) dL_law_280 ?_
  refine lv_topi (fun p2 ep2 => ?_)
  refine lv_aload_n hx hb dL_law_281 rfl (lv_at hl 3 rfl) ?_
  have hPc : va_P (dC, dI) vwCl (gw_V cI cL ad oa f0 c0 f1 c1 f2 c2 lo up be si pl cu ge fa ou) H := gv_sub [0, 1, 2, 3, 4, 5, 6, 7, 8, 9, 10, 11, 12, 13] hP rfl
  have hDc : va_D (gv_in (gw_V cI cL ad oa f0 c0 f1 c1 f2 c2 lo up be si pl cu ge fa ou)) (gw_V cI cL ad oa f0 c0 f1 c1 f2 c2 lo up be si pl cu ge fa ou) := gv_D hD [0, 1, 2, 3, 4, 5, 6, 7, 8, 9, 10, 11, 12, 13] (by decide) rfl
  have hXc : gx_T (gv_in (gw_V cI cL ad oa f0 c0 f1 c1 f2 c2 lo up be si pl cu ge fa ou)) s H := hT.to hS.2.1 (gv_inA hD [0, 1, 2, 3, 4, 5, 6, 7, 8, 9, 10, 11, 12, 13] rfl)
  refine gw_ki (wf := (fun (u : (Nat → Int32) × (Nat → Int32) × (Int32) × (Nat → Int64)) => (gw_V cI cL ad oa u.1 u.2.1 f1 c1 f2 c2 lo up be si pl u.2.2.1 ge fa u.2.2.2))) (wc := (gw_V cI cL ad oa f0 c0 f1 c1 f2 c2 lo up be si pl cu ge fa ou)) [0, 1, 2, 3, 4, 5, 6, 7, 8, 9, 10, 11, 12, 13] (fun _ => rfl) hP hD hS rfl (vx_runSW (As := [.ref (ad 0), .int p1, .int p2, .ref oa]) (rest := []) ⟨hx, hb, hml, hown, hts⟩ (kL_cut l hst dC dI cI cL ad oa f0 c0 f1 c1 f2 c2 lo up be si pl cu ge fa ou p1 p2 (gv_in (gw_V cI cL ad oa f0 c0 f1 c1 f2 c2 lo up be si pl cu ge fa ou))) (vx_cwSW (rm := gx_R 8 2 125) 4 hts gL_law_L_cut rfl rfl rfl (by decide +kernel) ⟨(Nat.le_of_ble_eq_true rfl), (Nat.le_of_ble_eq_true rfl)⟩) (gx_preS hK hPc hDc hN hXc) rfl rfl hl.1 rfl (lv_room (Nat.le_of_ble_eq_true rfl)) dL_law_282 ⟨lw_rc (by omega), lw_rs (by omega)⟩) (fun kq u H locs hw hP hD hS => ?_)
  refine W.widen (k := 17 + 2 * (k + 1)) (n := 6172 + 12 * (k + 1)) (by omega) (by omega) ?_
  obtain ⟨k2, b2, f2z, h2z, cu2, g2, cum2, ou2, e1, e2, e3, hR2⟩ := ms_cut (f1 := f1) (c1 := c1) (f2 := f2) (c2 := c2) (lo := lo) (up := up) (th := th) (ou := ou) (p1 := p1) (p2 := p2) hR
  have hw := (show (kq, u) = _ from hw).trans e1
  have hq : k2 = kq := (congrArg Prod.fst hw).symm
  subst hq
  have hu : u = (f2z, h2z, cu2, ou2) := congrArg Prod.snd hw
  subst hu
  clear hw
  have hP : va_P (dC, dI) vwCl (lw_W cI cL ad am oa f2z h2z f1 c1 f2 c2 lo up be si pl cu2 ge fa ou2 g bm sim gem cum plm brm th) H := hP
  have hD : va_D (fun q : Nat => s.heap.size ≤ q) (lw_W cI cL ad am oa f2z h2z f1 c1 f2 c2 lo up be si pl cu2 ge fa ou2 g bm sim gem cum plm brm th) := hD
  refine lv_istore (lv' := [(5, .int k2), (0, .ref b), (1, .ref (ad 0)), (2, .ref (am 0)), (3, .ref oa), (4, .int (nI (3 * k)))]) hx hb dL_law_285 hl (by decide) rfl (fun ls hl => ?_)
  refine lv_aload_n hx hb dL_law_287 rfl (lv_at hl 3 rfl) ?_
  refine lv_aload_n hx hb dL_law_288 rfl (lv_at hl 1 rfl) ?_
  refine lv_iload hx hb dL_law_289 (lv_at hl 5 rfl) ?_
  refine lv_iconst (v := 1) hx hb dL_law_291 (by decide) ?_
  refine lv_iadd hx hb dL_law_292 ?_
  refine va_sld hx hb hX hbl hbA hS (lw_in1 hk hL) dL_law_293 ?_
  refine lv_topi (fun pz1 ez1 => ?_)
  obtain rfl : p1 = pz1 := ep1.trans ez1.symm
  refine lv_aload_n hx hb dL_law_294 rfl (lv_at hl 1 rfl) ?_
  refine lv_iload hx hb dL_law_295 (lv_at hl 5 rfl) ?_
  refine lv_iconst (v := 2) hx hb dL_law_297 (by decide) ?_
  refine lv_iadd hx hb dL_law_298 ?_
  refine va_sld hx hb hX hbl hbA hS (lw_in2 hk hL) dL_law_299 ?_
  refine lv_topi (fun pz2 ez2 => ?_)
  obtain rfl : p2 = pz2 := ep2.trans ez2.symm
  have hPc : va_P (dC, dI) vwCl (gv_M cI am g bm sim gem cum plm brm th) H := gv_sub [14, 15, 16] hP rfl
  have hDc : va_D (gv_in (gv_M cI am g bm sim gem cum plm brm th)) (gv_M cI am g bm sim gem cum plm brm th) := gv_D hD [14, 15, 16] (by decide) rfl
  refine gv_ki (wf := (fun (u : (Nat → Int32) × (Int32) × (Int32)) => (gv_M cI am u.1 bm sim gem u.2.1 plm brm u.2.2))) (wc := (gv_M cI am g bm sim gem cum plm brm th)) [14, 15, 16] (fun _ => rfl) hP hD hS rfl rfl (va_runV (As := [.int p1, .int p2]) (rest := []) ⟨hx, hb, hml, hown, hts⟩ (kX2_cut l dC dI cI cL am g bm sim gem cum plm brm th p1 p2 (gv_in (gv_M cI am g bm sim gem cum plm brm th))) (cwV (rm := gv_R 2 41) 2 hts gL_law_X2_cut rfl rfl rfl (by decide +kernel) ⟨(Nat.le_of_ble_eq_true rfl), (Nat.le_of_ble_eq_true rfl)⟩) (gv_preV (ci := 2) hK hPc hDc hN rfl rfl) rfl rfl hl.1 rfl (lv_room (Nat.le_of_ble_eq_true rfl)) dL_law_300 ⟨lw_rc (by omega), lw_rs (by omega)⟩) (fun bq u H locs hw hP hD hS => ?_)
  have hw := (show (bq, u) = _ from hw).trans e2
  have hq : b2 = bq := (congrArg Prod.fst hw).symm
  subst hq
  have hu : u = (g2, cum2, k2) := congrArg Prod.snd hw
  subst hu
  clear hw
  have hP : va_P (dC, dI) vwCl (lw_W cI cL ad am oa f2z h2z f1 c1 f2 c2 lo up be si pl cu2 ge fa ou2 g2 bm sim gem cum2 plm brm k2) H := hP
  have hD : va_D (fun q : Nat => s.heap.size ≤ q) (lw_W cI cL ad am oa f2z h2z f1 c1 f2 c2 lo up be si pl cu2 ge fa ou2 g2 bm sim gem cum2 plm brm k2) := hD
  refine lv_istore (lv' := [(6, .int b2), (5, .int k2), (0, .ref b), (1, .ref (ad 0)), (2, .ref (am 0)), (3, .ref oa), (4, .int (nI (3 * k)))]) hx hb dL_law_303 hl (by decide) rfl (fun ls hl => ?_)
  refine lv_aload_n hx hb dL_law_305 rfl (lv_at hl 4 rfl) ?_
  have hPc : va_P (dC, dI) vwCl (gv_M cI am g2 bm sim gem cum2 plm brm k2) H := gv_sub [14, 15, 16] hP rfl
  have hDc : va_D (gv_in (gv_M cI am g2 bm sim gem cum2 plm brm k2)) (gv_M cI am g2 bm sim gem cum2 plm brm k2) := gv_D hD [14, 15, 16] (by decide) rfl
  refine gv_ki (wf := (fun (_ : Unit) => (gv_M cI am g2 bm sim gem cum2 plm brm k2))) (wc := (gv_M cI am g2 bm sim gem cum2 plm brm k2)) [14, 15, 16] (fun _ => rfl) hP hD hS rfl rfl (va_runV (As := []) (rest := []) ⟨hx, hb, hml, hown, hts⟩ (kX2_thrown l dC dI cI cL am g2 bm sim gem cum2 plm brm k2 (gv_in (gv_M cI am g2 bm sim gem cum2 plm brm k2))) (cwV (rm := gv_R 0 0) 0 hts gL_law_X2_thrown rfl rfl rfl (by decide +kernel) ⟨(Nat.le_of_ble_eq_true rfl), (Nat.le_of_ble_eq_true rfl)⟩) (gv_preV (ci := 2) hK hPc hDc hN rfl rfl) rfl rfl hl.1 rfl (lv_room (Nat.le_of_ble_eq_true rfl)) dL_law_306 ⟨lw_rc (by omega), lw_rs (by omega)⟩) (fun tq u H locs hw hP hD hS => ?_)
  have hq : k2 = tq := (show tq = k2 from hw).symm
  subst hq
  clear hw
  have hP : va_P (dC, dI) vwCl (lw_W cI cL ad am oa f2z h2z f1 c1 f2 c2 lo up be si pl cu2 ge fa ou2 g2 bm sim gem cum2 plm brm k2) H := hP
  have hD : va_D (fun q : Nat => s.heap.size ≤ q) (lw_W cI cL ad am oa f2z h2z f1 c1 f2 c2 lo up be si pl cu2 ge fa ou2 g2 bm sim gem cum2 plm brm k2) := hD
  refine lv_iload hx hb dL_law_309 (lv_at hl 1 rfl) ?_
  refine lv_icmp_eq (tgt := 316) hx hb dL_law_311 (by decide) (fun cd => ?_) (fun cd => ?_)
  · refine lv_iload hx hb dL_law_316 (lv_at hl 1 rfl) ?_
    refine lv_if_ne (tgt := 333) hx hb dL_law_318 (by decide) (fun cd0 => ?_) (fun cd0 => ?_)
    · refine lv_goto (tgt := 823) hx hb dL_law_333 (by decide) ?_
      exact J f2z h2z f1 c1 f2 c2 lo up be si pl cu2 ge fa ou2 g2 bm sim gem cum2 plm brm k2 H locs ls hR2 hP hD hS (lv_sub hl [2, 3, 4, 5, 6] rfl)
    · refine lv_aload_n hx hb dL_law_321 rfl (lv_at hl 5 rfl) ?_
      refine lv_iconst (v := 0) hx hb dL_law_322 (by decide) ?_
      refine gv_lald (cA := cL) (f := ou2) (k := 0) hx hb hK hP 13 1 rfl rfl nI_0.symm (by decide) (by decide) dL_law_323 ?_
      refine lv_iload hx hb dL_law_324 (lv_at hl 0 rfl) ?_
      refine lv_i2l (v := Int32.toInt64 b2) hx hb dL_law_326 rfl ?_
      refine W.lcmp hx hb dL_law_327 ?_
      refine lv_if_eq (tgt := 333) hx hb dL_law_328 (by decide) (fun cd1 => ?_) (fun cd1 => ?_)
      · refine lv_goto (tgt := 823) hx hb dL_law_333 (by decide) ?_
        exact J f2z h2z f1 c1 f2 c2 lo up be si pl cu2 ge fa ou2 g2 bm sim gem cum2 plm brm k2 H locs ls hR2 hP hD hS (lv_sub hl [2, 3, 4, 5, 6] rfl)
      · exact absurd ((lg_cmp_eq _ _).mpr (e3 cd0)) cd1
  · exact absurd rfl cd
set_option maxHeartbeats 4000000 in
set_option maxRecDepth 100000 in
theorem lw_c4 {p : Program} {l : Launch} {e : Env} {s : State} {m : MethodId} {below : List Frame} {meth : Method} {c : Code} {b L : Nat} {xs : Nat → Int32} {dC : Nat → ClassId} {dI : Nat → Nat → Nat} {cI cL : ClassId} {ad am : Nat → Nat} {oa k : Nat} (C0 : lw_C p l s m c b L xs dC dI cI cL) (hk : 3 * k + 3 ≤ L) (J : lw_J p l e s m below meth c b dC dI cI cL ad am oa k (k + 1) 823) : lw_J p l e s m below meth c b dC dI cI cL ad am oa k k 336 := by
  obtain ⟨hx, hb, hml, hown, hts, hX, hbl, hK, hN, hT, hst, hL⟩ := C0
  have hbA : ¬ (fun q : Nat => s.heap.size ≤ q) b := Nat.not_le.mpr hbl
  intro f0 c0 f1 c1 f2 c2 lo up be si pl cu ge fa ou g bm sim gem cum plm brm th H locs ls hR hP hD hS hl
  refine lv_aload_n hx hb dL_law_336 rfl (lv_at hl 1 rfl) ?_
  refine lv_aload_n hx hb dL_law_337 rfl (lv_at hl 3 rfl) ?_
  have hPc : va_P (dC, dI) vwCl (gw_V cI cL ad oa f0 c0 f1 c1 f2 c2 lo up be si pl cu ge fa ou) H := gv_sub [0, 1, 2, 3, 4, 5, 6, 7, 8, 9, 10, 11, 12, 13] hP rfl
  have hDc : va_D (gv_in (gw_V cI cL ad oa f0 c0 f1 c1 f2 c2 lo up be si pl cu ge fa ou)) (gw_V cI cL ad oa f0 c0 f1 c1 f2 c2 lo up be si pl cu ge fa ou) := gv_D hD [0, 1, 2, 3, 4, 5, 6, 7, 8, 9, 10, 11, 12, 13] (by decide) rfl
  have hXc : gx_T (gv_in (gw_V cI cL ad oa f0 c0 f1 c1 f2 c2 lo up be si pl cu ge fa ou)) s H := hT.to hS.2.1 (gv_inA hD [0, 1, 2, 3, 4, 5, 6, 7, 8, 9, 10, 11, 12, 13] rfl)
  refine gw_ki (wf := (fun (u : (Nat → Int32) × (Nat → Int32) × (Nat → Int32) × (Nat → Int32) × (Int32) × (Int32) × (Int32) × (Nat → Int64)) => (gw_V cI cL ad oa u.1 u.2.1 f1 c1 u.2.2.1 u.2.2.2.1 lo up be si pl u.2.2.2.2.1 u.2.2.2.2.2.1 u.2.2.2.2.2.2.1 u.2.2.2.2.2.2.2))) (wc := (gw_V cI cL ad oa f0 c0 f1 c1 f2 c2 lo up be si pl cu ge fa ou)) [0, 1, 2, 3, 4, 5, 6, 7, 8, 9, 10, 11, 12, 13] (fun _ => rfl) hP hD hS rfl (vx_runSW (As := [.ref (ad 0), .ref oa]) (rest := []) ⟨hx, hb, hml, hown, hts⟩ (kL_grow l hst dC dI cI cL ad oa f0 c0 f1 c1 f2 c2 lo up be si pl cu ge fa ou (gv_in (gw_V cI cL ad oa f0 c0 f1 c1 f2 c2 lo up be si pl cu ge fa ou))) (vx_cwSW (rm := gx_R 7 1 145) 2 hts gL_law_L_grow rfl rfl rfl (by decide +kernel) ⟨(Nat.le_of_ble_eq_true rfl), (Nat.le_of_ble_eq_true rfl)⟩) (gx_preS hK hPc hDc hN hXc) rfl rfl hl.1 rfl (lv_room (Nat.le_of_ble_eq_true rfl)) dL_law_338 ⟨lw_rc (by omega), lw_rs (by omega)⟩) (fun kq u H locs hw hP hD hS => ?_)
  refine W.widen (k := 17 + 2 * (k + 1)) (n := 6172 + 12 * (k + 1)) (by omega) (by omega) ?_
  obtain ⟨k2, b2, f2z, h2z, f3z, h3z, cu2, ge2, fa2, g2, gem2, cum2, br2, ou2, e1, e2, e3, hR2⟩ := ms_grow (f1 := f1) (c1 := c1) (f2 := f2) (c2 := c2) (lo := lo) (up := up) (th := th) (ou := ou) hR
  have hw := (show (kq, u) = _ from hw).trans e1
  have hq : k2 = kq := (congrArg Prod.fst hw).symm
  subst hq
  have hu : u = (f2z, h2z, f3z, h3z, cu2, ge2, fa2, ou2) := congrArg Prod.snd hw
  subst hu
  clear hw
  have hP : va_P (dC, dI) vwCl (lw_W cI cL ad am oa f2z h2z f1 c1 f3z h3z lo up be si pl cu2 ge2 fa2 ou2 g bm sim gem cum plm brm th) H := hP
  have hD : va_D (fun q : Nat => s.heap.size ≤ q) (lw_W cI cL ad am oa f2z h2z f1 c1 f3z h3z lo up be si pl cu2 ge2 fa2 ou2 g bm sim gem cum plm brm th) := hD
  refine lv_istore (lv' := [(5, .int k2), (0, .ref b), (1, .ref (ad 0)), (2, .ref (am 0)), (3, .ref oa), (4, .int (nI (3 * k)))]) hx hb dL_law_341 hl (by decide) rfl (fun ls hl => ?_)
  refine lv_aload_n hx hb dL_law_343 rfl (lv_at hl 3 rfl) ?_
  have hPc : va_P (dC, dI) vwCl (gv_M cI am g bm sim gem cum plm brm th) H := gv_sub [14, 15, 16] hP rfl
  have hDc : va_D (gv_in (gv_M cI am g bm sim gem cum plm brm th)) (gv_M cI am g bm sim gem cum plm brm th) := gv_D hD [14, 15, 16] (by decide) rfl
  refine gv_ki (wf := (fun (u : (Nat → Int32) × (Int32) × (Int32) × (Int32) × (Int32)) => (gv_M cI am u.1 bm sim u.2.1 u.2.2.1 plm u.2.2.2.1 u.2.2.2.2))) (wc := (gv_M cI am g bm sim gem cum plm brm th)) [14, 15, 16] (fun _ => rfl) hP hD hS rfl rfl (va_runV (As := []) (rest := []) ⟨hx, hb, hml, hown, hts⟩ (kX2_grow l dC dI cI cL am g bm sim gem cum plm brm th (gv_in (gv_M cI am g bm sim gem cum plm brm th))) (cwV (rm := gv_R 6 141) 0 hts gL_law_X2_grow rfl rfl rfl (by decide +kernel) ⟨(Nat.le_of_ble_eq_true rfl), (Nat.le_of_ble_eq_true rfl)⟩) (gv_preV (ci := 2) hK hPc hDc hN rfl rfl) rfl rfl hl.1 rfl (lv_room (Nat.le_of_ble_eq_true rfl)) dL_law_344 ⟨lw_rc (by omega), lw_rs (by omega)⟩) (fun bq u H locs hw hP hD hS => ?_)
  have hw := (show (bq, u) = _ from hw).trans e2
  have hq : b2 = bq := (congrArg Prod.fst hw).symm
  subst hq
  have hu : u = (g2, gem2, cum2, br2, k2) := congrArg Prod.snd hw
  subst hu
  clear hw
  have hP : va_P (dC, dI) vwCl (lw_W cI cL ad am oa f2z h2z f1 c1 f3z h3z lo up be si pl cu2 ge2 fa2 ou2 g2 bm sim gem2 cum2 plm br2 k2) H := hP
  have hD : va_D (fun q : Nat => s.heap.size ≤ q) (lw_W cI cL ad am oa f2z h2z f1 c1 f3z h3z lo up be si pl cu2 ge2 fa2 ou2 g2 bm sim gem2 cum2 plm br2 k2) := hD
  refine lv_istore (lv' := [(6, .int b2), (5, .int k2), (0, .ref b), (1, .ref (ad 0)), (2, .ref (am 0)), (3, .ref oa), (4, .int (nI (3 * k)))]) hx hb dL_law_347 hl (by decide) rfl (fun ls hl => ?_)
  refine lv_aload_n hx hb dL_law_349 rfl (lv_at hl 4 rfl) ?_
  have hPc : va_P (dC, dI) vwCl (gv_M cI am g2 bm sim gem2 cum2 plm br2 k2) H := gv_sub [14, 15, 16] hP rfl
  have hDc : va_D (gv_in (gv_M cI am g2 bm sim gem2 cum2 plm br2 k2)) (gv_M cI am g2 bm sim gem2 cum2 plm br2 k2) := gv_D hD [14, 15, 16] (by decide) rfl
  refine gv_ki (wf := (fun (_ : Unit) => (gv_M cI am g2 bm sim gem2 cum2 plm br2 k2))) (wc := (gv_M cI am g2 bm sim gem2 cum2 plm br2 k2)) [14, 15, 16] (fun _ => rfl) hP hD hS rfl rfl (va_runV (As := []) (rest := []) ⟨hx, hb, hml, hown, hts⟩ (kX2_thrown l dC dI cI cL am g2 bm sim gem2 cum2 plm br2 k2 (gv_in (gv_M cI am g2 bm sim gem2 cum2 plm br2 k2))) (cwV (rm := gv_R 0 0) 0 hts gL_law_X2_thrown rfl rfl rfl (by decide +kernel) ⟨(Nat.le_of_ble_eq_true rfl), (Nat.le_of_ble_eq_true rfl)⟩) (gv_preV (ci := 2) hK hPc hDc hN rfl rfl) rfl rfl hl.1 rfl (lv_room (Nat.le_of_ble_eq_true rfl)) dL_law_350 ⟨lw_rc (by omega), lw_rs (by omega)⟩) (fun tq u H locs hw hP hD hS => ?_)
  have hq : k2 = tq := (show tq = k2 from hw).symm
  subst hq
  clear hw
  have hP : va_P (dC, dI) vwCl (lw_W cI cL ad am oa f2z h2z f1 c1 f3z h3z lo up be si pl cu2 ge2 fa2 ou2 g2 bm sim gem2 cum2 plm br2 k2) H := hP
  have hD : va_D (fun q : Nat => s.heap.size ≤ q) (lw_W cI cL ad am oa f2z h2z f1 c1 f3z h3z lo up be si pl cu2 ge2 fa2 ou2 g2 bm sim gem2 cum2 plm br2 k2) := hD
  refine lv_iload hx hb dL_law_353 (lv_at hl 1 rfl) ?_
  refine lv_icmp_eq (tgt := 360) hx hb dL_law_355 (by decide) (fun cd => ?_) (fun cd => ?_)
  · refine lv_iload hx hb dL_law_360 (lv_at hl 1 rfl) ?_
    refine lv_if_ne (tgt := 377) hx hb dL_law_362 (by decide) (fun cd0 => ?_) (fun cd0 => ?_)
    · refine lv_goto (tgt := 823) hx hb dL_law_377 (by decide) ?_
      exact J f2z h2z f1 c1 f3z h3z lo up be si pl cu2 ge2 fa2 ou2 g2 bm sim gem2 cum2 plm br2 k2 H locs ls hR2 hP hD hS (lv_sub hl [2, 3, 4, 5, 6] rfl)
    · refine lv_aload_n hx hb dL_law_365 rfl (lv_at hl 5 rfl) ?_
      refine lv_iconst (v := 0) hx hb dL_law_366 (by decide) ?_
      refine gv_lald (cA := cL) (f := ou2) (k := 0) hx hb hK hP 13 1 rfl rfl nI_0.symm (by decide) (by decide) dL_law_367 ?_
      refine lv_iload hx hb dL_law_368 (lv_at hl 0 rfl) ?_
      refine lv_i2l (v := Int32.toInt64 b2) hx hb dL_law_370 rfl ?_
      refine W.lcmp hx hb dL_law_371 ?_
      refine lv_if_eq (tgt := 377) hx hb dL_law_372 (by decide) (fun cd1 => ?_) (fun cd1 => ?_)
      · refine lv_goto (tgt := 823) hx hb dL_law_377 (by decide) ?_
        exact J f2z h2z f1 c1 f3z h3z lo up be si pl cu2 ge2 fa2 ou2 g2 bm sim gem2 cum2 plm br2 k2 H locs ls hR2 hP hD hS (lv_sub hl [2, 3, 4, 5, 6] rfl)
      · exact absurd ((lg_cmp_eq _ _).mpr (e3 cd0)) cd1
  · exact absurd rfl cd
