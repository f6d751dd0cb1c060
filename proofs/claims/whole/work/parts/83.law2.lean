set_option maxHeartbeats 4000000 in
set_option maxRecDepth 100000 in
theorem lw_c5 {p : Program} {l : Launch} {e : Env} {s : State} {m : MethodId} {below : List Frame} {meth : Method} {c : Code} {b L : Nat} {xs : Nat → Int32} {dC : Nat → ClassId} {dI : Nat → Nat → Nat} {cI cL : ClassId} {ad am : Nat → Nat} {oa k : Nat} (C0 : lw_C p l s m c b L xs dC dI cI cL) (hk : 3 * k + 3 ≤ L) (J : lw_J p l e s m below meth c b dC dI cI cL ad am oa k (k + 1) 823) : lw_J p l e s m below meth c b dC dI cI cL ad am oa k k 380 := by
  obtain ⟨hx, hb, hml, hown, hts, hX, hbl, hK, hN, hT, hst, hL⟩ := C0
  have hbA : ¬ (fun q : Nat => s.heap.size ≤ q) b := Nat.not_le.mpr hbl
  intro f0 c0 f1 c1 f2 c2 lo up be si pl cu ge fa ou g bm sim gem cum plm brm th H locs ls hR hP hD hS hl
  refine lv_aload_n hx hb dL_law_380 rfl (lv_at hl 1 rfl) ?_
  refine lv_aload_n hx hb dL_law_381 rfl (lv_at hl 0 rfl) ?_
  refine lv_iload hx hb dL_law_382 (lv_at hl 4 rfl) ?_
  refine lv_iconst (v := 1) hx hb dL_law_384 (by decide) ?_
  refine lv_iadd hx hb dL_law_385 ?_
  refine va_sld hx hb hX hbl hbA hS (lw_in1 hk hL) dL_law_386 ?_
  refine lv_topi (fun p1 ep1 => ?_)
  refine lv_aload_n hx hb dL_law_387 rfl (lv_at hl 0 rfl) ?_
  refine lv_iload hx hb dL_law_388 (lv_at hl 4 rfl) ?_
  refine lv_iconst (v := 2) hx hb dL_law_390 (by decide) ?_
  refine lv_iadd hx hb dL_law_391 ?_
  refine va_sld hx hb hX hbl hbA hS (lw_in2 hk hL) dL_law_392 ?_
  refine lv_topi (fun p2 ep2 => ?_)
  refine lv_aload_n hx hb dL_law_393 rfl (lv_at hl 3 rfl) ?_
  have hPc : va_P (dC, dI) vwCl (gw_V cI cL ad oa f0 c0 f1 c1 f2 c2 lo up be si pl cu ge fa ou) H := gv_sub [0, 1, 2, 3, 4, 5, 6, 7, 8, 9, 10, 11, 12, 13] hP rfl
  have hDc : va_D (gv_in (gw_V cI cL ad oa f0 c0 f1 c1 f2 c2 lo up be si pl cu ge fa ou)) (gw_V cI cL ad oa f0 c0 f1 c1 f2 c2 lo up be si pl cu ge fa ou) := gv_D hD [0, 1, 2, 3, 4, 5, 6, 7, 8, 9, 10, 11, 12, 13] (by decide) rfl
  have hXc : gx_T (gv_in (gw_V cI cL ad oa f0 c0 f1 c1 f2 c2 lo up be si pl cu ge fa ou)) s H := hT.to hS.2.1 (gv_inA hD [0, 1, 2, 3, 4, 5, 6, 7, 8, 9, 10, 11, 12, 13] rfl)
  refine gw_ki (wf := (fun (u : (Nat → Int64)) => (gw_V cI cL ad oa f0 c0 f1 c1 f2 c2 lo up be si pl cu ge fa u))) (wc := (gw_V cI cL ad oa f0 c0 f1 c1 f2 c2 lo up be si pl cu ge fa ou)) [0, 1, 2, 3, 4, 5, 6, 7, 8, 9, 10, 11, 12, 13] (fun _ => rfl) hP hD hS rfl (vx_runSW (As := [.ref (ad 0), .int p1, .int p2, .ref oa]) (rest := []) ⟨hx, hb, hml, hown, hts⟩ (kL_look l hst dC dI cI cL ad oa f0 c0 f1 c1 f2 c2 lo up be si pl cu ge fa ou p1 p2 (gv_in (gw_V cI cL ad oa f0 c0 f1 c1 f2 c2 lo up be si pl cu ge fa ou))) (vx_cwSW (rm := gx_R 8 1 125) 4 hts gL_law_L_look rfl rfl rfl (by decide +kernel) ⟨(Nat.le_of_ble_eq_true rfl), (Nat.le_of_ble_eq_true rfl)⟩) (gx_preS hK hPc hDc hN hXc) rfl rfl hl.1 rfl (lv_room (Nat.le_of_ble_eq_true rfl)) dL_law_394 ⟨lw_rc (by omega), lw_rs (by omega)⟩) (fun kq u H locs hw hP hD hS => ?_)
  refine W.widen (k := 17 + 2 * (k + 1)) (n := 6172 + 12 * (k + 1)) (by omega) (by omega) ?_
  obtain ⟨k2, b2, ou2, e1, e2, e3⟩ := ms_look (f1 := f1) (c1 := c1) (f2 := f2) (c2 := c2) (lo := lo) (up := up) (th := th) (ou := ou) (p1 := p1) (p2 := p2) hR
  have hw := (show (kq, u) = _ from hw).trans e1
  have hq : k2 = kq := (congrArg Prod.fst hw).symm
  subst hq
  have hu : ou2 = u := (congrArg Prod.snd hw).symm
  subst hu
  clear hw
  have hP : va_P (dC, dI) vwCl (lw_W cI cL ad am oa f0 c0 f1 c1 f2 c2 lo up be si pl cu ge fa ou2 g bm sim gem cum plm brm th) H := hP
  have hD : va_D (fun q : Nat => s.heap.size ≤ q) (lw_W cI cL ad am oa f0 c0 f1 c1 f2 c2 lo up be si pl cu ge fa ou2 g bm sim gem cum plm brm th) := hD
  refine lv_istore (lv' := [(5, .int k2), (0, .ref b), (1, .ref (ad 0)), (2, .ref (am 0)), (3, .ref oa), (4, .int (nI (3 * k)))]) hx hb dL_law_397 hl (by decide) rfl (fun ls hl => ?_)
  refine lv_aload_n hx hb dL_law_399 rfl (lv_at hl 3 rfl) ?_
  refine lv_aload_n hx hb dL_law_400 rfl (lv_at hl 1 rfl) ?_
  refine lv_iload hx hb dL_law_401 (lv_at hl 5 rfl) ?_
  refine lv_iconst (v := 1) hx hb dL_law_403 (by decide) ?_
  refine lv_iadd hx hb dL_law_404 ?_
  refine va_sld hx hb hX hbl hbA hS (lw_in1 hk hL) dL_law_405 ?_
  refine lv_topi (fun pz1 ez1 => ?_)
  obtain rfl : p1 = pz1 := ep1.trans ez1.symm
  refine lv_aload_n hx hb dL_law_406 rfl (lv_at hl 1 rfl) ?_
  refine lv_iload hx hb dL_law_407 (lv_at hl 5 rfl) ?_
  refine lv_iconst (v := 2) hx hb dL_law_409 (by decide) ?_
  refine lv_iadd hx hb dL_law_410 ?_
  refine va_sld hx hb hX hbl hbA hS (lw_in2 hk hL) dL_law_411 ?_
  refine lv_topi (fun pz2 ez2 => ?_)
  obtain rfl : p2 = pz2 := ep2.trans ez2.symm
  have hPc : va_P (dC, dI) vwCl (gv_M cI am g bm sim gem cum plm brm th) H := gv_sub [14, 15, 16] hP rfl
  have hDc : va_D (gv_in (gv_M cI am g bm sim gem cum plm brm th)) (gv_M cI am g bm sim gem cum plm brm th) := gv_D hD [14, 15, 16] (by decide) rfl
  refine gv_ki (wf := (fun (u : (Int32)) => (gv_M cI am g bm sim gem cum plm brm u))) (wc := (gv_M cI am g bm sim gem cum plm brm th)) [14, 15, 16] (fun _ => rfl) hP hD hS rfl rfl (va_runV (As := [.int p1, .int p2]) (rest := []) ⟨hx, hb, hml, hown, hts⟩ (kX2_look l dC dI cI cL am g bm sim gem cum plm brm th p1 p2 (gv_in (gv_M cI am g bm sim gem cum plm brm th))) (cwV (rm := gv_R 2 41) 2 hts gL_law_X2_look rfl rfl rfl (by decide +kernel) ⟨(Nat.le_of_ble_eq_true rfl), (Nat.le_of_ble_eq_true rfl)⟩) (gv_preV (ci := 2) hK hPc hDc hN rfl rfl) rfl rfl hl.1 rfl (lv_room (Nat.le_of_ble_eq_true rfl)) dL_law_412 ⟨lw_rc (by omega), lw_rs (by omega)⟩) (fun bq u H locs hw hP hD hS => ?_)
  have hw := (show (bq, u) = _ from hw).trans e2
  have hq : b2 = bq := (congrArg Prod.fst hw).symm
  subst hq
  have hu : k2 = u := (congrArg Prod.snd hw).symm
  subst hu
  clear hw
  have hP : va_P (dC, dI) vwCl (lw_W cI cL ad am oa f0 c0 f1 c1 f2 c2 lo up be si pl cu ge fa ou2 g bm sim gem cum plm brm k2) H := hP
  have hD : va_D (fun q : Nat => s.heap.size ≤ q) (lw_W cI cL ad am oa f0 c0 f1 c1 f2 c2 lo up be si pl cu ge fa ou2 g bm sim gem cum plm brm k2) := hD
  refine lv_istore (lv' := [(6, .int b2), (5, .int k2), (0, .ref b), (1, .ref (ad 0)), (2, .ref (am 0)), (3, .ref oa), (4, .int (nI (3 * k)))]) hx hb dL_law_415 hl (by decide) rfl (fun ls hl => ?_)
  refine lv_aload_n hx hb dL_law_417 rfl (lv_at hl 4 rfl) ?_
  have hPc : va_P (dC, dI) vwCl (gv_M cI am g bm sim gem cum plm brm k2) H := gv_sub [14, 15, 16] hP rfl
  have hDc : va_D (gv_in (gv_M cI am g bm sim gem cum plm brm k2)) (gv_M cI am g bm sim gem cum plm brm k2) := gv_D hD [14, 15, 16] (by decide) rfl
  refine gv_ki (wf := (fun (_ : Unit) => (gv_M cI am g bm sim gem cum plm brm k2))) (wc := (gv_M cI am g bm sim gem cum plm brm k2)) [14, 15, 16] (fun _ => rfl) hP hD hS rfl rfl (va_runV (As := []) (rest := []) ⟨hx, hb, hml, hown, hts⟩ (kX2_thrown l dC dI cI cL am g bm sim gem cum plm brm k2 (gv_in (gv_M cI am g bm sim gem cum plm brm k2))) (cwV (rm := gv_R 0 0) 0 hts gL_law_X2_thrown rfl rfl rfl (by decide +kernel) ⟨(Nat.le_of_ble_eq_true rfl), (Nat.le_of_ble_eq_true rfl)⟩) (gv_preV (ci := 2) hK hPc hDc hN rfl rfl) rfl rfl hl.1 rfl (lv_room (Nat.le_of_ble_eq_true rfl)) dL_law_418 ⟨lw_rc (by omega), lw_rs (by omega)⟩) (fun tq u H locs hw hP hD hS => ?_)
  have hq : k2 = tq := (show tq = k2 from hw).symm
  subst hq
  clear hw
  have hP : va_P (dC, dI) vwCl (lw_W cI cL ad am oa f0 c0 f1 c1 f2 c2 lo up be si pl cu ge fa ou2 g bm sim gem cum plm brm k2) H := hP
  have hD : va_D (fun q : Nat => s.heap.size ≤ q) (lw_W cI cL ad am oa f0 c0 f1 c1 f2 c2 lo up be si pl cu ge fa ou2 g bm sim gem cum plm brm k2) := hD
  refine lv_iload hx hb dL_law_421 (lv_at hl 1 rfl) ?_
  refine lv_icmp_eq (tgt := 428) hx hb dL_law_423 (by decide) (fun cd => ?_) (fun cd => ?_)
  · refine lv_iload hx hb dL_law_428 (lv_at hl 1 rfl) ?_
    refine lv_if_ne (tgt := 445) hx hb dL_law_430 (by decide) (fun cd0 => ?_) (fun cd0 => ?_)
    · refine lv_goto (tgt := 823) hx hb dL_law_445 (by decide) ?_
      exact J f0 c0 f1 c1 f2 c2 lo up be si pl cu ge fa ou2 g bm sim gem cum plm brm k2 H locs ls hR hP hD hS (lv_sub hl [2, 3, 4, 5, 6] rfl)
    · refine lv_aload_n hx hb dL_law_433 rfl (lv_at hl 5 rfl) ?_
      refine lv_iconst (v := 0) hx hb dL_law_434 (by decide) ?_
      refine gv_lald (cA := cL) (f := ou2) (k := 0) hx hb hK hP 13 1 rfl rfl nI_0.symm (by decide) (by decide) dL_law_435 ?_
      refine lv_iload hx hb dL_law_436 (lv_at hl 0 rfl) ?_
      refine lv_i2l (v := Int32.toInt64 b2) hx hb dL_law_438 rfl ?_
      refine W.lcmp hx hb dL_law_439 ?_
      refine lv_if_eq (tgt := 445) hx hb dL_law_440 (by decide) (fun cd1 => ?_) (fun cd1 => ?_)
      · refine lv_goto (tgt := 823) hx hb dL_law_445 (by decide) ?_
        exact J f0 c0 f1 c1 f2 c2 lo up be si pl cu ge fa ou2 g bm sim gem cum plm brm k2 H locs ls hR hP hD hS (lv_sub hl [2, 3, 4, 5, 6] rfl)
      · exact absurd ((lg_cmp_eq _ _).mpr (e3 cd0)) cd1
  · exact absurd rfl cd
set_option maxHeartbeats 4000000 in
set_option maxRecDepth 100000 in
theorem lw_c6 {p : Program} {l : Launch} {e : Env} {s : State} {m : MethodId} {below : List Frame} {meth : Method} {c : Code} {b L : Nat} {xs : Nat → Int32} {dC : Nat → ClassId} {dI : Nat → Nat → Nat} {cI cL : ClassId} {ad am : Nat → Nat} {oa k : Nat} (C0 : lw_C p l s m c b L xs dC dI cI cL) (hk : 3 * k + 3 ≤ L) (J : lw_J p l e s m below meth c b dC dI cI cL ad am oa k (k + 1) 823) : lw_J p l e s m below meth c b dC dI cI cL ad am oa k k 448 := by
  obtain ⟨hx, hb, hml, hown, hts, hX, hbl, hK, hN, hT, hst, hL⟩ := C0
  have hbA : ¬ (fun q : Nat => s.heap.size ≤ q) b := Nat.not_le.mpr hbl
  intro f0 c0 f1 c1 f2 c2 lo up be si pl cu ge fa ou g bm sim gem cum plm brm th H locs ls hR hP hD hS hl
  refine lv_aload_n hx hb dL_law_448 rfl (lv_at hl 1 rfl) ?_
  refine lv_aload_n hx hb dL_law_449 rfl (lv_at hl 0 rfl) ?_
  refine lv_iload hx hb dL_law_450 (lv_at hl 4 rfl) ?_
  refine lv_iconst (v := 1) hx hb dL_law_452 (by decide) ?_
  refine lv_iadd hx hb dL_law_453 ?_
  refine va_sld hx hb hX hbl hbA hS (lw_in1 hk hL) dL_law_454 ?_
  refine lv_topi (fun p1 ep1 => ?_)
  refine lv_aload_n hx hb dL_law_455 rfl (lv_at hl 0 rfl) ?_
  refine lv_iload hx hb dL_law_456 (lv_at hl 4 rfl) ?_
  refine lv_iconst (v := 2) hx hb dL_law_458 (by decide) ?_
  refine lv_iadd hx hb dL_law_459 ?_
  refine va_sld hx hb hX hbl hbA hS (lw_in2 hk hL) dL_law_460 ?_
  refine lv_topi (fun p2 ep2 => ?_)
  refine lv_aload_n hx hb dL_law_461 rfl (lv_at hl 3 rfl) ?_
  have hPc : va_P (dC, dI) vwCl (gw_V cI cL ad oa f0 c0 f1 c1 f2 c2 lo up be si pl cu ge fa ou) H := gv_sub [0, 1, 2, 3, 4, 5, 6, 7, 8, 9, 10, 11, 12, 13] hP rfl
  have hDc : va_D (gv_in (gw_V cI cL ad oa f0 c0 f1 c1 f2 c2 lo up be si pl cu ge fa ou)) (gw_V cI cL ad oa f0 c0 f1 c1 f2 c2 lo up be si pl cu ge fa ou) := gv_D hD [0, 1, 2, 3, 4, 5, 6, 7, 8, 9, 10, 11, 12, 13] (by decide) rfl
  have hXc : gx_T (gv_in (gw_V cI cL ad oa f0 c0 f1 c1 f2 c2 lo up be si pl cu ge fa ou)) s H := hT.to hS.2.1 (gv_inA hD [0, 1, 2, 3, 4, 5, 6, 7, 8, 9, 10, 11, 12, 13] rfl)
  refine gw_ki (wf := (fun (u : (Nat → Int64)) => (gw_V cI cL ad oa f0 c0 f1 c1 f2 c2 lo up be si pl cu ge fa u))) (wc := (gw_V cI cL ad oa f0 c0 f1 c1 f2 c2 lo up be si pl cu ge fa ou)) [0, 1, 2, 3, 4, 5, 6, 7, 8, 9, 10, 11, 12, 13] (fun _ => rfl) hP hD hS rfl (vx_runSW (As := [.ref (ad 0), .int p1, .int p2, .ref oa]) (rest := []) ⟨hx, hb, hml, hown, hts⟩ (kL_shadeOf l hst dC dI cI cL ad oa f0 c0 f1 c1 f2 c2 lo up be si pl cu ge fa ou p1 p2 (gv_in (gw_V cI cL ad oa f0 c0 f1 c1 f2 c2 lo up be si pl cu ge fa ou))) (vx_cwSW (rm := gx_R 8 1 125) 4 hts gL_law_L_shadeOf rfl rfl rfl (by decide +kernel) ⟨(Nat.le_of_ble_eq_true rfl), (Nat.le_of_ble_eq_true rfl)⟩) (gx_preS hK hPc hDc hN hXc) rfl rfl hl.1 rfl (lv_room (Nat.le_of_ble_eq_true rfl)) dL_law_462 ⟨lw_rc (by omega), lw_rs (by omega)⟩) (fun kq u H locs hw hP hD hS => ?_)
  refine W.widen (k := 17 + 2 * (k + 1)) (n := 6172 + 12 * (k + 1)) (by omega) (by omega) ?_
  obtain ⟨k2, b2, ou2, e1, e2, e3⟩ := ms_shadeOf (f1 := f1) (c1 := c1) (f2 := f2) (c2 := c2) (lo := lo) (up := up) (th := th) (ou := ou) (p1 := p1) (p2 := p2) hR
  have hw := (show (kq, u) = _ from hw).trans e1
  have hq : k2 = kq := (congrArg Prod.fst hw).symm
  subst hq
  have hu : ou2 = u := (congrArg Prod.snd hw).symm
  subst hu
  clear hw
  have hP : va_P (dC, dI) vwCl (lw_W cI cL ad am oa f0 c0 f1 c1 f2 c2 lo up be si pl cu ge fa ou2 g bm sim gem cum plm brm th) H := hP
  have hD : va_D (fun q : Nat => s.heap.size ≤ q) (lw_W cI cL ad am oa f0 c0 f1 c1 f2 c2 lo up be si pl cu ge fa ou2 g bm sim gem cum plm brm th) := hD
  refine lv_istore (lv' := [(5, .int k2), (0, .ref b), (1, .ref (ad 0)), (2, .ref (am 0)), (3, .ref oa), (4, .int (nI (3 * k)))]) hx hb dL_law_465 hl (by decide) rfl (fun ls hl => ?_)
  refine lv_aload_n hx hb dL_law_467 rfl (lv_at hl 3 rfl) ?_
  refine lv_aload_n hx hb dL_law_468 rfl (lv_at hl 1 rfl) ?_
  refine lv_iload hx hb dL_law_469 (lv_at hl 5 rfl) ?_
  refine lv_iconst (v := 1) hx hb dL_law_471 (by decide) ?_
  refine lv_iadd hx hb dL_law_472 ?_
  refine va_sld hx hb hX hbl hbA hS (lw_in1 hk hL) dL_law_473 ?_
  refine lv_topi (fun pz1 ez1 => ?_)
  obtain rfl : p1 = pz1 := ep1.trans ez1.symm
  refine lv_aload_n hx hb dL_law_474 rfl (lv_at hl 1 rfl) ?_
  refine lv_iload hx hb dL_law_475 (lv_at hl 5 rfl) ?_
  refine lv_iconst (v := 2) hx hb dL_law_477 (by decide) ?_
  refine lv_iadd hx hb dL_law_478 ?_
  refine va_sld hx hb hX hbl hbA hS (lw_in2 hk hL) dL_law_479 ?_
  refine lv_topi (fun pz2 ez2 => ?_)
  obtain rfl : p2 = pz2 := ep2.trans ez2.symm
  have hPc : va_P (dC, dI) vwCl (gv_M cI am g bm sim gem cum plm brm th) H := gv_sub [14, 15, 16] hP rfl
  have hDc : va_D (gv_in (gv_M cI am g bm sim gem cum plm brm th)) (gv_M cI am g bm sim gem cum plm brm th) := gv_D hD [14, 15, 16] (by decide) rfl
  refine gv_ki (wf := (fun (u : (Int32)) => (gv_M cI am g bm sim gem cum plm brm u))) (wc := (gv_M cI am g bm sim gem cum plm brm th)) [14, 15, 16] (fun _ => rfl) hP hD hS rfl rfl (va_runV (As := [.int p1, .int p2]) (rest := []) ⟨hx, hb, hml, hown, hts⟩ (kX2_shadeOf l dC dI cI cL am g bm sim gem cum plm brm th p1 p2 (gv_in (gv_M cI am g bm sim gem cum plm brm th))) (cwV (rm := gv_R 3 69) 2 hts gL_law_X2_shadeOf rfl rfl rfl (by decide +kernel) ⟨(Nat.le_of_ble_eq_true rfl), (Nat.le_of_ble_eq_true rfl)⟩) (gv_preV (ci := 2) hK hPc hDc hN rfl rfl) rfl rfl hl.1 rfl (lv_room (Nat.le_of_ble_eq_true rfl)) dL_law_480 ⟨lw_rc (by omega), lw_rs (by omega)⟩) (fun bq u H locs hw hP hD hS => ?_)
  have hw := (show (bq, u) = _ from hw).trans e2
  have hq : b2 = bq := (congrArg Prod.fst hw).symm
  subst hq
  have hu : k2 = u := (congrArg Prod.snd hw).symm
  subst hu
  clear hw
  have hP : va_P (dC, dI) vwCl (lw_W cI cL ad am oa f0 c0 f1 c1 f2 c2 lo up be si pl cu ge fa ou2 g bm sim gem cum plm brm k2) H := hP
  have hD : va_D (fun q : Nat => s.heap.size ≤ q) (lw_W cI cL ad am oa f0 c0 f1 c1 f2 c2 lo up be si pl cu ge fa ou2 g bm sim gem cum plm brm k2) := hD
  refine lv_istore (lv' := [(6, .int b2), (5, .int k2), (0, .ref b), (1, .ref (ad 0)), (2, .ref (am 0)), (3, .ref oa), (4, .int (nI (3 * k)))]) hx hb dL_law_483 hl (by decide) rfl (fun ls hl => ?_)
  refine lv_aload_n hx hb dL_law_485 rfl (lv_at hl 4 rfl) ?_
  have hPc : va_P (dC, dI) vwCl (gv_M cI am g bm sim gem cum plm brm k2) H := gv_sub [14, 15, 16] hP rfl
  have hDc : va_D (gv_in (gv_M cI am g bm sim gem cum plm brm k2)) (gv_M cI am g bm sim gem cum plm brm k2) := gv_D hD [14, 15, 16] (by decide) rfl
  refine gv_ki (wf := (fun (_ : Unit) => (gv_M cI am g bm sim gem cum plm brm k2))) (wc := (gv_M cI am g bm sim gem cum plm brm k2)) [14, 15, 16] (fun _ => rfl) hP hD hS rfl rfl (va_runV (As := []) (rest := []) ⟨hx, hb, hml, hown, hts⟩ (kX2_thrown l dC dI cI cL am g bm sim gem cum plm brm k2 (gv_in (gv_M cI am g bm sim gem cum plm brm k2))) (cwV (rm := gv_R 0 0) 0 hts gL_law_X2_thrown rfl rfl rfl (by decide +kernel) ⟨(Nat.le_of_ble_eq_true rfl), (Nat.le_of_ble_eq_true rfl)⟩) (gv_preV (ci := 2) hK hPc hDc hN rfl rfl) rfl rfl hl.1 rfl (lv_room (Nat.le_of_ble_eq_true rfl)) dL_law_486 ⟨lw_rc (by omega), lw_rs (by omega)⟩) (fun tq u H locs hw hP hD hS => ?_)
  have hq : k2 = tq := (show tq = k2 from hw).symm
  subst hq
  clear hw
  have hP : va_P (dC, dI) vwCl (lw_W cI cL ad am oa f0 c0 f1 c1 f2 c2 lo up be si pl cu ge fa ou2 g bm sim gem cum plm brm k2) H := hP
  have hD : va_D (fun q : Nat => s.heap.size ≤ q) (lw_W cI cL ad am oa f0 c0 f1 c1 f2 c2 lo up be si pl cu ge fa ou2 g bm sim gem cum plm brm k2) := hD
  refine lv_iload hx hb dL_law_489 (lv_at hl 1 rfl) ?_
  refine lv_icmp_eq (tgt := 496) hx hb dL_law_491 (by decide) (fun cd => ?_) (fun cd => ?_)
  · refine lv_iload hx hb dL_law_496 (lv_at hl 1 rfl) ?_
    refine lv_if_ne (tgt := 513) hx hb dL_law_498 (by decide) (fun cd0 => ?_) (fun cd0 => ?_)
    · refine lv_goto (tgt := 823) hx hb dL_law_513 (by decide) ?_
      exact J f0 c0 f1 c1 f2 c2 lo up be si pl cu ge fa ou2 g bm sim gem cum plm brm k2 H locs ls hR hP hD hS (lv_sub hl [2, 3, 4, 5, 6] rfl)
    · refine lv_aload_n hx hb dL_law_501 rfl (lv_at hl 5 rfl) ?_
      refine lv_iconst (v := 0) hx hb dL_law_502 (by decide) ?_
      refine gv_lald (cA := cL) (f := ou2) (k := 0) hx hb hK hP 13 1 rfl rfl nI_0.symm (by decide) (by decide) dL_law_503 ?_
      refine lv_iload hx hb dL_law_504 (lv_at hl 0 rfl) ?_
      refine lv_i2l (v := Int32.toInt64 b2) hx hb dL_law_506 rfl ?_
      refine W.lcmp hx hb dL_law_507 ?_
      refine lv_if_eq (tgt := 513) hx hb dL_law_508 (by decide) (fun cd1 => ?_) (fun cd1 => ?_)
      · refine lv_goto (tgt := 823) hx hb dL_law_513 (by decide) ?_
        exact J f0 c0 f1 c1 f2 c2 lo up be si pl cu ge fa ou2 g bm sim gem cum plm brm k2 H locs ls hR hP hD hS (lv_sub hl [2, 3, 4, 5, 6] rfl)
      · exact absurd ((lg_cmp_eq _ _).mpr (e3 cd0)) cd1
  · exact absurd rfl cd
set_option maxHeartbeats 4000000 in
set_option maxRecDepth 100000 in
theorem lw_c7 {p : Program} {l : Launch} {e : Env} {s : State} {m : MethodId} {below : List Frame} {meth : Method} {c : Code} {b L : Nat} {xs : Nat → Int32} {dC : Nat → ClassId} {dI : Nat → Nat → Nat} {cI cL : ClassId} {ad am : Nat → Nat} {oa k : Nat} (C0 : lw_C p l s m c b L xs dC dI cI cL) (hk : 3 * k + 3 ≤ L) (J : lw_J p l e s m below meth c b dC dI cI cL ad am oa k (k + 1) 823) : lw_J p l e s m below meth c b dC dI cI cL ad am oa k k 516 := by
  obtain ⟨hx, hb, hml, hown, hts, hX, hbl, hK, hN, hT, hst, hL⟩ := C0
  have hbA : ¬ (fun q : Nat => s.heap.size ≤ q) b := Nat.not_le.mpr hbl
  intro f0 c0 f1 c1 f2 c2 lo up be si pl cu ge fa ou g bm sim gem cum plm brm th H locs ls hR hP hD hS hl
  refine lv_aload_n hx hb dL_law_516 rfl (lv_at hl 1 rfl) ?_
  refine lv_aload_n hx hb dL_law_517 rfl (lv_at hl 0 rfl) ?_
  refine lv_iload hx hb dL_law_518 (lv_at hl 4 rfl) ?_
  refine lv_iconst (v := 1) hx hb dL_law_520 (by decide) ?_
  refine lv_iadd hx hb dL_law_521 ?_
  refine va_sld hx hb hX hbl hbA hS (lw_in1 hk hL) dL_law_522 ?_
  refine lv_topi (fun p1 ep1 => ?_)
  refine lv_aload_n hx hb dL_law_523 rfl (lv_at hl 0 rfl) ?_
  refine lv_iload hx hb dL_law_524 (lv_at hl 4 rfl) ?_
  refine lv_iconst (v := 2) hx hb dL_law_526 (by decide) ?_
  refine lv_iadd hx hb dL_law_527 ?_
  refine va_sld hx hb hX hbl hbA hS (lw_in2 hk hL) dL_law_528 ?_
  refine lv_topi (fun p2 ep2 => ?_)
  refine lv_aload_n hx hb dL_law_529 rfl (lv_at hl 3 rfl) ?_
  have hPc : va_P (dC, dI) vwCl (gw_V cI cL ad oa f0 c0 f1 c1 f2 c2 lo up be si pl cu ge fa ou) H := gv_sub [0, 1, 2, 3, 4, 5, 6, 7, 8, 9, 10, 11, 12, 13] hP rfl
  have hDc : va_D (gv_in (gw_V cI cL ad oa f0 c0 f1 c1 f2 c2 lo up be si pl cu ge fa ou)) (gw_V cI cL ad oa f0 c0 f1 c1 f2 c2 lo up be si pl cu ge fa ou) := gv_D hD [0, 1, 2, 3, 4, 5, 6, 7, 8, 9, 10, 11, 12, 13] (by decide) rfl
  have hXc : gx_T (gv_in (gw_V cI cL ad oa f0 c0 f1 c1 f2 c2 lo up be si pl cu ge fa ou)) s H := hT.to hS.2.1 (gv_inA hD [0, 1, 2, 3, 4, 5, 6, 7, 8, 9, 10, 11, 12, 13] rfl)
  refine gw_ki (wf := (fun (u : (Nat → Int64)) => (gw_V cI cL ad oa f0 c0 f1 c1 f2 c2 lo up be si pl cu ge fa u))) (wc := (gw_V cI cL ad oa f0 c0 f1 c1 f2 c2 lo up be si pl cu ge fa ou)) [0, 1, 2, 3, 4, 5, 6, 7, 8, 9, 10, 11, 12, 13] (fun _ => rfl) hP hD hS rfl (vx_runSW (As := [.ref (ad 0), .int p1, .int p2, .ref oa]) (rest := []) ⟨hx, hb, hml, hown, hts⟩ (kL_holdersOf l hst dC dI cI cL ad oa f0 c0 f1 c1 f2 c2 lo up be si pl cu ge fa ou p1 p2 (gv_in (gw_V cI cL ad oa f0 c0 f1 c1 f2 c2 lo up be si pl cu ge fa ou))) (vx_cwSW (rm := gx_R 8 1 125) 4 hts gL_law_L_holdersOf rfl rfl rfl (by decide +kernel) ⟨(Nat.le_of_ble_eq_true rfl), (Nat.le_of_ble_eq_true rfl)⟩) (gx_preS hK hPc hDc hN hXc) rfl rfl hl.1 rfl (lv_room (Nat.le_of_ble_eq_true rfl)) dL_law_530 ⟨lw_rc (by omega), lw_rs (by omega)⟩) (fun kq u H locs hw hP hD hS => ?_)
  refine W.widen (k := 17 + 2 * (k + 1)) (n := 6172 + 12 * (k + 1)) (by omega) (by omega) ?_
  obtain ⟨k2, b2, ou2, e1, e2, e3⟩ := ms_holdersOf (f1 := f1) (c1 := c1) (f2 := f2) (c2 := c2) (lo := lo) (up := up) (th := th) (ou := ou) (p1 := p1) (p2 := p2) hR
  have hw := (show (kq, u) = _ from hw).trans e1
  have hq : k2 = kq := (congrArg Prod.fst hw).symm
  subst hq
  have hu : ou2 = u := (congrArg Prod.snd hw).symm
  subst hu
  clear hw
  have hP : va_P (dC, dI) vwCl (lw_W cI cL ad am oa f0 c0 f1 c1 f2 c2 lo up be si pl cu ge fa ou2 g bm sim gem cum plm brm th) H := hP
  have hD : va_D (fun q : Nat => s.heap.size ≤ q) (lw_W cI cL ad am oa f0 c0 f1 c1 f2 c2 lo up be si pl cu ge fa ou2 g bm sim gem cum plm brm th) := hD
  refine lv_istore (lv' := [(5, .int k2), (0, .ref b), (1, .ref (ad 0)), (2, .ref (am 0)), (3, .ref oa), (4, .int (nI (3 * k)))]) hx hb dL_law_533 hl (by decide) rfl (fun ls hl => ?_)
  refine lv_aload_n hx hb dL_law_535 rfl (lv_at hl 3 rfl) ?_
  refine lv_aload_n hx hb dL_law_536 rfl (lv_at hl 1 rfl) ?_
  refine lv_iload hx hb dL_law_537 (lv_at hl 5 rfl) ?_
  refine lv_iconst (v := 1) hx hb dL_law_539 (by decide) ?_
  refine lv_iadd hx hb dL_law_540 ?_
  refine va_sld hx hb hX hbl hbA hS (lw_in1 hk hL) dL_law_541 ?_
  refine lv_topi (fun pz1 ez1 => ?_)
  obtain rfl : p1 = pz1 := ep1.trans ez1.symm
  refine lv_aload_n hx hb dL_law_542 rfl (lv_at hl 1 rfl) ?_
  refine lv_iload hx hb dL_law_543 (lv_at hl 5 rfl) ?_
  refine lv_iconst (v := 2) hx hb dL_law_545 (by decide) ?_
  refine lv_iadd hx hb dL_law_546 ?_
  refine va_sld hx hb hX hbl hbA hS (lw_in2 hk hL) dL_law_547 ?_
  refine lv_topi (fun pz2 ez2 => ?_)
  obtain rfl : p2 = pz2 := ep2.trans ez2.symm
  have hPc : va_P (dC, dI) vwCl (gv_M cI am g bm sim gem cum plm brm th) H := gv_sub [14, 15, 16] hP rfl
  have hDc : va_D (gv_in (gv_M cI am g bm sim gem cum plm brm th)) (gv_M cI am g bm sim gem cum plm brm th) := gv_D hD [14, 15, 16] (by decide) rfl
  refine gv_ki (wf := (fun (u : (Int32)) => (gv_M cI am g bm sim gem cum plm brm u))) (wc := (gv_M cI am g bm sim gem cum plm brm th)) [14, 15, 16] (fun _ => rfl) hP hD hS rfl rfl (va_runV (As := [.int p1, .int p2]) (rest := []) ⟨hx, hb, hml, hown, hts⟩ (kX2_holdersOf l dC dI cI cL am g bm sim gem cum plm brm th p1 p2 (gv_in (gv_M cI am g bm sim gem cum plm brm th))) (cwV (rm := gv_R 4 90) 2 hts gL_law_X2_holdersOf rfl rfl rfl (by decide +kernel) ⟨(Nat.le_of_ble_eq_true rfl), (Nat.le_of_ble_eq_true rfl)⟩) (gv_preV (ci := 2) hK hPc hDc hN rfl rfl) rfl rfl hl.1 rfl (lv_room (Nat.le_of_ble_eq_true rfl)) dL_law_548 ⟨lw_rc (by omega), lw_rs (by omega)⟩) (fun bq u H locs hw hP hD hS => ?_)
  have hw := (show (bq, u) = _ from hw).trans e2
  have hq : b2 = bq := (congrArg Prod.fst hw).symm
  subst hq
  have hu : k2 = u := (congrArg Prod.snd hw).symm
  subst hu
  clear hw
  have hP : va_P (dC, dI) vwCl (lw_W cI cL ad am oa f0 c0 f1 c1 f2 c2 lo up be si pl cu ge fa ou2 g bm sim gem cum plm brm k2) H := hP
  have hD : va_D (fun q : Nat => s.heap.size ≤ q) (lw_W cI cL ad am oa f0 c0 f1 c1 f2 c2 lo up be si pl cu ge fa ou2 g bm sim gem cum plm brm k2) := hD
  refine lv_istore (lv' := [(6, .int b2), (5, .int k2), (0, .ref b), (1, .ref (ad 0)), (2, .ref (am 0)), (3, .ref oa), (4, .int (nI (3 * k)))]) hx hb dL_law_551 hl (by decide) rfl (fun ls hl => ?_)
  refine lv_aload_n hx hb dL_law_553 rfl (lv_at hl 4 rfl) ?_
  have hPc : va_P (dC, dI) vwCl (gv_M cI am g bm sim gem cum plm brm k2) H := gv_sub [14, 15, 16] hP rfl
  have hDc : va_D (gv_in (gv_M cI am g bm sim gem cum plm brm k2)) (gv_M cI am g bm sim gem cum plm brm k2) := gv_D hD [14, 15, 16] (by decide) rfl
  refine gv_ki (wf := (fun (_ : Unit) => (gv_M cI am g bm sim gem cum plm brm k2))) (wc := (gv_M cI am g bm sim gem cum plm brm k2)) [14, 15, 16] (fun _ => rfl) hP hD hS rfl rfl (va_runV (As := []) (rest := []) ⟨hx, hb, hml, hown, hts⟩ (kX2_thrown l dC dI cI cL am g bm sim gem cum plm brm k2 (gv_in (gv_M cI am g bm sim gem cum plm brm k2))) (cwV (rm := gv_R 0 0) 0 hts gL_law_X2_thrown rfl rfl rfl (by decide +kernel) ⟨(Nat.le_of_ble_eq_true rfl), (Nat.le_of_ble_eq_true rfl)⟩) (gv_preV (ci := 2) hK hPc hDc hN rfl rfl) rfl rfl hl.1 rfl (lv_room (Nat.le_of_ble_eq_true rfl)) dL_law_554 ⟨lw_rc (by omega), lw_rs (by omega)⟩) (fun tq u H locs hw hP hD hS => ?_)
  have hq : k2 = tq := (show tq = k2 from hw).symm
  subst hq
  clear hw
  have hP : va_P (dC, dI) vwCl (lw_W cI cL ad am oa f0 c0 f1 c1 f2 c2 lo up be si pl cu ge fa ou2 g bm sim gem cum plm brm k2) H := hP
  have hD : va_D (fun q : Nat => s.heap.size ≤ q) (lw_W cI cL ad am oa f0 c0 f1 c1 f2 c2 lo up be si pl cu ge fa ou2 g bm sim gem cum plm brm k2) := hD
  refine lv_iload hx hb dL_law_557 (lv_at hl 1 rfl) ?_
  refine lv_icmp_eq (tgt := 564) hx hb dL_law_559 (by decide) (fun cd => ?_) (fun cd => ?_)
  · refine lv_iload hx hb dL_law_564 (lv_at hl 1 rfl) ?_
    refine lv_if_ne (tgt := 581) hx hb dL_law_566 (by decide) (fun cd0 => ?_) (fun cd0 => ?_)
    · refine lv_goto (tgt := 823) hx hb dL_law_581 (by decide) ?_
      exact J f0 c0 f1 c1 f2 c2 lo up be si pl cu ge fa ou2 g bm sim gem cum plm brm k2 H locs ls hR hP hD hS (lv_sub hl [2, 3, 4, 5, 6] rfl)
    · refine lv_aload_n hx hb dL_law_569 rfl (lv_at hl 5 rfl) ?_
      refine lv_iconst (v := 0) hx hb dL_law_570 (by decide) ?_
      refine gv_lald (cA := cL) (f := ou2) (k := 0) hx hb hK hP 13 1 rfl rfl nI_0.symm (by decide) (by decide) dL_law_571 ?_
      refine lv_iload hx hb dL_law_572 (lv_at hl 0 rfl) ?_
      refine lv_i2l (v := Int32.toInt64 b2) hx hb dL_law_574 rfl ?_
      refine W.lcmp hx hb dL_law_575 ?_
      refine lv_if_eq (tgt := 581) hx hb dL_law_576 (by decide) (fun cd1 => ?_) (fun cd1 => ?_)
      · refine lv_goto (tgt := 823) hx hb dL_law_581 (by decide) ?_
        exact J f0 c0 f1 c1 f2 c2 lo up be si pl cu ge fa ou2 g bm sim gem cum plm brm k2 H locs ls hR hP hD hS (lv_sub hl [2, 3, 4, 5, 6] rfl)
      · exact absurd ((lg_cmp_eq _ _).mpr (e3 cd0)) cd1
  · exact absurd rfl cd
set_option maxHeartbeats 4000000 in
set_option maxRecDepth 100000 in
theorem lw_c8 {p : Program} {l : Launch} {e : Env} {s : State} {m : MethodId} {below : List Frame} {meth : Method} {c : Code} {b L : Nat} {xs : Nat → Int32} {dC : Nat → ClassId} {dI : Nat → Nat → Nat} {cI cL : ClassId} {ad am : Nat → Nat} {oa k : Nat} (C0 : lw_C p l s m c b L xs dC dI cI cL) (hk : 3 * k + 3 ≤ L) (J : lw_J p l e s m below meth c b dC dI cI cL ad am oa k (k + 1) 823) : lw_J p l e s m below meth c b dC dI cI cL ad am oa k k 584 := by
  obtain ⟨hx, hb, hml, hown, hts, hX, hbl, hK, hN, hT, hst, hL⟩ := C0
  have hbA : ¬ (fun q : Nat => s.heap.size ≤ q) b := Nat.not_le.mpr hbl
  intro f0 c0 f1 c1 f2 c2 lo up be si pl cu ge fa ou g bm sim gem cum plm brm th H locs ls hR hP hD hS hl
  refine lv_aload_n hx hb dL_law_584 rfl (lv_at hl 1 rfl) ?_
  refine lv_aload_n hx hb dL_law_585 rfl (lv_at hl 0 rfl) ?_
  refine lv_iload hx hb dL_law_586 (lv_at hl 4 rfl) ?_
  refine lv_iconst (v := 1) hx hb dL_law_588 (by decide) ?_
  refine lv_iadd hx hb dL_law_589 ?_
  refine va_sld hx hb hX hbl hbA hS (lw_in1 hk hL) dL_law_590 ?_
  refine lv_topi (fun p1 ep1 => ?_)
  refine lv_aload_n hx hb dL_law_591 rfl (lv_at hl 0 rfl) ?_
  refine lv_iload hx hb dL_law_592 (lv_at hl 4 rfl) ?_
  refine lv_iconst (v := 2) hx hb dL_law_594 (by decide) ?_
  refine lv_iadd hx hb dL_law_595 ?_
  refine va_sld hx hb hX hbl hbA hS (lw_in2 hk hL) dL_law_596 ?_
  refine lv_topi (fun p2 ep2 => ?_)
  refine lv_aload_n hx hb dL_law_597 rfl (lv_at hl 3 rfl) ?_
  have hPc : va_P (dC, dI) vwCl (gw_V cI cL ad oa f0 c0 f1 c1 f2 c2 lo up be si pl cu ge fa ou) H := gv_sub [0, 1, 2, 3, 4, 5, 6, 7, 8, 9, 10, 11, 12, 13] hP rfl
  have hDc : va_D (gv_in (gw_V cI cL ad oa f0 c0 f1 c1 f2 c2 lo up be si pl cu ge fa ou)) (gw_V cI cL ad oa f0 c0 f1 c1 f2 c2 lo up be si pl cu ge fa ou) := gv_D hD [0, 1, 2, 3, 4, 5, 6, 7, 8, 9, 10, 11, 12, 13] (by decide) rfl
  have hXc : gx_T (gv_in (gw_V cI cL ad oa f0 c0 f1 c1 f2 c2 lo up be si pl cu ge fa ou)) s H := hT.to hS.2.1 (gv_inA hD [0, 1, 2, 3, 4, 5, 6, 7, 8, 9, 10, 11, 12, 13] rfl)
  refine gw_ki (wf := (fun (u : (Nat → Int64)) => (gw_V cI cL ad oa f0 c0 f1 c1 f2 c2 lo up be si pl cu ge fa u))) (wc := (gw_V cI cL ad oa f0 c0 f1 c1 f2 c2 lo up be si pl cu ge fa ou)) [0, 1, 2, 3, 4, 5, 6, 7, 8, 9, 10, 11, 12, 13] (fun _ => rfl) hP hD hS rfl (vx_runSW (As := [.ref (ad 0), .int p1, .int p2, .ref oa]) (rest := []) ⟨hx, hb, hml, hown, hts⟩ (kL_neighboursOf l hst dC dI cI cL ad oa f0 c0 f1 c1 f2 c2 lo up be si pl cu ge fa ou p1 p2 (gv_in (gw_V cI cL ad oa f0 c0 f1 c1 f2 c2 lo up be si pl cu ge fa ou))) (vx_cwSW (rm := gx_R 8 1 125) 4 hts gL_law_L_neighboursOf rfl rfl rfl (by decide +kernel) ⟨(Nat.le_of_ble_eq_true rfl), (Nat.le_of_ble_eq_true rfl)⟩) (gx_preS hK hPc hDc hN hXc) rfl rfl hl.1 rfl (lv_room (Nat.le_of_ble_eq_true rfl)) dL_law_598 ⟨lw_rc (by omega), lw_rs (by omega)⟩) (fun kq u H locs hw hP hD hS => ?_)
  refine W.widen (k := 17 + 2 * (k + 1)) (n := 6172 + 12 * (k + 1)) (by omega) (by omega) ?_
  obtain ⟨k2, b2, ou2, e1, e2, e3⟩ := ms_neighboursOf (f1 := f1) (c1 := c1) (f2 := f2) (c2 := c2) (lo := lo) (up := up) (th := th) (ou := ou) (p1 := p1) (p2 := p2) hR
  have hw := (show (kq, u) = _ from hw).trans e1
  have hq : k2 = kq := (congrArg Prod.fst hw).symm
  subst hq
  have hu : ou2 = u := (congrArg Prod.snd hw).symm
  subst hu
  clear hw
  have hP : va_P (dC, dI) vwCl (lw_W cI cL ad am oa f0 c0 f1 c1 f2 c2 lo up be si pl cu ge fa ou2 g bm sim gem cum plm brm th) H := hP
  have hD : va_D (fun q : Nat => s.heap.size ≤ q) (lw_W cI cL ad am oa f0 c0 f1 c1 f2 c2 lo up be si pl cu ge fa ou2 g bm sim gem cum plm brm th) := hD
  refine lv_istore (lv' := [(5, .int k2), (0, .ref b), (1, .ref (ad 0)), (2, .ref (am 0)), (3, .ref oa), (4, .int (nI (3 * k)))]) hx hb dL_law_601 hl (by decide) rfl (fun ls hl => ?_)
  refine lv_aload_n hx hb dL_law_603 rfl (lv_at hl 3 rfl) ?_
  refine lv_aload_n hx hb dL_law_604 rfl (lv_at hl 1 rfl) ?_
  refine lv_iload hx hb dL_law_605 (lv_at hl 5 rfl) ?_
  refine lv_iconst (v := 1) hx hb dL_law_607 (by decide) ?_
  refine lv_iadd hx hb dL_law_608 ?_
  refine va_sld hx hb hX hbl hbA hS (lw_in1 hk hL) dL_law_609 ?_
  refine lv_topi (fun pz1 ez1 => ?_)
  obtain rfl : p1 = pz1 := ep1.trans ez1.symm
  refine lv_aload_n hx hb dL_law_610 rfl (lv_at hl 1 rfl) ?_
  refine lv_iload hx hb dL_law_611 (lv_at hl 5 rfl) ?_
  refine lv_iconst (v := 2) hx hb dL_law_613 (by decide) ?_
  refine lv_iadd hx hb dL_law_614 ?_
  refine va_sld hx hb hX hbl hbA hS (lw_in2 hk hL) dL_law_615 ?_
  refine lv_topi (fun pz2 ez2 => ?_)
  obtain rfl : p2 = pz2 := ep2.trans ez2.symm
  have hPc : va_P (dC, dI) vwCl (gv_M cI am g bm sim gem cum plm brm th) H := gv_sub [14, 15, 16] hP rfl
  have hDc : va_D (gv_in (gv_M cI am g bm sim gem cum plm brm th)) (gv_M cI am g bm sim gem cum plm brm th) := gv_D hD [14, 15, 16] (by decide) rfl
  refine gv_ki (wf := (fun (u : (Int32)) => (gv_M cI am g bm sim gem cum plm brm u))) (wc := (gv_M cI am g bm sim gem cum plm brm th)) [14, 15, 16] (fun _ => rfl) hP hD hS rfl rfl (va_runV (As := [.int p1, .int p2]) (rest := []) ⟨hx, hb, hml, hown, hts⟩ (kX2_neighboursOf l dC dI cI cL am g bm sim gem cum plm brm th p1 p2 (gv_in (gv_M cI am g bm sim gem cum plm brm th))) (cwV (rm := gv_R 4 90) 2 hts gL_law_X2_neighboursOf rfl rfl rfl (by decide +kernel) ⟨(Nat.le_of_ble_eq_true rfl), (Nat.le_of_ble_eq_true rfl)⟩) (gv_preV (ci := 2) hK hPc hDc hN rfl rfl) rfl rfl hl.1 rfl (lv_room (Nat.le_of_ble_eq_true rfl)) dL_law_616 ⟨lw_rc (by omega), lw_rs (by omega)⟩) (fun bq u H locs hw hP hD hS => ?_)
  have hw := (show (bq, u) = _ from hw).trans e2
  have hq : b2 = bq := (congrArg Prod.fst hw).symm
  subst hq
  have hu : k2 = u := (congrArg Prod.snd hw).symm
  subst hu
  clear hw
  have hP : va_P (dC, dI) vwCl (lw_W cI cL ad am oa f0 c0 f1 c1 f2 c2 lo up be si pl cu ge fa ou2 g bm sim gem cum plm brm k2) H := hP
  have hD : va_D (fun q : Nat => s.heap.size ≤ q) (lw_W cI cL ad am oa f0 c0 f1 c1 f2 c2 lo up be si pl cu ge fa ou2 g bm sim gem cum plm brm k2) := hD
  refine lv_istore (lv' := [(6, .int b2), (5, .int k2), (0, .ref b), (1, .ref (ad 0)), (2, .ref (am 0)), (3, .ref oa), (4, .int (nI (3 * k)))]) hx hb dL_law_619 hl (by decide) rfl (fun ls hl => ?_)
  refine lv_aload_n hx hb dL_law_621 rfl (lv_at hl 4 rfl) ?_
  have hPc : va_P (dC, dI) vwCl (gv_M cI am g bm sim gem cum plm brm k2) H := gv_sub [14, 15, 16] hP rfl
  have hDc : va_D (gv_in (gv_M cI am g bm sim gem cum plm brm k2)) (gv_M cI am g bm sim gem cum plm brm k2) := gv_D hD [14, 15, 16] (by decide) rfl
  refine gv_ki (wf := (fun (_ : Unit) => (gv_M cI am g bm sim gem cum plm brm k2))) (wc := (gv_M cI am g bm sim gem cum plm brm k2)) [14, 15, 16] (fun _ => rfl) hP hD hS rfl rfl (va_runV (As := []) (rest := []) ⟨hx, hb, hml, hown, hts⟩ (kX2_thrown l dC dI cI cL am g bm sim gem cum plm brm k2 (gv_in (gv_M cI am g bm sim gem cum plm brm k2))) (cwV (rm := gv_R 0 0) 0 hts gL_law_X2_thrown rfl rfl rfl (by decide +kernel) ⟨(Nat.le_of_ble_eq_true rfl), (Nat.le_of_ble_eq_true rfl)⟩) (gv_preV (ci := 2) hK hPc hDc hN rfl rfl) rfl rfl hl.1 rfl (lv_room (Nat.le_of_ble_eq_true rfl)) dL_law_622 ⟨lw_rc (by omega), lw_rs (by omega)⟩) (fun tq u H locs hw hP hD hS => ?_)
  have hq : k2 = tq := (show tq = k2 from hw).symm
  subst hq
  clear hw
  have hP : va_P (dC, dI) vwCl (lw_W cI cL ad am oa f0 c0 f1 c1 f2 c2 lo up be si pl cu ge fa ou2 g bm sim gem cum plm brm k2) H := hP
  have hD : va_D (fun q : Nat => s.heap.size ≤ q) (lw_W cI cL ad am oa f0 c0 f1 c1 f2 c2 lo up be si pl cu ge fa ou2 g bm sim gem cum plm brm k2) := hD
  refine lv_iload hx hb dL_law_625 (lv_at hl 1 rfl) ?_
  refine lv_icmp_eq (tgt := 632) hx hb dL_law_627 (by decide) (fun cd => ?_) (fun cd => ?_)
  · refine lv_iload hx hb dL_law_632 (lv_at hl 1 rfl) ?_
    refine lv_if_ne (tgt := 649) hx hb dL_law_634 (by decide) (fun cd0 => ?_) (fun cd0 => ?_)
    · refine lv_goto (tgt := 823) hx hb dL_law_649 (by decide) ?_
      exact J f0 c0 f1 c1 f2 c2 lo up be si pl cu ge fa ou2 g bm sim gem cum plm brm k2 H locs ls hR hP hD hS (lv_sub hl [2, 3, 4, 5, 6] rfl)
    · refine lv_aload_n hx hb dL_law_637 rfl (lv_at hl 5 rfl) ?_
      refine lv_iconst (v := 0) hx hb dL_law_638 (by decide) ?_
      refine gv_lald (cA := cL) (f := ou2) (k := 0) hx hb hK hP 13 1 rfl rfl nI_0.symm (by decide) (by decide) dL_law_639 ?_
      refine lv_iload hx hb dL_law_640 (lv_at hl 0 rfl) ?_
      refine lv_i2l (v := Int32.toInt64 b2) hx hb dL_law_642 rfl ?_
      refine W.lcmp hx hb dL_law_643 ?_
      refine lv_if_eq (tgt := 649) hx hb dL_law_644 (by decide) (fun cd1 => ?_) (fun cd1 => ?_)
      · refine lv_goto (tgt := 823) hx hb dL_law_649 (by decide) ?_
        exact J f0 c0 f1 c1 f2 c2 lo up be si pl cu ge fa ou2 g bm sim gem cum plm brm k2 H locs ls hR hP hD hS (lv_sub hl [2, 3, 4, 5, 6] rfl)
      · exact absurd ((lg_cmp_eq _ _).mpr (e3 cd0)) cd1
  · exact absurd rfl cd
set_option maxHeartbeats 4000000 in
set_option maxRecDepth 100000 in
theorem lw_c9 {p : Program} {l : Launch} {e : Env} {s : State} {m : MethodId} {below : List Frame} {meth : Method} {c : Code} {b L : Nat} {xs : Nat → Int32} {dC : Nat → ClassId} {dI : Nat → Nat → Nat} {cI cL : ClassId} {ad am : Nat → Nat} {oa k : Nat} (C0 : lw_C p l s m c b L xs dC dI cI cL) (hk : 3 * k + 3 ≤ L) (J : lw_J p l e s m below meth c b dC dI cI cL ad am oa k (k + 1) 823) : lw_J p l e s m below meth c b dC dI cI cL ad am oa k k 652 := by
  obtain ⟨hx, hb, hml, hown, hts, hX, hbl, hK, hN, hT, hst, hL⟩ := C0
  have hbA : ¬ (fun q : Nat => s.heap.size ≤ q) b := Nat.not_le.mpr hbl
  intro f0 c0 f1 c1 f2 c2 lo up be si pl cu ge fa ou g bm sim gem cum plm brm th H locs ls hR hP hD hS hl
  refine lv_aload_n hx hb dL_law_652 rfl (lv_at hl 1 rfl) ?_
  refine lv_aload_n hx hb dL_law_653 rfl (lv_at hl 0 rfl) ?_
  refine lv_iload hx hb dL_law_654 (lv_at hl 4 rfl) ?_
  refine lv_iconst (v := 1) hx hb dL_law_656 (by decide) ?_
  refine lv_iadd hx hb dL_law_657 ?_
  refine va_sld hx hb hX hbl hbA hS (lw_in1 hk hL) dL_law_658 ?_
  refine lv_topi (fun p1 ep1 => ?_)
  refine lv_aload_n hx hb dL_law_659 rfl (lv_at hl 3 rfl) ?_
  have hPc : va_P (dC, dI) vwCl (gw_V cI cL ad oa f0 c0 f1 c1 f2 c2 lo up be si pl cu ge fa ou) H := gv_sub [0, 1, 2, 3, 4, 5, 6, 7, 8, 9, 10, 11, 12, 13] hP rfl
  have hDc : va_D (gv_in (gw_V cI cL ad oa f0 c0 f1 c1 f2 c2 lo up be si pl cu ge fa ou)) (gw_V cI cL ad oa f0 c0 f1 c1 f2 c2 lo up be si pl cu ge fa ou) := gv_D hD [0, 1, 2, 3, 4, 5, 6, 7, 8, 9, 10, 11, 12, 13] (by decide) rfl
  have hXc : gx_T (gv_in (gw_V cI cL ad oa f0 c0 f1 c1 f2 c2 lo up be si pl cu ge fa ou)) s H := hT.to hS.2.1 (gv_inA hD [0, 1, 2, 3, 4, 5, 6, 7, 8, 9, 10, 11, 12, 13] rfl)
  refine gw_ki (wf := (fun (u : (Nat → Int64)) => (gw_V cI cL ad oa f0 c0 f1 c1 f2 c2 lo up be si pl cu ge fa u))) (wc := (gw_V cI cL ad oa f0 c0 f1 c1 f2 c2 lo up be si pl cu ge fa ou)) [0, 1, 2, 3, 4, 5, 6, 7, 8, 9, 10, 11, 12, 13] (fun _ => rfl) hP hD hS rfl (vx_runSW (As := [.ref (ad 0), .int p1, .ref oa]) (rest := []) ⟨hx, hb, hml, hown, hts⟩ (kL_leavesIn l hst dC dI cI cL ad oa f0 c0 f1 c1 f2 c2 lo up be si pl cu ge fa ou p1 (gv_in (gw_V cI cL ad oa f0 c0 f1 c1 f2 c2 lo up be si pl cu ge fa ou))) (vx_cwSW (rm := gx_R 8 1 123) 3 hts gL_law_L_leavesIn rfl rfl rfl (by decide +kernel) ⟨(Nat.le_of_ble_eq_true rfl), (Nat.le_of_ble_eq_true rfl)⟩) (gx_preS hK hPc hDc hN hXc) rfl rfl hl.1 rfl (lv_room (Nat.le_of_ble_eq_true rfl)) dL_law_660 ⟨lw_rc (by omega), lw_rs (by omega)⟩) (fun kq u H locs hw hP hD hS => ?_)
  refine W.widen (k := 17 + 2 * (k + 1)) (n := 6172 + 12 * (k + 1)) (by omega) (by omega) ?_
  obtain ⟨k2, b2, ou2, e1, e2, e3⟩ := ms_leavesIn (f1 := f1) (c1 := c1) (f2 := f2) (c2 := c2) (lo := lo) (up := up) (th := th) (ou := ou) (p1 := p1) hR
  have hw := (show (kq, u) = _ from hw).trans e1
  have hq : k2 = kq := (congrArg Prod.fst hw).symm
  subst hq
  have hu : ou2 = u := (congrArg Prod.snd hw).symm
  subst hu
  clear hw
  have hP : va_P (dC, dI) vwCl (lw_W cI cL ad am oa f0 c0 f1 c1 f2 c2 lo up be si pl cu ge fa ou2 g bm sim gem cum plm brm th) H := hP
  have hD : va_D (fun q : Nat => s.heap.size ≤ q) (lw_W cI cL ad am oa f0 c0 f1 c1 f2 c2 lo up be si pl cu ge fa ou2 g bm sim gem cum plm brm th) := hD
  refine lv_istore (lv' := [(5, .int k2), (0, .ref b), (1, .ref (ad 0)), (2, .ref (am 0)), (3, .ref oa), (4, .int (nI (3 * k)))]) hx hb dL_law_663 hl (by decide) rfl (fun ls hl => ?_)
  refine lv_aload_n hx hb dL_law_665 rfl (lv_at hl 3 rfl) ?_
  refine lv_aload_n hx hb dL_law_666 rfl (lv_at hl 1 rfl) ?_
  refine lv_iload hx hb dL_law_667 (lv_at hl 5 rfl) ?_
  refine lv_iconst (v := 1) hx hb dL_law_669 (by decide) ?_
  refine lv_iadd hx hb dL_law_670 ?_
  refine va_sld hx hb hX hbl hbA hS (lw_in1 hk hL) dL_law_671 ?_
  refine lv_topi (fun pz1 ez1 => ?_)
  obtain rfl : p1 = pz1 := ep1.trans ez1.symm
  have hPc : va_P (dC, dI) vwCl (gv_M cI am g bm sim gem cum plm brm th) H := gv_sub [14, 15, 16] hP rfl
  have hDc : va_D (gv_in (gv_M cI am g bm sim gem cum plm brm th)) (gv_M cI am g bm sim gem cum plm brm th) := gv_D hD [14, 15, 16] (by decide) rfl
  refine gv_ki (wf := (fun (u : (Int32)) => (gv_M cI am g bm sim gem cum plm brm u))) (wc := (gv_M cI am g bm sim gem cum plm brm th)) [14, 15, 16] (fun _ => rfl) hP hD hS rfl rfl (va_runV (As := [.int p1]) (rest := []) ⟨hx, hb, hml, hown, hts⟩ (kX2_leavesIn l dC dI cI cL am g bm sim gem cum plm brm th p1 (gv_in (gv_M cI am g bm sim gem cum plm brm th))) (cwV (rm := gv_R 4 91) 1 hts gL_law_X2_leavesIn rfl rfl rfl (by decide +kernel) ⟨(Nat.le_of_ble_eq_true rfl), (Nat.le_of_ble_eq_true rfl)⟩) (gv_preV (ci := 2) hK hPc hDc hN rfl rfl) rfl rfl hl.1 rfl (lv_room (Nat.le_of_ble_eq_true rfl)) dL_law_672 ⟨lw_rc (by omega), lw_rs (by omega)⟩) (fun bq u H locs hw hP hD hS => ?_)
  have hw := (show (bq, u) = _ from hw).trans e2
  have hq : b2 = bq := (congrArg Prod.fst hw).symm
  subst hq
  have hu : k2 = u := (congrArg Prod.snd hw).symm
  subst hu
  clear hw
  have hP : va_P (dC, dI) vwCl (lw_W cI cL ad am oa f0 c0 f1 c1 f2 c2 lo up be si pl cu ge fa ou2 g bm sim gem cum plm brm k2) H := hP
  have hD : va_D (fun q : Nat => s.heap.size ≤ q) (lw_W cI cL ad am oa f0 c0 f1 c1 f2 c2 lo up be si pl cu ge fa ou2 g bm sim gem cum plm brm k2) := hD
  refine lv_istore (lv' := [(6, .int b2), (5, .int k2), (0, .ref b), (1, .ref (ad 0)), (2, .ref (am 0)), (3, .ref oa), (4, .int (nI (3 * k)))]) hx hb dL_law_675 hl (by decide) rfl (fun ls hl => ?_)
  refine lv_aload_n hx hb dL_law_677 rfl (lv_at hl 4 rfl) ?_
  have hPc : va_P (dC, dI) vwCl (gv_M cI am g bm sim gem cum plm brm k2) H := gv_sub [14, 15, 16] hP rfl
  have hDc : va_D (gv_in (gv_M cI am g bm sim gem cum plm brm k2)) (gv_M cI am g bm sim gem cum plm brm k2) := gv_D hD [14, 15, 16] (by decide) rfl
  refine gv_ki (wf := (fun (_ : Unit) => (gv_M cI am g bm sim gem cum plm brm k2))) (wc := (gv_M cI am g bm sim gem cum plm brm k2)) [14, 15, 16] (fun _ => rfl) hP hD hS rfl rfl (va_runV (As := []) (rest := []) ⟨hx, hb, hml, hown, hts⟩ (kX2_thrown l dC dI cI cL am g bm sim gem cum plm brm k2 (gv_in (gv_M cI am g bm sim gem cum plm brm k2))) (cwV (rm := gv_R 0 0) 0 hts gL_law_X2_thrown rfl rfl rfl (by decide +kernel) ⟨(Nat.le_of_ble_eq_true rfl), (Nat.le_of_ble_eq_true rfl)⟩) (gv_preV (ci := 2) hK hPc hDc hN rfl rfl) rfl rfl hl.1 rfl (lv_room (Nat.le_of_ble_eq_true rfl)) dL_law_678 ⟨lw_rc (by omega), lw_rs (by omega)⟩) (fun tq u H locs hw hP hD hS => ?_)
  have hq : k2 = tq := (show tq = k2 from hw).symm
  subst hq
  clear hw
  have hP : va_P (dC, dI) vwCl (lw_W cI cL ad am oa f0 c0 f1 c1 f2 c2 lo up be si pl cu ge fa ou2 g bm sim gem cum plm brm k2) H := hP
  have hD : va_D (fun q : Nat => s.heap.size ≤ q) (lw_W cI cL ad am oa f0 c0 f1 c1 f2 c2 lo up be si pl cu ge fa ou2 g bm sim gem cum plm brm k2) := hD
  refine lv_iload hx hb dL_law_681 (lv_at hl 1 rfl) ?_
  refine lv_icmp_eq (tgt := 688) hx hb dL_law_683 (by decide) (fun cd => ?_) (fun cd => ?_)
  · refine lv_iload hx hb dL_law_688 (lv_at hl 1 rfl) ?_
    refine lv_if_ne (tgt := 705) hx hb dL_law_690 (by decide) (fun cd0 => ?_) (fun cd0 => ?_)
    · refine lv_goto (tgt := 823) hx hb dL_law_705 (by decide) ?_
      exact J f0 c0 f1 c1 f2 c2 lo up be si pl cu ge fa ou2 g bm sim gem cum plm brm k2 H locs ls hR hP hD hS (lv_sub hl [2, 3, 4, 5, 6] rfl)
    · refine lv_aload_n hx hb dL_law_693 rfl (lv_at hl 5 rfl) ?_
      refine lv_iconst (v := 0) hx hb dL_law_694 (by decide) ?_
      refine gv_lald (cA := cL) (f := ou2) (k := 0) hx hb hK hP 13 1 rfl rfl nI_0.symm (by decide) (by decide) dL_law_695 ?_
      refine lv_iload hx hb dL_law_696 (lv_at hl 0 rfl) ?_
      refine lv_i2l (v := Int32.toInt64 b2) hx hb dL_law_698 rfl ?_
      refine W.lcmp hx hb dL_law_699 ?_
      refine lv_if_eq (tgt := 705) hx hb dL_law_700 (by decide) (fun cd1 => ?_) (fun cd1 => ?_)
      · refine lv_goto (tgt := 823) hx hb dL_law_705 (by decide) ?_
        exact J f0 c0 f1 c1 f2 c2 lo up be si pl cu ge fa ou2 g bm sim gem cum plm brm k2 H locs ls hR hP hD hS (lv_sub hl [2, 3, 4, 5, 6] rfl)
      · exact absurd ((lg_cmp_eq _ _).mpr (e3 cd0)) cd1
  · exact absurd rfl cd
