def spX2_thrown (g : Nat → Int32) (be : Nat → Int32) (si : Int32) (ge : Int32) (cu : Int32) (pl : Int32) (br : Int32) (th : Int32) : Int32 := th
theorem spX2_thrown_e (g : Nat → Int32) (be : Nat → Int32) (si : Int32) (ge : Int32) (cu : Int32) (pl : Int32) (br : Int32) (th : Int32) : spX2_thrown g be si ge cu pl br th = th := rfl
set_option maxHeartbeats 4000000 in
set_option maxRecDepth 100000 in
theorem kX2_thrown (l : Launch) (dC : Nat → ClassId) (dI : Nat → Nat → Nat) (cI cL : ClassId) (am : Nat → Nat) (g : Nat → Int32) (be : Nat → Int32) (si : Int32) (ge : Int32) (cu : Int32) (pl : Int32) (br : Int32) (th : Int32) : gv_Mi l yX2_thrown wsX2_thrown 0 0 (dC, dI) [(cI, .int), (cL, .long)] [.ref (am 0)] (gv_M cI am g be si ge cu pl br th) (fun (r : Int32) (_ : Unit) => r = spX2_thrown g be si ge cu pl br th) (fun (_ : Unit) => (gv_M cI am g be si ge cu pl br th)) := by
  refine gv_ofi (cc := cX2_thrown) (maxL := 1) (own := RX2) (by decide) rfl (Nat.le_of_ble_eq_true rfl) rfl ?_
  intro A p e s m args below meth c Q ls H locs hx hb hml hts hown hP hK hD hN hS hl kr
  have inX2 : ∀ w ∈ wsX20, w ∈ wsX2_thrown := (fun _ h => List.mem_cons_of_mem _ (List.mem_append_right _ h))
  have hl : lv_has ls 1 [(0, .ref (am 0))] := hl
  have he := (spX2_thrown_e g be si ge cu pl br th).symm
  refine lv_aload_n hx hb dX2_thrown_0 rfl (lv_at hl 0 rfl) ?_
  refine va_get (D := (dC, dI)) (ci := 2) (v := .int th) (C := RX2) (T := TX2) (N := 8) hx hb hts inX2 hown hK hP 0 rfl rfl 7 (by decide) (hts (.fieldLink RX2 20 "VineWallModel" "thrown" "I") (List.mem_of_getElem? (i := 1) rfl)) (fun _ h9 => h9) rfl dX2_thrown_1 ?_
  exact kr th () _ _ _ _ he hP hS dX2_thrown_4
def spX2_sides (g : Nat → Int32) (be : Nat → Int32) (si : Int32) (ge : Int32) (cu : Int32) (pl : Int32) (br : Int32) (th : Int32) (p1 : Int32) : (Int32) × (Int32) := (if p1 < 0 then (si, 1) else (if p1 ≤ 2 then (if ge ≤ 0 then (p1, 0) else (si, 2)) else (si, 1)))
theorem spX2_sides_e (g : Nat → Int32) (be : Nat → Int32) (si : Int32) (ge : Int32) (cu : Int32) (pl : Int32) (br : Int32) (th : Int32) (p1 : Int32) : spX2_sides g be si ge cu pl br th p1 = (if p1 < 0 then (si, 1) else (if p1 ≤ 2 then (if ge ≤ 0 then (p1, 0) else (si, 2)) else (si, 1))) := rfl
set_option maxHeartbeats 4000000 in
set_option maxRecDepth 100000 in
theorem kX2_sides (l : Launch) (dC : Nat → ClassId) (dI : Nat → Nat → Nat) (cI cL : ClassId) (am : Nat → Nat) (g : Nat → Int32) (be : Nat → Int32) (si : Int32) (ge : Int32) (cu : Int32) (pl : Int32) (br : Int32) (th : Int32) (p1 : Int32) : gv_Mv l yX2_sides wsX2_sides 0 0 (dC, dI) [(cI, .int), (cL, .long)] [.ref (am 0), .int p1] (gv_M cI am g be si ge cu pl br th) (fun (u : (Int32) × (Int32)) => u = spX2_sides g be si ge cu pl br th p1) (fun (u : (Int32) × (Int32)) => (gv_M cI am g be u.1 ge cu pl br u.2)) := by
  refine gv_ofv (cc := cX2_sides) (maxL := 2) (own := RX2) (by decide) rfl (Nat.le_of_ble_eq_true rfl) rfl ?_
  intro A p e s m args below meth c Q ls H locs hx hb hml hts hown hP hK hD hN hS hl kr
  have inX2 : ∀ w ∈ wsX20, w ∈ wsX2_sides := (fun _ h => List.mem_cons_of_mem _ (List.mem_append_right _ h))
  have hl : lv_has ls 2 [(0, .ref (am 0)), (1, .int p1)] := hl
  have he := (spX2_sides_e g be si ge cu pl br th p1).symm
  refine lv_aload_n hx hb dX2_sides_0 rfl (lv_at hl 0 rfl) ?_
  refine lv_iload_n hx hb dX2_sides_1 rfl (lv_at hl 1 rfl) ?_
  refine lv_if_lt (tgt := 10) hx hb dX2_sides_2 (by decide) (fun cd2 => ?_) (fun cd2 => ?_)
  · have he := gv_t cd2 he
    refine lv_iconst (v := 1) hx hb dX2_sides_10 (by decide) ?_
    refine lv_goto (tgt := 26) hx hb dX2_sides_11 (by decide) ?_
    refine va_put (D := (dC, dI)) (ci := 2) (v := .int 1) (ty := .int) (C := RX2) (T := TX2) (N := 8) hx hb hts inX2 tyX2 tyX2_ok nmX2 hown hK hP hD hS 0 rfl rfl 7 (by decide) (hts (.fieldLink RX2 20 "VineWallModel" "thrown" "I") (List.mem_of_getElem? (i := 2) rfl)) (fun _ h9 => h9) rfl (by decide +kernel) rfl rfl (Nat.le_of_ble_eq_true rfl) dX2_sides_26 (fun H locs hP hD hS => ?_)
    have hP : va_P (dC, dI) vwCl (gv_M cI am g be si ge cu pl br 1) H := hP
    have hD : va_D A (gv_M cI am g be si ge cu pl br 1) := hD
    refine lv_aload_n hx hb dX2_sides_29 rfl (lv_at hl 0 rfl) ?_
    refine lv_aload_n hx hb dX2_sides_30 rfl (lv_at hl 0 rfl) ?_
    refine va_get (D := (dC, dI)) (ci := 2) (v := .int 1) (C := RX2) (T := TX2) (N := 8) hx hb hts inX2 hown hK hP 0 rfl rfl 7 (by decide) (hts (.fieldLink RX2 20 "VineWallModel" "thrown" "I") (List.mem_of_getElem? (i := 2) rfl)) (fun _ h9 => h9) rfl dX2_sides_31 ?_
    refine lv_if_ne (tgt := 41) hx hb dX2_sides_34 (by decide) (fun _ => ?_) (fun c => absurd c (by decide))
    refine lv_aload_n hx hb dX2_sides_41 rfl (lv_at hl 0 rfl) ?_
    refine va_get (D := (dC, dI)) (ci := 2) (v := .int si) (C := RX2) (T := TX2) (N := 8) hx hb hts inX2 hown hK hP 0 rfl rfl 2 (by decide) (hts (.fieldLink RX2 27 "VineWallModel" "side" "I") (List.mem_of_getElem? (i := 3) rfl)) (fun _ h9 => h9) rfl dX2_sides_42 ?_
    refine va_put (D := (dC, dI)) (ci := 2) (v := .int si) (ty := .int) (C := RX2) (T := TX2) (N := 8) hx hb hts inX2 tyX2 tyX2_ok nmX2 hown hK hP hD hS 0 rfl rfl 2 (by decide) (hts (.fieldLink RX2 27 "VineWallModel" "side" "I") (List.mem_of_getElem? (i := 3) rfl)) (fun _ h9 => h9) rfl (by decide +kernel) rfl rfl (Nat.le_of_ble_eq_true rfl) dX2_sides_45 (fun H locs hP hD hS => ?_)
    have hP : va_P (dC, dI) vwCl (gv_M cI am g be si ge cu pl br 1) H := hP
    have hD : va_D A (gv_M cI am g be si ge cu pl br 1) := hD
    exact kr (si, 1) _ _ _ _ he hP hS dX2_sides_48
  · have he := gv_f cd2 he
    refine lv_iload_n hx hb dX2_sides_5 rfl (lv_at hl 1 rfl) ?_
    refine lv_iconst (v := 2) hx hb dX2_sides_6 (by decide) ?_
    refine lv_icmp_le (tgt := 14) hx hb dX2_sides_7 (by decide) (fun cd7 => ?_) (fun cd7 => ?_)
    · have he := gv_t cd7 he
      refine lv_aload_n hx hb dX2_sides_14 rfl (lv_at hl 0 rfl) ?_
      refine va_get (D := (dC, dI)) (ci := 2) (v := .int ge) (C := RX2) (T := TX2) (N := 8) hx hb hts inX2 hown hK hP 0 rfl rfl 3 (by decide) (hts (.fieldLink RX2 57 "VineWallModel" "generation" "I") (List.mem_of_getElem? (i := 1) rfl)) (fun _ h9 => h9) rfl dX2_sides_15 ?_
      refine lv_if_le (tgt := 25) hx hb dX2_sides_18 (by decide) (fun cd18 => ?_) (fun cd18 => ?_)
      · have he := gv_t cd18 he
        refine lv_iconst (v := 0) hx hb dX2_sides_25 (by decide) ?_
        refine va_put (D := (dC, dI)) (ci := 2) (v := .int 0) (ty := .int) (C := RX2) (T := TX2) (N := 8) hx hb hts inX2 tyX2 tyX2_ok nmX2 hown hK hP hD hS 0 rfl rfl 7 (by decide) (hts (.fieldLink RX2 20 "VineWallModel" "thrown" "I") (List.mem_of_getElem? (i := 2) rfl)) (fun _ h9 => h9) rfl (by decide +kernel) rfl rfl (Nat.le_of_ble_eq_true rfl) dX2_sides_26 (fun H locs hP hD hS => ?_)
        have hP : va_P (dC, dI) vwCl (gv_M cI am g be si ge cu pl br 0) H := hP
        have hD : va_D A (gv_M cI am g be si ge cu pl br 0) := hD
        refine lv_aload_n hx hb dX2_sides_29 rfl (lv_at hl 0 rfl) ?_
        refine lv_aload_n hx hb dX2_sides_30 rfl (lv_at hl 0 rfl) ?_
        refine va_get (D := (dC, dI)) (ci := 2) (v := .int 0) (C := RX2) (T := TX2) (N := 8) hx hb hts inX2 hown hK hP 0 rfl rfl 7 (by decide) (hts (.fieldLink RX2 20 "VineWallModel" "thrown" "I") (List.mem_of_getElem? (i := 2) rfl)) (fun _ h9 => h9) rfl dX2_sides_31 ?_
        refine lv_if_ne (tgt := 41) hx hb dX2_sides_34 (by decide) (fun c => absurd (by decide) c) (fun _ => ?_)
        refine lv_iload_n hx hb dX2_sides_37 rfl (lv_at hl 1 rfl) ?_
        refine lv_goto (tgt := 45) hx hb dX2_sides_38 (by decide) ?_
        refine va_put (D := (dC, dI)) (ci := 2) (v := .int p1) (ty := .int) (C := RX2) (T := TX2) (N := 8) hx hb hts inX2 tyX2 tyX2_ok nmX2 hown hK hP hD hS 0 rfl rfl 2 (by decide) (hts (.fieldLink RX2 27 "VineWallModel" "side" "I") (List.mem_of_getElem? (i := 3) rfl)) (fun _ h9 => h9) rfl (by decide +kernel) rfl rfl (Nat.le_of_ble_eq_true rfl) dX2_sides_45 (fun H locs hP hD hS => ?_)
        have hP : va_P (dC, dI) vwCl (gv_M cI am g be p1 ge cu pl br 0) H := hP
        have hD : va_D A (gv_M cI am g be p1 ge cu pl br 0) := hD
        exact kr (p1, 0) _ _ _ _ he hP hS dX2_sides_48
      · have he := gv_f cd18 he
        refine lv_iconst (v := 2) hx hb dX2_sides_21 (by decide) ?_
        refine lv_goto (tgt := 26) hx hb dX2_sides_22 (by decide) ?_
        refine va_put (D := (dC, dI)) (ci := 2) (v := .int 2) (ty := .int) (C := RX2) (T := TX2) (N := 8) hx hb hts inX2 tyX2 tyX2_ok nmX2 hown hK hP hD hS 0 rfl rfl 7 (by decide) (hts (.fieldLink RX2 20 "VineWallModel" "thrown" "I") (List.mem_of_getElem? (i := 2) rfl)) (fun _ h9 => h9) rfl (by decide +kernel) rfl rfl (Nat.le_of_ble_eq_true rfl) dX2_sides_26 (fun H locs hP hD hS => ?_)
        have hP : va_P (dC, dI) vwCl (gv_M cI am g be si ge cu pl br 2) H := hP
        have hD : va_D A (gv_M cI am g be si ge cu pl br 2) := hD
        refine lv_aload_n hx hb dX2_sides_29 rfl (lv_at hl 0 rfl) ?_
        refine lv_aload_n hx hb dX2_sides_30 rfl (lv_at hl 0 rfl) ?_
        refine va_get (D := (dC, dI)) (ci := 2) (v := .int 2) (C := RX2) (T := TX2) (N := 8) hx hb hts inX2 hown hK hP 0 rfl rfl 7 (by decide) (hts (.fieldLink RX2 20 "VineWallModel" "thrown" "I") (List.mem_of_getElem? (i := 2) rfl)) (fun _ h9 => h9) rfl dX2_sides_31 ?_
        refine lv_if_ne (tgt := 41) hx hb dX2_sides_34 (by decide) (fun _ => ?_) (fun c => absurd c (by decide))
        refine lv_aload_n hx hb dX2_sides_41 rfl (lv_at hl 0 rfl) ?_
        refine va_get (D := (dC, dI)) (ci := 2) (v := .int si) (C := RX2) (T := TX2) (N := 8) hx hb hts inX2 hown hK hP 0 rfl rfl 2 (by decide) (hts (.fieldLink RX2 27 "VineWallModel" "side" "I") (List.mem_of_getElem? (i := 3) rfl)) (fun _ h9 => h9) rfl dX2_sides_42 ?_
        refine va_put (D := (dC, dI)) (ci := 2) (v := .int si) (ty := .int) (C := RX2) (T := TX2) (N := 8) hx hb hts inX2 tyX2 tyX2_ok nmX2 hown hK hP hD hS 0 rfl rfl 2 (by decide) (hts (.fieldLink RX2 27 "VineWallModel" "side" "I") (List.mem_of_getElem? (i := 3) rfl)) (fun _ h9 => h9) rfl (by decide +kernel) rfl rfl (Nat.le_of_ble_eq_true rfl) dX2_sides_45 (fun H locs hP hD hS => ?_)
        have hP : va_P (dC, dI) vwCl (gv_M cI am g be si ge cu pl br 2) H := hP
        have hD : va_D A (gv_M cI am g be si ge cu pl br 2) := hD
        exact kr (si, 2) _ _ _ _ he hP hS dX2_sides_48
    · have he := gv_f cd7 he
      refine lv_iconst (v := 1) hx hb dX2_sides_10 (by decide) ?_
      refine lv_goto (tgt := 26) hx hb dX2_sides_11 (by decide) ?_
      refine va_put (D := (dC, dI)) (ci := 2) (v := .int 1) (ty := .int) (C := RX2) (T := TX2) (N := 8) hx hb hts inX2 tyX2 tyX2_ok nmX2 hown hK hP hD hS 0 rfl rfl 7 (by decide) (hts (.fieldLink RX2 20 "VineWallModel" "thrown" "I") (List.mem_of_getElem? (i := 2) rfl)) (fun _ h9 => h9) rfl (by decide +kernel) rfl rfl (Nat.le_of_ble_eq_true rfl) dX2_sides_26 (fun H locs hP hD hS => ?_)
      have hP : va_P (dC, dI) vwCl (gv_M cI am g be si ge cu pl br 1) H := hP
      have hD : va_D A (gv_M cI am g be si ge cu pl br 1) := hD
      refine lv_aload_n hx hb dX2_sides_29 rfl (lv_at hl 0 rfl) ?_
      refine lv_aload_n hx hb dX2_sides_30 rfl (lv_at hl 0 rfl) ?_
      refine va_get (D := (dC, dI)) (ci := 2) (v := .int 1) (C := RX2) (T := TX2) (N := 8) hx hb hts inX2 hown hK hP 0 rfl rfl 7 (by decide) (hts (.fieldLink RX2 20 "VineWallModel" "thrown" "I") (List.mem_of_getElem? (i := 2) rfl)) (fun _ h9 => h9) rfl dX2_sides_31 ?_
      refine lv_if_ne (tgt := 41) hx hb dX2_sides_34 (by decide) (fun _ => ?_) (fun c => absurd c (by decide))
      refine lv_aload_n hx hb dX2_sides_41 rfl (lv_at hl 0 rfl) ?_
      refine va_get (D := (dC, dI)) (ci := 2) (v := .int si) (C := RX2) (T := TX2) (N := 8) hx hb hts inX2 hown hK hP 0 rfl rfl 2 (by decide) (hts (.fieldLink RX2 27 "VineWallModel" "side" "I") (List.mem_of_getElem? (i := 3) rfl)) (fun _ h9 => h9) rfl dX2_sides_42 ?_
      refine va_put (D := (dC, dI)) (ci := 2) (v := .int si) (ty := .int) (C := RX2) (T := TX2) (N := 8) hx hb hts inX2 tyX2 tyX2_ok nmX2 hown hK hP hD hS 0 rfl rfl 2 (by decide) (hts (.fieldLink RX2 27 "VineWallModel" "side" "I") (List.mem_of_getElem? (i := 3) rfl)) (fun _ h9 => h9) rfl (by decide +kernel) rfl rfl (Nat.le_of_ble_eq_true rfl) dX2_sides_45 (fun H locs hP hD hS => ?_)
      have hP : va_P (dC, dI) vwCl (gv_M cI am g be si ge cu pl br 1) H := hP
      have hD : va_D A (gv_M cI am g be si ge cu pl br 1) := hD
      exact kr (si, 1) _ _ _ _ he hP hS dX2_sides_48
def spX2_plant (g : Nat → Int32) (be : Nat → Int32) (si : Int32) (ge : Int32) (cu : Int32) (pl : Int32) (br : Int32) (th : Int32) (p1 : Int32) : (Nat → Int32) × (Int32) × (Int32) := gv_b (spX2_isColumn p1) (fun q2 => (if q2 = 0 then (g, pl, 1) else (if (g p1.toNatClampNeg) = 0 then (if pl = 4 then (g, pl, 2) else (upd g p1.toNatClampNeg 1, pl + 1, 0)) else (g, pl, 2))))
theorem spX2_plant_e (g : Nat → Int32) (be : Nat → Int32) (si : Int32) (ge : Int32) (cu : Int32) (pl : Int32) (br : Int32) (th : Int32) (p1 : Int32) : spX2_plant g be si ge cu pl br th p1 = gv_b (spX2_isColumn p1) (fun q2 => (if q2 = 0 then (g, pl, 1) else (if (g p1.toNatClampNeg) = 0 then (if pl = 4 then (g, pl, 2) else (upd g p1.toNatClampNeg 1, pl + 1, 0)) else (g, pl, 2)))) := rfl
set_option maxHeartbeats 4000000 in
set_option maxRecDepth 100000 in
theorem kX2_plant (l : Launch) (dC : Nat → ClassId) (dI : Nat → Nat → Nat) (cI cL : ClassId) (am : Nat → Nat) (g : Nat → Int32) (be : Nat → Int32) (si : Int32) (ge : Int32) (cu : Int32) (pl : Int32) (br : Int32) (th : Int32) (p1 : Int32) : gv_Mv l yX2_plant wsX2_plant 1 20 (dC, dI) [(cI, .int), (cL, .long)] [.ref (am 0), .int p1] (gv_M cI am g be si ge cu pl br th) (fun (u : (Nat → Int32) × (Int32) × (Int32)) => u = spX2_plant g be si ge cu pl br th p1) (fun (u : (Nat → Int32) × (Int32) × (Int32)) => (gv_M cI am u.1 be si ge cu u.2.1 br u.2.2)) := by
  refine gv_ofv (cc := cX2_plant) (maxL := 2) (own := RX2) (by decide) rfl (Nat.le_of_ble_eq_true rfl) rfl ?_
  intro A p e s m args below meth c Q ls H locs hx hb hml hts hown hP hK hD hN hS hl kr
  have inX2 : ∀ w ∈ wsX20, w ∈ wsX2_plant := (fun _ h => List.mem_cons_of_mem _ (List.mem_append_right _ h))
  have hl : lv_has ls 2 [(0, .ref (am 0)), (1, .int p1)] := hl
  have he := (spX2_plant_e g be si ge cu pl br th p1).symm
  refine lv_aload_n hx hb dX2_plant_0 rfl (lv_at hl 0 rfl) ?_
  refine lv_iload_n hx hb dX2_plant_1 rfl (lv_at hl 1 rfl) ?_
  have hPc : va_P (dC, dI) vwCl ([] : va_W) H := gv_P0
  have hDc : va_D (gv_in ([] : va_W)) ([] : va_W) := gv_D0
  refine gv_ki (wf := (fun (_ : Unit) => ([] : va_W))) (wc := ([] : va_W)) [] (fun _ => rfl) hP hD hS rfl rfl (va_runS (As := [.int p1]) (rest := [.ref (am 0)]) ⟨hx, hb, hml, hown, hts⟩ (kX2_isColumn l dC dI cI cL p1 (gv_in ([] : va_W))) (va_cwS (rm := gv_R 0 0) 1 hts gX2_plant_X2_isColumn rfl rfl rfl (by decide +kernel) ⟨Nat.le_of_ble_eq_true rfl, Nat.le_of_ble_eq_true rfl⟩) (gv_preS hK hPc hDc hN) rfl rfl hl.1 rfl (lv_room (Nat.le_of_ble_eq_true rfl)) dX2_plant_2 ⟨Nat.zero_le _, Nat.zero_le _⟩) (fun q2 u H locs hw hP hD hS => ?_)
  have he := gv_q hw he
  have hP : va_P (dC, dI) vwCl (gv_M cI am g be si ge cu pl br th) H := hP
  have hD : va_D A (gv_M cI am g be si ge cu pl br th) := hD
  refine lv_if_ne (tgt := 12) hx hb dX2_plant_5 (by decide) (fun cd5 => ?_) (fun cd5 => ?_)
  · have he := gv_f cd5 he
    have hv8 := gm_col hw cd5
    have hv9 := gm_up hv8 (show 12 ≤ 5952 by decide)
    refine lv_aload_n hx hb dX2_plant_12 rfl (lv_at hl 0 rfl) ?_
    refine va_get (D := (dC, dI)) (ci := 2) (v := .ref (am 1)) (C := RX2) (T := TX2) (N := 8) hx hb hts inX2 hown hK hP 0 rfl rfl 0 (by decide) (hts (.fieldLink RX2 7 "VineWallModel" "walls" "[I") (List.mem_of_getElem? (i := 1) rfl)) (fun _ h9 => h9) rfl dX2_plant_13 ?_
    refine lv_iload_n hx hb dX2_plant_16 rfl (lv_at hl 1 rfl) ?_
    refine va_iald (cA := cI) hx hb hK hP 1 0 rfl rfl hv9 dX2_plant_17 ?_
    refine lv_if_ne (tgt := 29) hx hb dX2_plant_18 (by decide) (fun cd18 => ?_) (fun cd18 => ?_)
    · have he := gv_f cd18 he
      refine lv_iconst (v := 2) hx hb dX2_plant_29 (by decide) ?_
      refine lv_goto (tgt := 34) hx hb dX2_plant_30 (by decide) ?_
      refine va_put (D := (dC, dI)) (ci := 2) (v := .int 2) (ty := .int) (C := RX2) (T := TX2) (N := 8) hx hb hts inX2 tyX2 tyX2_ok nmX2 hown hK hP hD hS 0 rfl rfl 7 (by decide) (hts (.fieldLink RX2 20 "VineWallModel" "thrown" "I") (List.mem_of_getElem? (i := 3) rfl)) (fun _ h9 => h9) rfl (by decide +kernel) rfl rfl (Nat.le_of_ble_eq_true rfl) dX2_plant_34 (fun H locs hP hD hS => ?_)
      have hP : va_P (dC, dI) vwCl (gv_M cI am g be si ge cu pl br 2) H := hP
      have hD : va_D A (gv_M cI am g be si ge cu pl br 2) := hD
      refine lv_aload_n hx hb dX2_plant_37 rfl (lv_at hl 0 rfl) ?_
      refine va_get (D := (dC, dI)) (ci := 2) (v := .int 2) (C := RX2) (T := TX2) (N := 8) hx hb hts inX2 hown hK hP 0 rfl rfl 7 (by decide) (hts (.fieldLink RX2 20 "VineWallModel" "thrown" "I") (List.mem_of_getElem? (i := 3) rfl)) (fun _ h9 => h9) rfl dX2_plant_38 ?_
      refine lv_if_ne (tgt := 61) hx hb dX2_plant_41 (by decide) (fun _ => ?_) (fun c => absurd c (by decide))
      exact kr (g, pl, 2) _ _ _ _ he hP hS dX2_plant_61
    · have he := gv_t cd18 he
      refine lv_aload_n hx hb dX2_plant_21 rfl (lv_at hl 0 rfl) ?_
      refine va_get (D := (dC, dI)) (ci := 2) (v := .int pl) (C := RX2) (T := TX2) (N := 8) hx hb hts inX2 hown hK hP 0 rfl rfl 5 (by decide) (hts (.fieldLink RX2 60 "VineWallModel" "planted" "I") (List.mem_of_getElem? (i := 2) rfl)) (fun _ h9 => h9) rfl dX2_plant_22 ?_
      refine lv_iconst (v := 4) hx hb dX2_plant_25 (by decide) ?_
      refine lv_icmp_ne (tgt := 33) hx hb dX2_plant_26 (by decide) (fun cd26 => ?_) (fun cd26 => ?_)
      · have he := gv_f cd26 he
        refine lv_iconst (v := 0) hx hb dX2_plant_33 (by decide) ?_
        refine va_put (D := (dC, dI)) (ci := 2) (v := .int 0) (ty := .int) (C := RX2) (T := TX2) (N := 8) hx hb hts inX2 tyX2 tyX2_ok nmX2 hown hK hP hD hS 0 rfl rfl 7 (by decide) (hts (.fieldLink RX2 20 "VineWallModel" "thrown" "I") (List.mem_of_getElem? (i := 3) rfl)) (fun _ h9 => h9) rfl (by decide +kernel) rfl rfl (Nat.le_of_ble_eq_true rfl) dX2_plant_34 (fun H locs hP hD hS => ?_)
        have hP : va_P (dC, dI) vwCl (gv_M cI am g be si ge cu pl br 0) H := hP
        have hD : va_D A (gv_M cI am g be si ge cu pl br 0) := hD
        refine lv_aload_n hx hb dX2_plant_37 rfl (lv_at hl 0 rfl) ?_
        refine va_get (D := (dC, dI)) (ci := 2) (v := .int 0) (C := RX2) (T := TX2) (N := 8) hx hb hts inX2 hown hK hP 0 rfl rfl 7 (by decide) (hts (.fieldLink RX2 20 "VineWallModel" "thrown" "I") (List.mem_of_getElem? (i := 3) rfl)) (fun _ h9 => h9) rfl dX2_plant_38 ?_
        refine lv_if_ne (tgt := 61) hx hb dX2_plant_41 (by decide) (fun c => absurd (by decide) c) (fun _ => ?_)
        refine lv_aload_n hx hb dX2_plant_44 rfl (lv_at hl 0 rfl) ?_
        refine va_get (D := (dC, dI)) (ci := 2) (v := .ref (am 1)) (C := RX2) (T := TX2) (N := 8) hx hb hts inX2 hown hK hP 0 rfl rfl 0 (by decide) (hts (.fieldLink RX2 7 "VineWallModel" "walls" "[I") (List.mem_of_getElem? (i := 1) rfl)) (fun _ h9 => h9) rfl dX2_plant_45 ?_
        refine lv_iload_n hx hb dX2_plant_48 rfl (lv_at hl 1 rfl) ?_
        refine lv_iconst (v := 1) hx hb dX2_plant_49 (by decide) ?_
        refine va_iast (cA := cI) hx hb hK hP hD hS 1 0 rfl rfl hv9 dX2_plant_50 (fun H locs hP hD hS => ?_)
        have hP : va_P (dC, dI) vwCl (gv_M cI am (upd g p1.toNatClampNeg 1) be si ge cu pl br 0) H := hP
        have hD : va_D A (gv_M cI am (upd g p1.toNatClampNeg 1) be si ge cu pl br 0) := hD
        refine lv_aload_n hx hb dX2_plant_51 rfl (lv_at hl 0 rfl) ?_
        refine lv_dup hx hb dX2_plant_52 rfl ?_
        refine va_get (D := (dC, dI)) (ci := 2) (v := .int pl) (C := RX2) (T := TX2) (N := 8) hx hb hts inX2 hown hK hP 0 rfl rfl 5 (by decide) (hts (.fieldLink RX2 60 "VineWallModel" "planted" "I") (List.mem_of_getElem? (i := 2) rfl)) (fun _ h9 => h9) rfl dX2_plant_53 ?_
        refine lv_iconst (v := 1) hx hb dX2_plant_56 (by decide) ?_
        refine lv_iadd hx hb dX2_plant_57 ?_
        refine va_put (D := (dC, dI)) (ci := 2) (v := .int (pl + 1)) (ty := .int) (C := RX2) (T := TX2) (N := 8) hx hb hts inX2 tyX2 tyX2_ok nmX2 hown hK hP hD hS 0 rfl rfl 5 (by decide) (hts (.fieldLink RX2 60 "VineWallModel" "planted" "I") (List.mem_of_getElem? (i := 2) rfl)) (fun _ h9 => h9) rfl (by decide +kernel) rfl rfl (Nat.le_of_ble_eq_true rfl) dX2_plant_58 (fun H locs hP hD hS => ?_)
        have hP : va_P (dC, dI) vwCl (gv_M cI am (upd g p1.toNatClampNeg 1) be si ge cu (pl + 1) br 0) H := hP
        have hD : va_D A (gv_M cI am (upd g p1.toNatClampNeg 1) be si ge cu (pl + 1) br 0) := hD
        exact kr (upd g p1.toNatClampNeg 1, pl + 1, 0) _ _ _ _ he hP hS dX2_plant_61
      · have he := gv_t cd26 he
        refine lv_iconst (v := 2) hx hb dX2_plant_29 (by decide) ?_
        refine lv_goto (tgt := 34) hx hb dX2_plant_30 (by decide) ?_
        refine va_put (D := (dC, dI)) (ci := 2) (v := .int 2) (ty := .int) (C := RX2) (T := TX2) (N := 8) hx hb hts inX2 tyX2 tyX2_ok nmX2 hown hK hP hD hS 0 rfl rfl 7 (by decide) (hts (.fieldLink RX2 20 "VineWallModel" "thrown" "I") (List.mem_of_getElem? (i := 3) rfl)) (fun _ h9 => h9) rfl (by decide +kernel) rfl rfl (Nat.le_of_ble_eq_true rfl) dX2_plant_34 (fun H locs hP hD hS => ?_)
        have hP : va_P (dC, dI) vwCl (gv_M cI am g be si ge cu pl br 2) H := hP
        have hD : va_D A (gv_M cI am g be si ge cu pl br 2) := hD
        refine lv_aload_n hx hb dX2_plant_37 rfl (lv_at hl 0 rfl) ?_
        refine va_get (D := (dC, dI)) (ci := 2) (v := .int 2) (C := RX2) (T := TX2) (N := 8) hx hb hts inX2 hown hK hP 0 rfl rfl 7 (by decide) (hts (.fieldLink RX2 20 "VineWallModel" "thrown" "I") (List.mem_of_getElem? (i := 3) rfl)) (fun _ h9 => h9) rfl dX2_plant_38 ?_
        refine lv_if_ne (tgt := 61) hx hb dX2_plant_41 (by decide) (fun _ => ?_) (fun c => absurd c (by decide))
        exact kr (g, pl, 2) _ _ _ _ he hP hS dX2_plant_61
  · have he := gv_t cd5 he
    refine lv_iconst (v := 1) hx hb dX2_plant_8 (by decide) ?_
    refine lv_goto (tgt := 34) hx hb dX2_plant_9 (by decide) ?_
    refine va_put (D := (dC, dI)) (ci := 2) (v := .int 1) (ty := .int) (C := RX2) (T := TX2) (N := 8) hx hb hts inX2 tyX2 tyX2_ok nmX2 hown hK hP hD hS 0 rfl rfl 7 (by decide) (hts (.fieldLink RX2 20 "VineWallModel" "thrown" "I") (List.mem_of_getElem? (i := 3) rfl)) (fun _ h9 => h9) rfl (by decide +kernel) rfl rfl (Nat.le_of_ble_eq_true rfl) dX2_plant_34 (fun H locs hP hD hS => ?_)
    have hP : va_P (dC, dI) vwCl (gv_M cI am g be si ge cu pl br 1) H := hP
    have hD : va_D A (gv_M cI am g be si ge cu pl br 1) := hD
    refine lv_aload_n hx hb dX2_plant_37 rfl (lv_at hl 0 rfl) ?_
    refine va_get (D := (dC, dI)) (ci := 2) (v := .int 1) (C := RX2) (T := TX2) (N := 8) hx hb hts inX2 hown hK hP 0 rfl rfl 7 (by decide) (hts (.fieldLink RX2 20 "VineWallModel" "thrown" "I") (List.mem_of_getElem? (i := 3) rfl)) (fun _ h9 => h9) rfl dX2_plant_38 ?_
    refine lv_if_ne (tgt := 61) hx hb dX2_plant_41 (by decide) (fun _ => ?_) (fun c => absurd c (by decide))
    exact kr (g, pl, 1) _ _ _ _ he hP hS dX2_plant_61
def spX2_trellis (g : Nat → Int32) (be : Nat → Int32) (si : Int32) (ge : Int32) (cu : Int32) (pl : Int32) (br : Int32) (th : Int32) (p1 : Int32) (p2 : Int32) : Int32 × (Nat → Int32) × (Int32) := gv_b (spX2_isColumn p1) (fun q2 => (if q2 = 0 then (0, be, 1) else (if p2 < 1 then (0, be, 2) else (if p2 ≤ 8 then (be p1.toNatClampNeg, upd be p1.toNatClampNeg p2, 0) else (0, be, 2)))))
theorem spX2_trellis_e (g : Nat → Int32) (be : Nat → Int32) (si : Int32) (ge : Int32) (cu : Int32) (pl : Int32) (br : Int32) (th : Int32) (p1 : Int32) (p2 : Int32) : spX2_trellis g be si ge cu pl br th p1 p2 = gv_b (spX2_isColumn p1) (fun q2 => (if q2 = 0 then (0, be, 1) else (if p2 < 1 then (0, be, 2) else (if p2 ≤ 8 then (be p1.toNatClampNeg, upd be p1.toNatClampNeg p2, 0) else (0, be, 2))))) := rfl
set_option maxHeartbeats 4000000 in
set_option maxRecDepth 100000 in
theorem kX2_trellis (l : Launch) (dC : Nat → ClassId) (dI : Nat → Nat → Nat) (cI cL : ClassId) (am : Nat → Nat) (g : Nat → Int32) (be : Nat → Int32) (si : Int32) (ge : Int32) (cu : Int32) (pl : Int32) (br : Int32) (th : Int32) (p1 : Int32) (p2 : Int32) : gv_Mi l yX2_trellis wsX2_trellis 1 20 (dC, dI) [(cI, .int), (cL, .long)] [.ref (am 0), .int p1, .int p2] (gv_M cI am g be si ge cu pl br th) (fun (r : Int32) (u : (Nat → Int32) × (Int32)) => (r, u) = spX2_trellis g be si ge cu pl br th p1 p2) (fun (u : (Nat → Int32) × (Int32)) => (gv_M cI am g u.1 si ge cu pl br u.2)) := by
  refine gv_ofi (cc := cX2_trellis) (maxL := 4) (own := RX2) (by decide) rfl (Nat.le_of_ble_eq_true rfl) rfl ?_
  intro A p e s m args below meth c Q ls H locs hx hb hml hts hown hP hK hD hN hS hl kr
  have inX2 : ∀ w ∈ wsX20, w ∈ wsX2_trellis := (fun _ h => List.mem_cons_of_mem _ (List.mem_append_right _ h))
  have hl : lv_has ls 4 [(0, .ref (am 0)), (1, .int p1), (2, .int p2)] := hl
  have he := (spX2_trellis_e g be si ge cu pl br th p1 p2).symm
  refine lv_aload_n hx hb dX2_trellis_0 rfl (lv_at hl 0 rfl) ?_
  refine lv_iload_n hx hb dX2_trellis_1 rfl (lv_at hl 1 rfl) ?_
  have hPc : va_P (dC, dI) vwCl ([] : va_W) H := gv_P0
  have hDc : va_D (gv_in ([] : va_W)) ([] : va_W) := gv_D0
  refine gv_ki (wf := (fun (_ : Unit) => ([] : va_W))) (wc := ([] : va_W)) [] (fun _ => rfl) hP hD hS rfl rfl (va_runS (As := [.int p1]) (rest := [.ref (am 0)]) ⟨hx, hb, hml, hown, hts⟩ (kX2_isColumn l dC dI cI cL p1 (gv_in ([] : va_W))) (va_cwS (rm := gv_R 0 0) 1 hts gX2_trellis_X2_isColumn rfl rfl rfl (by decide +kernel) ⟨Nat.le_of_ble_eq_true rfl, Nat.le_of_ble_eq_true rfl⟩) (gv_preS hK hPc hDc hN) rfl rfl hl.1 rfl (lv_room (Nat.le_of_ble_eq_true rfl)) dX2_trellis_2 ⟨Nat.zero_le _, Nat.zero_le _⟩) (fun q2 u H locs hw hP hD hS => ?_)
  have he := gv_q hw he
  have hP : va_P (dC, dI) vwCl (gv_M cI am g be si ge cu pl br th) H := hP
  have hD : va_D A (gv_M cI am g be si ge cu pl br th) := hD
  refine lv_if_ne (tgt := 12) hx hb dX2_trellis_5 (by decide) (fun cd5 => ?_) (fun cd5 => ?_)
  · have he := gv_f cd5 he
    have hv8 := gm_col hw cd5
    have hv9 := gm_up hv8 (show 12 ≤ 5952 by decide)
    refine lv_iload_n hx hb dX2_trellis_12 rfl (lv_at hl 2 rfl) ?_
    refine lv_iconst (v := 1) hx hb dX2_trellis_13 (by decide) ?_
    refine lv_icmp_lt (tgt := 23) hx hb dX2_trellis_14 (by decide) (fun cd14 => ?_) (fun cd14 => ?_)
    · have he := gv_t cd14 he
      refine lv_iconst (v := 2) hx hb dX2_trellis_23 (by decide) ?_
      refine lv_goto (tgt := 28) hx hb dX2_trellis_24 (by decide) ?_
      refine va_put (D := (dC, dI)) (ci := 2) (v := .int 2) (ty := .int) (C := RX2) (T := TX2) (N := 8) hx hb hts inX2 tyX2 tyX2_ok nmX2 hown hK hP hD hS 0 rfl rfl 7 (by decide) (hts (.fieldLink RX2 20 "VineWallModel" "thrown" "I") (List.mem_of_getElem? (i := 1) rfl)) (fun _ h9 => h9) rfl (by decide +kernel) rfl rfl (Nat.le_of_ble_eq_true rfl) dX2_trellis_28 (fun H locs hP hD hS => ?_)
      have hP : va_P (dC, dI) vwCl (gv_M cI am g be si ge cu pl br 2) H := hP
      have hD : va_D A (gv_M cI am g be si ge cu pl br 2) := hD
      refine lv_aload_n hx hb dX2_trellis_31 rfl (lv_at hl 0 rfl) ?_
      refine va_get (D := (dC, dI)) (ci := 2) (v := .int 2) (C := RX2) (T := TX2) (N := 8) hx hb hts inX2 hown hK hP 0 rfl rfl 7 (by decide) (hts (.fieldLink RX2 20 "VineWallModel" "thrown" "I") (List.mem_of_getElem? (i := 1) rfl)) (fun _ h9 => h9) rfl dX2_trellis_32 ?_
      refine lv_if_eq (tgt := 40) hx hb dX2_trellis_35 (by decide) (fun c => absurd c (by decide)) (fun _ => ?_)
      refine lv_iconst (v := 0) hx hb dX2_trellis_38 (by decide) ?_
      exact kr 0 (be, 2) _ _ _ _ he hP hS dX2_trellis_39
    · have he := gv_f cd14 he
      refine lv_iload_n hx hb dX2_trellis_17 rfl (lv_at hl 2 rfl) ?_
      refine lv_bipush (v := 8) hx hb dX2_trellis_18 (by decide) ?_
      refine lv_icmp_le (tgt := 27) hx hb dX2_trellis_20 (by decide) (fun cd20 => ?_) (fun cd20 => ?_)
      · have he := gv_t cd20 he
        refine lv_iconst (v := 0) hx hb dX2_trellis_27 (by decide) ?_
        refine va_put (D := (dC, dI)) (ci := 2) (v := .int 0) (ty := .int) (C := RX2) (T := TX2) (N := 8) hx hb hts inX2 tyX2 tyX2_ok nmX2 hown hK hP hD hS 0 rfl rfl 7 (by decide) (hts (.fieldLink RX2 20 "VineWallModel" "thrown" "I") (List.mem_of_getElem? (i := 1) rfl)) (fun _ h9 => h9) rfl (by decide +kernel) rfl rfl (Nat.le_of_ble_eq_true rfl) dX2_trellis_28 (fun H locs hP hD hS => ?_)
        have hP : va_P (dC, dI) vwCl (gv_M cI am g be si ge cu pl br 0) H := hP
        have hD : va_D A (gv_M cI am g be si ge cu pl br 0) := hD
        refine lv_aload_n hx hb dX2_trellis_31 rfl (lv_at hl 0 rfl) ?_
        refine va_get (D := (dC, dI)) (ci := 2) (v := .int 0) (C := RX2) (T := TX2) (N := 8) hx hb hts inX2 hown hK hP 0 rfl rfl 7 (by decide) (hts (.fieldLink RX2 20 "VineWallModel" "thrown" "I") (List.mem_of_getElem? (i := 1) rfl)) (fun _ h9 => h9) rfl dX2_trellis_32 ?_
        refine lv_if_eq (tgt := 40) hx hb dX2_trellis_35 (by decide) (fun _ => ?_) (fun c => absurd (by decide) c)
        refine lv_aload_n hx hb dX2_trellis_40 rfl (lv_at hl 0 rfl) ?_
        refine va_get (D := (dC, dI)) (ci := 2) (v := .ref (am 2)) (C := RX2) (T := TX2) (N := 8) hx hb hts inX2 hown hK hP 0 rfl rfl 1 (by decide) (hts (.fieldLink RX2 13 "VineWallModel" "bears" "[I") (List.mem_of_getElem? (i := 2) rfl)) (fun _ h9 => h9) rfl dX2_trellis_41 ?_
        refine lv_iload_n hx hb dX2_trellis_44 rfl (lv_at hl 1 rfl) ?_
        refine va_iald (cA := cI) hx hb hK hP 2 0 rfl rfl hv8 dX2_trellis_45 ?_
        refine lv_istore_n (lv' := [(3, .int (be p1.toNatClampNeg)), (0, .ref (am 0)), (1, .int p1), (2, .int p2)]) hx hb dX2_trellis_46 rfl hl (by decide) rfl (fun ls hl => ?_)
        refine lv_aload_n hx hb dX2_trellis_47 rfl (lv_at hl 1 rfl) ?_
        refine va_get (D := (dC, dI)) (ci := 2) (v := .ref (am 2)) (C := RX2) (T := TX2) (N := 8) hx hb hts inX2 hown hK hP 0 rfl rfl 1 (by decide) (hts (.fieldLink RX2 13 "VineWallModel" "bears" "[I") (List.mem_of_getElem? (i := 2) rfl)) (fun _ h9 => h9) rfl dX2_trellis_48 ?_
        refine lv_iload_n hx hb dX2_trellis_51 rfl (lv_at hl 2 rfl) ?_
        refine lv_iload_n hx hb dX2_trellis_52 rfl (lv_at hl 3 rfl) ?_
        refine va_iast (cA := cI) hx hb hK hP hD hS 2 0 rfl rfl hv8 dX2_trellis_53 (fun H locs hP hD hS => ?_)
        have hP : va_P (dC, dI) vwCl (gv_M cI am g (upd be p1.toNatClampNeg p2) si ge cu pl br 0) H := hP
        have hD : va_D A (gv_M cI am g (upd be p1.toNatClampNeg p2) si ge cu pl br 0) := hD
        refine lv_iload_n hx hb dX2_trellis_54 rfl (lv_at hl 0 rfl) ?_
        exact kr (be p1.toNatClampNeg) (upd be p1.toNatClampNeg p2, 0) _ _ _ _ he hP hS dX2_trellis_55
      · have he := gv_f cd20 he
        refine lv_iconst (v := 2) hx hb dX2_trellis_23 (by decide) ?_
        refine lv_goto (tgt := 28) hx hb dX2_trellis_24 (by decide) ?_
        refine va_put (D := (dC, dI)) (ci := 2) (v := .int 2) (ty := .int) (C := RX2) (T := TX2) (N := 8) hx hb hts inX2 tyX2 tyX2_ok nmX2 hown hK hP hD hS 0 rfl rfl 7 (by decide) (hts (.fieldLink RX2 20 "VineWallModel" "thrown" "I") (List.mem_of_getElem? (i := 1) rfl)) (fun _ h9 => h9) rfl (by decide +kernel) rfl rfl (Nat.le_of_ble_eq_true rfl) dX2_trellis_28 (fun H locs hP hD hS => ?_)
        have hP : va_P (dC, dI) vwCl (gv_M cI am g be si ge cu pl br 2) H := hP
        have hD : va_D A (gv_M cI am g be si ge cu pl br 2) := hD
        refine lv_aload_n hx hb dX2_trellis_31 rfl (lv_at hl 0 rfl) ?_
        refine va_get (D := (dC, dI)) (ci := 2) (v := .int 2) (C := RX2) (T := TX2) (N := 8) hx hb hts inX2 hown hK hP 0 rfl rfl 7 (by decide) (hts (.fieldLink RX2 20 "VineWallModel" "thrown" "I") (List.mem_of_getElem? (i := 1) rfl)) (fun _ h9 => h9) rfl dX2_trellis_32 ?_
        refine lv_if_eq (tgt := 40) hx hb dX2_trellis_35 (by decide) (fun c => absurd c (by decide)) (fun _ => ?_)
        refine lv_iconst (v := 0) hx hb dX2_trellis_38 (by decide) ?_
        exact kr 0 (be, 2) _ _ _ _ he hP hS dX2_trellis_39
  · have he := gv_t cd5 he
    refine lv_iconst (v := 1) hx hb dX2_trellis_8 (by decide) ?_
    refine lv_goto (tgt := 28) hx hb dX2_trellis_9 (by decide) ?_
    refine va_put (D := (dC, dI)) (ci := 2) (v := .int 1) (ty := .int) (C := RX2) (T := TX2) (N := 8) hx hb hts inX2 tyX2 tyX2_ok nmX2 hown hK hP hD hS 0 rfl rfl 7 (by decide) (hts (.fieldLink RX2 20 "VineWallModel" "thrown" "I") (List.mem_of_getElem? (i := 1) rfl)) (fun _ h9 => h9) rfl (by decide +kernel) rfl rfl (Nat.le_of_ble_eq_true rfl) dX2_trellis_28 (fun H locs hP hD hS => ?_)
    have hP : va_P (dC, dI) vwCl (gv_M cI am g be si ge cu pl br 1) H := hP
    have hD : va_D A (gv_M cI am g be si ge cu pl br 1) := hD
    refine lv_aload_n hx hb dX2_trellis_31 rfl (lv_at hl 0 rfl) ?_
    refine va_get (D := (dC, dI)) (ci := 2) (v := .int 1) (C := RX2) (T := TX2) (N := 8) hx hb hts inX2 hown hK hP 0 rfl rfl 7 (by decide) (hts (.fieldLink RX2 20 "VineWallModel" "thrown" "I") (List.mem_of_getElem? (i := 1) rfl)) (fun _ h9 => h9) rfl dX2_trellis_32 ?_
    refine lv_if_eq (tgt := 40) hx hb dX2_trellis_35 (by decide) (fun c => absurd c (by decide)) (fun _ => ?_)
    refine lv_iconst (v := 0) hx hb dX2_trellis_38 (by decide) ?_
    exact kr 0 (be, 1) _ _ _ _ he hP hS dX2_trellis_39
def spX2_cut (g : Nat → Int32) (be : Nat → Int32) (si : Int32) (ge : Int32) (cu : Int32) (pl : Int32) (br : Int32) (th : Int32) (p1 : Int32) (p2 : Int32) : Int32 × (Nat → Int32) × (Int32) × (Int32) := gv_b (spX2_isCell p1 p2) (fun q3 => (if q3 = 0 then (0, g, cu, 1) else (if (g ((12 * p1) + p2).toNatClampNeg) = 1 then (if cu = 0 then (0, g, cu, 2) else (cu - 1, upd g ((12 * p1) + p2).toNatClampNeg 2, cu - 1, 0)) else (0, g, cu, 2))))
theorem spX2_cut_e (g : Nat → Int32) (be : Nat → Int32) (si : Int32) (ge : Int32) (cu : Int32) (pl : Int32) (br : Int32) (th : Int32) (p1 : Int32) (p2 : Int32) : spX2_cut g be si ge cu pl br th p1 p2 = gv_b (spX2_isCell p1 p2) (fun q3 => (if q3 = 0 then (0, g, cu, 1) else (if (g ((12 * p1) + p2).toNatClampNeg) = 1 then (if cu = 0 then (0, g, cu, 2) else (cu - 1, upd g ((12 * p1) + p2).toNatClampNeg 2, cu - 1, 0)) else (0, g, cu, 2)))) := rfl
set_option maxHeartbeats 4000000 in
set_option maxRecDepth 100000 in
theorem kX2_cut (l : Launch) (dC : Nat → ClassId) (dI : Nat → Nat → Nat) (cI cL : ClassId) (am : Nat → Nat) (g : Nat → Int32) (be : Nat → Int32) (si : Int32) (ge : Int32) (cu : Int32) (pl : Int32) (br : Int32) (th : Int32) (p1 : Int32) (p2 : Int32) : gv_Mi l yX2_cut wsX2_cut 2 41 (dC, dI) [(cI, .int), (cL, .long)] [.ref (am 0), .int p1, .int p2] (gv_M cI am g be si ge cu pl br th) (fun (r : Int32) (u : (Nat → Int32) × (Int32) × (Int32)) => (r, u) = spX2_cut g be si ge cu pl br th p1 p2) (fun (u : (Nat → Int32) × (Int32) × (Int32)) => (gv_M cI am u.1 be si ge u.2.1 pl br u.2.2)) := by
  refine gv_ofi (cc := cX2_cut) (maxL := 3) (own := RX2) (by decide) rfl (Nat.le_of_ble_eq_true rfl) rfl ?_
  intro A p e s m args below meth c Q ls H locs hx hb hml hts hown hP hK hD hN hS hl kr
  have inX2 : ∀ w ∈ wsX20, w ∈ wsX2_cut := (fun _ h => List.mem_cons_of_mem _ (List.mem_append_right _ h))
  have hl : lv_has ls 3 [(0, .ref (am 0)), (1, .int p1), (2, .int p2)] := hl
  have he := (spX2_cut_e g be si ge cu pl br th p1 p2).symm
  refine lv_aload_n hx hb dX2_cut_0 rfl (lv_at hl 0 rfl) ?_
  refine lv_iload_n hx hb dX2_cut_1 rfl (lv_at hl 1 rfl) ?_
  refine lv_iload_n hx hb dX2_cut_2 rfl (lv_at hl 2 rfl) ?_
  have hPc : va_P (dC, dI) vwCl ([] : va_W) H := gv_P0
  have hDc : va_D (gv_in ([] : va_W)) ([] : va_W) := gv_D0
  refine gv_ki (wf := (fun (_ : Unit) => ([] : va_W))) (wc := ([] : va_W)) [] (fun _ => rfl) hP hD hS rfl rfl (va_runS (As := [.int p1, .int p2]) (rest := [.ref (am 0)]) ⟨hx, hb, hml, hown, hts⟩ (kX2_isCell l dC dI cI cL p1 p2 (gv_in ([] : va_W))) (va_cwS (rm := gv_R 1 20) 2 hts gX2_cut_X2_isCell rfl rfl rfl (by decide +kernel) ⟨Nat.le_of_ble_eq_true rfl, Nat.le_of_ble_eq_true rfl⟩) (gv_preS hK hPc hDc hN) rfl rfl hl.1 rfl (lv_room (Nat.le_of_ble_eq_true rfl)) dX2_cut_3 ⟨Nat.zero_le _, Nat.zero_le _⟩) (fun q3 u H locs hw hP hD hS => ?_)
  have he := gv_q hw he
  have hP : va_P (dC, dI) vwCl (gv_M cI am g be si ge cu pl br th) H := hP
  have hD : va_D A (gv_M cI am g be si ge cu pl br th) := hD
  refine lv_if_ne (tgt := 13) hx hb dX2_cut_6 (by decide) (fun cd6 => ?_) (fun cd6 => ?_)
  · have he := gv_f cd6 he
    have hv7 := gm_cellM hw cd6
    have hv8 := gm_ix2 hv7.1 hv7.2
    refine lv_aload_n hx hb dX2_cut_13 rfl (lv_at hl 0 rfl) ?_
    refine va_get (D := (dC, dI)) (ci := 2) (v := .ref (am 1)) (C := RX2) (T := TX2) (N := 8) hx hb hts inX2 hown hK hP 0 rfl rfl 0 (by decide) (hts (.fieldLink RX2 7 "VineWallModel" "walls" "[I") (List.mem_of_getElem? (i := 1) rfl)) (fun _ h9 => h9) rfl dX2_cut_14 ?_
    refine lv_bipush (v := 12) hx hb dX2_cut_17 (by decide) ?_
    refine lv_iload_n hx hb dX2_cut_19 rfl (lv_at hl 1 rfl) ?_
    refine lv_imul hx hb dX2_cut_20 ?_
    refine lv_iload_n hx hb dX2_cut_21 rfl (lv_at hl 2 rfl) ?_
    refine lv_iadd hx hb dX2_cut_22 ?_
    refine va_iald (cA := cI) hx hb hK hP 1 0 rfl rfl hv8 dX2_cut_23 ?_
    refine lv_iconst (v := 1) hx hb dX2_cut_24 (by decide) ?_
    refine lv_icmp_ne (tgt := 35) hx hb dX2_cut_25 (by decide) (fun cd25 => ?_) (fun cd25 => ?_)
    · have he := gv_f cd25 he
      refine lv_iconst (v := 2) hx hb dX2_cut_35 (by decide) ?_
      refine lv_goto (tgt := 40) hx hb dX2_cut_36 (by decide) ?_
      refine va_put (D := (dC, dI)) (ci := 2) (v := .int 2) (ty := .int) (C := RX2) (T := TX2) (N := 8) hx hb hts inX2 tyX2 tyX2_ok nmX2 hown hK hP hD hS 0 rfl rfl 7 (by decide) (hts (.fieldLink RX2 20 "VineWallModel" "thrown" "I") (List.mem_of_getElem? (i := 3) rfl)) (fun _ h9 => h9) rfl (by decide +kernel) rfl rfl (Nat.le_of_ble_eq_true rfl) dX2_cut_40 (fun H locs hP hD hS => ?_)
      have hP : va_P (dC, dI) vwCl (gv_M cI am g be si ge cu pl br 2) H := hP
      have hD : va_D A (gv_M cI am g be si ge cu pl br 2) := hD
      refine lv_aload_n hx hb dX2_cut_43 rfl (lv_at hl 0 rfl) ?_
      refine va_get (D := (dC, dI)) (ci := 2) (v := .int 2) (C := RX2) (T := TX2) (N := 8) hx hb hts inX2 hown hK hP 0 rfl rfl 7 (by decide) (hts (.fieldLink RX2 20 "VineWallModel" "thrown" "I") (List.mem_of_getElem? (i := 3) rfl)) (fun _ h9 => h9) rfl dX2_cut_44 ?_
      refine lv_if_eq (tgt := 52) hx hb dX2_cut_47 (by decide) (fun c => absurd c (by decide)) (fun _ => ?_)
      refine lv_iconst (v := 0) hx hb dX2_cut_50 (by decide) ?_
      exact kr 0 (g, cu, 2) _ _ _ _ he hP hS dX2_cut_51
    · have he := gv_t cd25 he
      refine lv_aload_n hx hb dX2_cut_28 rfl (lv_at hl 0 rfl) ?_
      refine va_get (D := (dC, dI)) (ci := 2) (v := .int cu) (C := RX2) (T := TX2) (N := 8) hx hb hts inX2 hown hK hP 0 rfl rfl 4 (by decide) (hts (.fieldLink RX2 16 "VineWallModel" "cuts" "I") (List.mem_of_getElem? (i := 2) rfl)) (fun _ h9 => h9) rfl dX2_cut_29 ?_
      refine lv_if_ne (tgt := 39) hx hb dX2_cut_32 (by decide) (fun cd32 => ?_) (fun cd32 => ?_)
      · have he := gv_f cd32 he
        refine lv_iconst (v := 0) hx hb dX2_cut_39 (by decide) ?_
        refine va_put (D := (dC, dI)) (ci := 2) (v := .int 0) (ty := .int) (C := RX2) (T := TX2) (N := 8) hx hb hts inX2 tyX2 tyX2_ok nmX2 hown hK hP hD hS 0 rfl rfl 7 (by decide) (hts (.fieldLink RX2 20 "VineWallModel" "thrown" "I") (List.mem_of_getElem? (i := 3) rfl)) (fun _ h9 => h9) rfl (by decide +kernel) rfl rfl (Nat.le_of_ble_eq_true rfl) dX2_cut_40 (fun H locs hP hD hS => ?_)
        have hP : va_P (dC, dI) vwCl (gv_M cI am g be si ge cu pl br 0) H := hP
        have hD : va_D A (gv_M cI am g be si ge cu pl br 0) := hD
        refine lv_aload_n hx hb dX2_cut_43 rfl (lv_at hl 0 rfl) ?_
        refine va_get (D := (dC, dI)) (ci := 2) (v := .int 0) (C := RX2) (T := TX2) (N := 8) hx hb hts inX2 hown hK hP 0 rfl rfl 7 (by decide) (hts (.fieldLink RX2 20 "VineWallModel" "thrown" "I") (List.mem_of_getElem? (i := 3) rfl)) (fun _ h9 => h9) rfl dX2_cut_44 ?_
        refine lv_if_eq (tgt := 52) hx hb dX2_cut_47 (by decide) (fun _ => ?_) (fun c => absurd (by decide) c)
        refine lv_aload_n hx hb dX2_cut_52 rfl (lv_at hl 0 rfl) ?_
        refine va_get (D := (dC, dI)) (ci := 2) (v := .ref (am 1)) (C := RX2) (T := TX2) (N := 8) hx hb hts inX2 hown hK hP 0 rfl rfl 0 (by decide) (hts (.fieldLink RX2 7 "VineWallModel" "walls" "[I") (List.mem_of_getElem? (i := 1) rfl)) (fun _ h9 => h9) rfl dX2_cut_53 ?_
        refine lv_bipush (v := 12) hx hb dX2_cut_56 (by decide) ?_
        refine lv_iload_n hx hb dX2_cut_58 rfl (lv_at hl 1 rfl) ?_
        refine lv_imul hx hb dX2_cut_59 ?_
        refine lv_iload_n hx hb dX2_cut_60 rfl (lv_at hl 2 rfl) ?_
        refine lv_iadd hx hb dX2_cut_61 ?_
        refine lv_iconst (v := 2) hx hb dX2_cut_62 (by decide) ?_
        refine va_iast (cA := cI) hx hb hK hP hD hS 1 0 rfl rfl hv8 dX2_cut_63 (fun H locs hP hD hS => ?_)
        have hP : va_P (dC, dI) vwCl (gv_M cI am (upd g ((12 * p1) + p2).toNatClampNeg 2) be si ge cu pl br 0) H := hP
        have hD : va_D A (gv_M cI am (upd g ((12 * p1) + p2).toNatClampNeg 2) be si ge cu pl br 0) := hD
        refine lv_aload_n hx hb dX2_cut_64 rfl (lv_at hl 0 rfl) ?_
        refine lv_dup hx hb dX2_cut_65 rfl ?_
        refine va_get (D := (dC, dI)) (ci := 2) (v := .int cu) (C := RX2) (T := TX2) (N := 8) hx hb hts inX2 hown hK hP 0 rfl rfl 4 (by decide) (hts (.fieldLink RX2 16 "VineWallModel" "cuts" "I") (List.mem_of_getElem? (i := 2) rfl)) (fun _ h9 => h9) rfl dX2_cut_66 ?_
        refine lv_iconst (v := 1) hx hb dX2_cut_69 (by decide) ?_
        refine lv_isub hx hb dX2_cut_70 ?_
        refine va_put (D := (dC, dI)) (ci := 2) (v := .int (cu - 1)) (ty := .int) (C := RX2) (T := TX2) (N := 8) hx hb hts inX2 tyX2 tyX2_ok nmX2 hown hK hP hD hS 0 rfl rfl 4 (by decide) (hts (.fieldLink RX2 16 "VineWallModel" "cuts" "I") (List.mem_of_getElem? (i := 2) rfl)) (fun _ h9 => h9) rfl (by decide +kernel) rfl rfl (Nat.le_of_ble_eq_true rfl) dX2_cut_71 (fun H locs hP hD hS => ?_)
        have hP : va_P (dC, dI) vwCl (gv_M cI am (upd g ((12 * p1) + p2).toNatClampNeg 2) be si ge (cu - 1) pl br 0) H := hP
        have hD : va_D A (gv_M cI am (upd g ((12 * p1) + p2).toNatClampNeg 2) be si ge (cu - 1) pl br 0) := hD
        refine lv_aload_n hx hb dX2_cut_74 rfl (lv_at hl 0 rfl) ?_
        refine va_get (D := (dC, dI)) (ci := 2) (v := .int (cu - 1)) (C := RX2) (T := TX2) (N := 8) hx hb hts inX2 hown hK hP 0 rfl rfl 4 (by decide) (hts (.fieldLink RX2 16 "VineWallModel" "cuts" "I") (List.mem_of_getElem? (i := 2) rfl)) (fun _ h9 => h9) rfl dX2_cut_75 ?_
        exact kr (cu - 1) (upd g ((12 * p1) + p2).toNatClampNeg 2, cu - 1, 0) _ _ _ _ he hP hS dX2_cut_78
      · have he := gv_t cd32 he
        refine lv_iconst (v := 2) hx hb dX2_cut_35 (by decide) ?_
        refine lv_goto (tgt := 40) hx hb dX2_cut_36 (by decide) ?_
        refine va_put (D := (dC, dI)) (ci := 2) (v := .int 2) (ty := .int) (C := RX2) (T := TX2) (N := 8) hx hb hts inX2 tyX2 tyX2_ok nmX2 hown hK hP hD hS 0 rfl rfl 7 (by decide) (hts (.fieldLink RX2 20 "VineWallModel" "thrown" "I") (List.mem_of_getElem? (i := 3) rfl)) (fun _ h9 => h9) rfl (by decide +kernel) rfl rfl (Nat.le_of_ble_eq_true rfl) dX2_cut_40 (fun H locs hP hD hS => ?_)
        have hP : va_P (dC, dI) vwCl (gv_M cI am g be si ge cu pl br 2) H := hP
        have hD : va_D A (gv_M cI am g be si ge cu pl br 2) := hD
        refine lv_aload_n hx hb dX2_cut_43 rfl (lv_at hl 0 rfl) ?_
        refine va_get (D := (dC, dI)) (ci := 2) (v := .int 2) (C := RX2) (T := TX2) (N := 8) hx hb hts inX2 hown hK hP 0 rfl rfl 7 (by decide) (hts (.fieldLink RX2 20 "VineWallModel" "thrown" "I") (List.mem_of_getElem? (i := 3) rfl)) (fun _ h9 => h9) rfl dX2_cut_44 ?_
        refine lv_if_eq (tgt := 52) hx hb dX2_cut_47 (by decide) (fun c => absurd c (by decide)) (fun _ => ?_)
        refine lv_iconst (v := 0) hx hb dX2_cut_50 (by decide) ?_
        exact kr 0 (g, cu, 2) _ _ _ _ he hP hS dX2_cut_51
  · have he := gv_t cd6 he
    refine lv_iconst (v := 1) hx hb dX2_cut_9 (by decide) ?_
    refine lv_goto (tgt := 40) hx hb dX2_cut_10 (by decide) ?_
    refine va_put (D := (dC, dI)) (ci := 2) (v := .int 1) (ty := .int) (C := RX2) (T := TX2) (N := 8) hx hb hts inX2 tyX2 tyX2_ok nmX2 hown hK hP hD hS 0 rfl rfl 7 (by decide) (hts (.fieldLink RX2 20 "VineWallModel" "thrown" "I") (List.mem_of_getElem? (i := 3) rfl)) (fun _ h9 => h9) rfl (by decide +kernel) rfl rfl (Nat.le_of_ble_eq_true rfl) dX2_cut_40 (fun H locs hP hD hS => ?_)
    have hP : va_P (dC, dI) vwCl (gv_M cI am g be si ge cu pl br 1) H := hP
    have hD : va_D A (gv_M cI am g be si ge cu pl br 1) := hD
    refine lv_aload_n hx hb dX2_cut_43 rfl (lv_at hl 0 rfl) ?_
    refine va_get (D := (dC, dI)) (ci := 2) (v := .int 1) (C := RX2) (T := TX2) (N := 8) hx hb hts inX2 hown hK hP 0 rfl rfl 7 (by decide) (hts (.fieldLink RX2 20 "VineWallModel" "thrown" "I") (List.mem_of_getElem? (i := 3) rfl)) (fun _ h9 => h9) rfl dX2_cut_44 ?_
    refine lv_if_eq (tgt := 52) hx hb dX2_cut_47 (by decide) (fun c => absurd c (by decide)) (fun _ => ?_)
    refine lv_iconst (v := 0) hx hb dX2_cut_50 (by decide) ?_
    exact kr 0 (g, cu, 1) _ _ _ _ he hP hS dX2_cut_51
def spX2_grow (g : Nat → Int32) (be : Nat → Int32) (si : Int32) (ge : Int32) (cu : Int32) (pl : Int32) (br : Int32) (th : Int32) : Int32 × (Nat → Int32) × (Int32) × (Int32) × (Int32) × (Int32) := (if ge = 60 then (0, g, ge, cu, br, 1) else gv_b (spX2_allLeaves g be si ge cu pl br 0 0) (fun q29 => gv_b2 (spX2_grows g be si ge cu pl br 0 0 1) (fun q41 g_q41 => gv_b (spX2_copies g_q41 be si ge cu pl (br + q41) 0 1 0) (fun g_q51 => gv_b (spX2_allLeaves g_q51 be si (ge + 1) 3 pl (br + q41) 0 0) (fun q71 => (q71 - q29, g_q51, ge + 1, 3, br + q41, 0))))))
theorem spX2_grow_e (g : Nat → Int32) (be : Nat → Int32) (si : Int32) (ge : Int32) (cu : Int32) (pl : Int32) (br : Int32) (th : Int32) : spX2_grow g be si ge cu pl br th = (if ge = 60 then (0, g, ge, cu, br, 1) else gv_b (spX2_allLeaves g be si ge cu pl br 0 0) (fun q29 => gv_b2 (spX2_grows g be si ge cu pl br 0 0 1) (fun q41 g_q41 => gv_b (spX2_copies g_q41 be si ge cu pl (br + q41) 0 1 0) (fun g_q51 => gv_b (spX2_allLeaves g_q51 be si (ge + 1) 3 pl (br + q41) 0 0) (fun q71 => (q71 - q29, g_q51, ge + 1, 3, br + q41, 0)))))) := rfl
set_option maxHeartbeats 4000000 in
set_option maxRecDepth 100000 in
theorem kX2_grow (l : Launch) (dC : Nat → ClassId) (dI : Nat → Nat → Nat) (cI cL : ClassId) (am : Nat → Nat) (g : Nat → Int32) (be : Nat → Int32) (si : Int32) (ge : Int32) (cu : Int32) (pl : Int32) (br : Int32) (th : Int32) : gv_Mi l yX2_grow wsX2_grow 6 141 (dC, dI) [(cI, .int), (cL, .long)] [.ref (am 0)] (gv_M cI am g be si ge cu pl br th) (fun (r : Int32) (u : (Nat → Int32) × (Int32) × (Int32) × (Int32) × (Int32)) => (r, u) = spX2_grow g be si ge cu pl br th) (fun (u : (Nat → Int32) × (Int32) × (Int32) × (Int32) × (Int32)) => (gv_M cI am u.1 be si u.2.1 u.2.2.1 pl u.2.2.2.1 u.2.2.2.2)) := by
  refine gv_ofi (cc := cX2_grow) (maxL := 2) (own := RX2) (by decide) rfl (Nat.le_of_ble_eq_true rfl) rfl ?_
  intro A p e s m args below meth c Q ls H locs hx hb hml hts hown hP hK hD hN hS hl kr
  have inX2 : ∀ w ∈ wsX20, w ∈ wsX2_grow := (fun _ h => List.mem_cons_of_mem _ (List.mem_append_right _ h))
  have hl : lv_has ls 2 [(0, .ref (am 0))] := hl
  have he := (spX2_grow_e g be si ge cu pl br th).symm
  refine lv_aload_n hx hb dX2_grow_0 rfl (lv_at hl 0 rfl) ?_
  refine lv_aload_n hx hb dX2_grow_1 rfl (lv_at hl 0 rfl) ?_
  refine va_get (D := (dC, dI)) (ci := 2) (v := .int ge) (C := RX2) (T := TX2) (N := 8) hx hb hts inX2 hown hK hP 0 rfl rfl 3 (by decide) (hts (.fieldLink RX2 57 "VineWallModel" "generation" "I") (List.mem_of_getElem? (i := 1) rfl)) (fun _ h9 => h9) rfl dX2_grow_2 ?_
  refine lv_bipush (v := 60) hx hb dX2_grow_5 (by decide) ?_
  refine lv_icmp_ne (tgt := 14) hx hb dX2_grow_7 (by decide) (fun cd7 => ?_) (fun cd7 => ?_)
  · have he := gv_f cd7 he
    refine lv_iconst (v := 0) hx hb dX2_grow_14 (by decide) ?_
    refine va_put (D := (dC, dI)) (ci := 2) (v := .int 0) (ty := .int) (C := RX2) (T := TX2) (N := 8) hx hb hts inX2 tyX2 tyX2_ok nmX2 hown hK hP hD hS 0 rfl rfl 7 (by decide) (hts (.fieldLink RX2 20 "VineWallModel" "thrown" "I") (List.mem_of_getElem? (i := 2) rfl)) (fun _ h9 => h9) rfl (by decide +kernel) rfl rfl (Nat.le_of_ble_eq_true rfl) dX2_grow_15 (fun H locs hP hD hS => ?_)
    have hP : va_P (dC, dI) vwCl (gv_M cI am g be si ge cu pl br 0) H := hP
    have hD : va_D A (gv_M cI am g be si ge cu pl br 0) := hD
    refine lv_aload_n hx hb dX2_grow_18 rfl (lv_at hl 0 rfl) ?_
    refine va_get (D := (dC, dI)) (ci := 2) (v := .int 0) (C := RX2) (T := TX2) (N := 8) hx hb hts inX2 hown hK hP 0 rfl rfl 7 (by decide) (hts (.fieldLink RX2 20 "VineWallModel" "thrown" "I") (List.mem_of_getElem? (i := 2) rfl)) (fun _ h9 => h9) rfl dX2_grow_19 ?_
    refine lv_if_eq (tgt := 27) hx hb dX2_grow_22 (by decide) (fun _ => ?_) (fun c => absurd (by decide) c)
    refine lv_aload_n hx hb dX2_grow_27 rfl (lv_at hl 0 rfl) ?_
    refine lv_iconst (v := 0) hx hb dX2_grow_28 (by decide) ?_
    have hPc : va_P (dC, dI) vwCl (gv_M cI am g be si ge cu pl br 0) H := gv_sub [0, 1, 2] hP rfl
    have hDc : va_D (gv_in (gv_M cI am g be si ge cu pl br 0)) (gv_M cI am g be si ge cu pl br 0) := gv_D hD [0, 1, 2] (by decide) rfl
    refine gv_ki (wf := (fun (_ : Unit) => (gv_M cI am g be si ge cu pl br 0))) (wc := (gv_M cI am g be si ge cu pl br 0)) [0, 1, 2] (fun _ => rfl) hP hD hS rfl rfl (va_runV (As := [.int 0]) (rest := []) ⟨hx, hb, hml, hown, hts⟩ (kX2_allLeaves l dC dI cI cL am g be si ge cu pl br 0 0 0 (rfl : (0 : Int32) = nI 0) (by omega) (gv_in (gv_M cI am g be si ge cu pl br 0))) (cwV (rm := gv_R 4 91) 1 hts gX2_grow_X2_allLeaves rfl rfl rfl (by decide +kernel) ⟨Nat.le_of_ble_eq_true rfl, Nat.le_of_ble_eq_true rfl⟩) (gv_preV (ci := 2) hK hPc hDc hN rfl rfl) rfl rfl hl.1 rfl (lv_room (Nat.le_of_ble_eq_true rfl)) dX2_grow_29 ⟨Nat.zero_le _, Nat.zero_le _⟩) (fun q29 u H locs hw hP hD hS => ?_)
    have he := gv_q hw he
    have hP : va_P (dC, dI) vwCl (gv_M cI am g be si ge cu pl br 0) H := hP
    have hD : va_D A (gv_M cI am g be si ge cu pl br 0) := hD
    refine lv_istore_n (lv' := [(1, .int q29), (0, .ref (am 0))]) hx hb dX2_grow_32 rfl hl (by decide) rfl (fun ls hl => ?_)
    refine lv_aload_n hx hb dX2_grow_33 rfl (lv_at hl 1 rfl) ?_
    refine lv_dup hx hb dX2_grow_34 rfl ?_
    refine va_get (D := (dC, dI)) (ci := 2) (v := .int br) (C := RX2) (T := TX2) (N := 8) hx hb hts inX2 hown hK hP 0 rfl rfl 6 (by decide) (hts (.fieldLink RX2 70 "VineWallModel" "broken" "I") (List.mem_of_getElem? (i := 3) rfl)) (fun _ h9 => h9) rfl dX2_grow_35 ?_
    refine lv_aload_n hx hb dX2_grow_38 rfl (lv_at hl 1 rfl) ?_
    refine lv_iconst (v := 0) hx hb dX2_grow_39 (by decide) ?_
    refine lv_iconst (v := 1) hx hb dX2_grow_40 (by decide) ?_
    have hPc : va_P (dC, dI) vwCl (gv_M cI am g be si ge cu pl br 0) H := gv_sub [0, 1, 2] hP rfl
    have hDc : va_D (gv_in (gv_M cI am g be si ge cu pl br 0)) (gv_M cI am g be si ge cu pl br 0) := gv_D hD [0, 1, 2] (by decide) rfl
    refine gv_ki (wf := (fun (u : (Nat → Int32)) => (gv_M cI am u be si ge cu pl br 0))) (wc := (gv_M cI am g be si ge cu pl br 0)) [0, 1, 2] (fun _ => rfl) hP hD hS rfl rfl (va_runV (As := [.int 0, .int 1]) (rest := [.int br, .ref (am 0)]) ⟨hx, hb, hml, hown, hts⟩ (kX2_grows l dC dI cI cL am g be si ge cu pl br 0 0 0 (rfl : (0 : Int32) = nI 0) 1 1 (rfl : (1 : Int32) = nI 1) (by omega) (by omega) (gv_in (gv_M cI am g be si ge cu pl br 0))) (cwV (rm := gv_R 5 117) 2 hts gX2_grow_X2_grows rfl rfl rfl (by decide +kernel) ⟨Nat.le_of_ble_eq_true rfl, Nat.le_of_ble_eq_true rfl⟩) (gv_preV (ci := 2) hK hPc hDc hN rfl rfl) rfl rfl hl.1 rfl (lv_room (Nat.le_of_ble_eq_true rfl)) dX2_grow_41 ⟨Nat.zero_le _, Nat.zero_le _⟩) (fun q41 u H locs hw hP hD hS => ?_)
    obtain ⟨g_q41, rfl⟩ : ∃ z, z = u := ⟨_, rfl⟩
    have he := gv_q2 hw he
    have hP : va_P (dC, dI) vwCl (gv_M cI am g_q41 be si ge cu pl br 0) H := hP
    have hD : va_D A (gv_M cI am g_q41 be si ge cu pl br 0) := hD
    refine lv_iadd hx hb dX2_grow_44 ?_
    refine va_put (D := (dC, dI)) (ci := 2) (v := .int (br + q41)) (ty := .int) (C := RX2) (T := TX2) (N := 8) hx hb hts inX2 tyX2 tyX2_ok nmX2 hown hK hP hD hS 0 rfl rfl 6 (by decide) (hts (.fieldLink RX2 70 "VineWallModel" "broken" "I") (List.mem_of_getElem? (i := 3) rfl)) (fun _ h9 => h9) rfl (by decide +kernel) rfl rfl (Nat.le_of_ble_eq_true rfl) dX2_grow_45 (fun H locs hP hD hS => ?_)
    have hP : va_P (dC, dI) vwCl (gv_M cI am g_q41 be si ge cu pl (br + q41) 0) H := hP
    have hD : va_D A (gv_M cI am g_q41 be si ge cu pl (br + q41) 0) := hD
    refine lv_aload_n hx hb dX2_grow_48 rfl (lv_at hl 1 rfl) ?_
    refine lv_iconst (v := 1) hx hb dX2_grow_49 (by decide) ?_
    refine lv_iconst (v := 0) hx hb dX2_grow_50 (by decide) ?_
    have hPc : va_P (dC, dI) vwCl (gv_M cI am g_q41 be si ge cu pl (br + q41) 0) H := gv_sub [0, 1, 2] hP rfl
    have hDc : va_D (gv_in (gv_M cI am g_q41 be si ge cu pl (br + q41) 0)) (gv_M cI am g_q41 be si ge cu pl (br + q41) 0) := gv_D hD [0, 1, 2] (by decide) rfl
    refine gv_kv (wf := (fun (u : (Nat → Int32)) => (gv_M cI am u be si ge cu pl (br + q41) 0))) (wc := (gv_M cI am g_q41 be si ge cu pl (br + q41) 0)) [0, 1, 2] (fun _ => rfl) hP hD hS rfl rfl (va_runV (As := [.int 1, .int 0]) (rest := []) ⟨hx, hb, hml, hown, hts⟩ (kX2_copies l dC dI cI cL am g_q41 be si ge cu pl (br + q41) 0 1 1 (rfl : (1 : Int32) = nI 1) 0 0 (rfl : (0 : Int32) = nI 0) (by omega) (by omega) (gv_in (gv_M cI am g_q41 be si ge cu pl (br + q41) 0))) (cwV (rm := gv_R 0 0) 2 hts gX2_grow_X2_copies rfl rfl rfl (by decide +kernel) ⟨Nat.le_of_ble_eq_true rfl, Nat.le_of_ble_eq_true rfl⟩) (gv_preV (ci := 2) hK hPc hDc hN rfl rfl) rfl rfl hl.1 rfl (lv_room (Nat.le_of_ble_eq_true rfl)) dX2_grow_51 ⟨Nat.zero_le _, Nat.zero_le _⟩) (fun u H locs hw hP hD hS => ?_)
    obtain ⟨g_q51, rfl⟩ : ∃ z, z = u := ⟨_, rfl⟩
    have he := gv_q hw he
    have hP : va_P (dC, dI) vwCl (gv_M cI am g_q51 be si ge cu pl (br + q41) 0) H := hP
    have hD : va_D A (gv_M cI am g_q51 be si ge cu pl (br + q41) 0) := hD
    refine lv_aload_n hx hb dX2_grow_54 rfl (lv_at hl 1 rfl) ?_
    refine lv_dup hx hb dX2_grow_55 rfl ?_
    refine va_get (D := (dC, dI)) (ci := 2) (v := .int ge) (C := RX2) (T := TX2) (N := 8) hx hb hts inX2 hown hK hP 0 rfl rfl 3 (by decide) (hts (.fieldLink RX2 57 "VineWallModel" "generation" "I") (List.mem_of_getElem? (i := 1) rfl)) (fun _ h9 => h9) rfl dX2_grow_56 ?_
    refine lv_iconst (v := 1) hx hb dX2_grow_59 (by decide) ?_
    refine lv_iadd hx hb dX2_grow_60 ?_
    refine va_put (D := (dC, dI)) (ci := 2) (v := .int (ge + 1)) (ty := .int) (C := RX2) (T := TX2) (N := 8) hx hb hts inX2 tyX2 tyX2_ok nmX2 hown hK hP hD hS 0 rfl rfl 3 (by decide) (hts (.fieldLink RX2 57 "VineWallModel" "generation" "I") (List.mem_of_getElem? (i := 1) rfl)) (fun _ h9 => h9) rfl (by decide +kernel) rfl rfl (Nat.le_of_ble_eq_true rfl) dX2_grow_61 (fun H locs hP hD hS => ?_)
    have hP : va_P (dC, dI) vwCl (gv_M cI am g_q51 be si (ge + 1) cu pl (br + q41) 0) H := hP
    have hD : va_D A (gv_M cI am g_q51 be si (ge + 1) cu pl (br + q41) 0) := hD
    refine lv_aload_n hx hb dX2_grow_64 rfl (lv_at hl 1 rfl) ?_
    refine lv_iconst (v := 3) hx hb dX2_grow_65 (by decide) ?_
    refine va_put (D := (dC, dI)) (ci := 2) (v := .int 3) (ty := .int) (C := RX2) (T := TX2) (N := 8) hx hb hts inX2 tyX2 tyX2_ok nmX2 hown hK hP hD hS 0 rfl rfl 4 (by decide) (hts (.fieldLink RX2 16 "VineWallModel" "cuts" "I") (List.mem_of_getElem? (i := 4) rfl)) (fun _ h9 => h9) rfl (by decide +kernel) rfl rfl (Nat.le_of_ble_eq_true rfl) dX2_grow_66 (fun H locs hP hD hS => ?_)
    have hP : va_P (dC, dI) vwCl (gv_M cI am g_q51 be si (ge + 1) 3 pl (br + q41) 0) H := hP
    have hD : va_D A (gv_M cI am g_q51 be si (ge + 1) 3 pl (br + q41) 0) := hD
    refine lv_aload_n hx hb dX2_grow_69 rfl (lv_at hl 1 rfl) ?_
    refine lv_iconst (v := 0) hx hb dX2_grow_70 (by decide) ?_
    have hPc : va_P (dC, dI) vwCl (gv_M cI am g_q51 be si (ge + 1) 3 pl (br + q41) 0) H := gv_sub [0, 1, 2] hP rfl
    have hDc : va_D (gv_in (gv_M cI am g_q51 be si (ge + 1) 3 pl (br + q41) 0)) (gv_M cI am g_q51 be si (ge + 1) 3 pl (br + q41) 0) := gv_D hD [0, 1, 2] (by decide) rfl
    refine gv_ki (wf := (fun (_ : Unit) => (gv_M cI am g_q51 be si (ge + 1) 3 pl (br + q41) 0))) (wc := (gv_M cI am g_q51 be si (ge + 1) 3 pl (br + q41) 0)) [0, 1, 2] (fun _ => rfl) hP hD hS rfl rfl (va_runV (As := [.int 0]) (rest := []) ⟨hx, hb, hml, hown, hts⟩ (kX2_allLeaves l dC dI cI cL am g_q51 be si (ge + 1) 3 pl (br + q41) 0 0 0 (rfl : (0 : Int32) = nI 0) (by omega) (gv_in (gv_M cI am g_q51 be si (ge + 1) 3 pl (br + q41) 0))) (cwV (rm := gv_R 4 91) 1 hts gX2_grow_X2_allLeaves rfl rfl rfl (by decide +kernel) ⟨Nat.le_of_ble_eq_true rfl, Nat.le_of_ble_eq_true rfl⟩) (gv_preV (ci := 2) hK hPc hDc hN rfl rfl) rfl rfl hl.1 rfl (lv_room (Nat.le_of_ble_eq_true rfl)) dX2_grow_71 ⟨Nat.zero_le _, Nat.zero_le _⟩) (fun q71 u H locs hw hP hD hS => ?_)
    have he := gv_q hw he
    have hP : va_P (dC, dI) vwCl (gv_M cI am g_q51 be si (ge + 1) 3 pl (br + q41) 0) H := hP
    have hD : va_D A (gv_M cI am g_q51 be si (ge + 1) 3 pl (br + q41) 0) := hD
    refine lv_iload_n hx hb dX2_grow_74 rfl (lv_at hl 0 rfl) ?_
    refine lv_isub hx hb dX2_grow_75 ?_
    exact kr (q71 - q29) (g_q51, ge + 1, 3, br + q41, 0) _ _ _ _ he hP hS dX2_grow_76
  · have he := gv_t cd7 he
    refine lv_iconst (v := 1) hx hb dX2_grow_10 (by decide) ?_
    refine lv_goto (tgt := 15) hx hb dX2_grow_11 (by decide) ?_
    refine va_put (D := (dC, dI)) (ci := 2) (v := .int 1) (ty := .int) (C := RX2) (T := TX2) (N := 8) hx hb hts inX2 tyX2 tyX2_ok nmX2 hown hK hP hD hS 0 rfl rfl 7 (by decide) (hts (.fieldLink RX2 20 "VineWallModel" "thrown" "I") (List.mem_of_getElem? (i := 2) rfl)) (fun _ h9 => h9) rfl (by decide +kernel) rfl rfl (Nat.le_of_ble_eq_true rfl) dX2_grow_15 (fun H locs hP hD hS => ?_)
    have hP : va_P (dC, dI) vwCl (gv_M cI am g be si ge cu pl br 1) H := hP
    have hD : va_D A (gv_M cI am g be si ge cu pl br 1) := hD
    refine lv_aload_n hx hb dX2_grow_18 rfl (lv_at hl 0 rfl) ?_
    refine va_get (D := (dC, dI)) (ci := 2) (v := .int 1) (C := RX2) (T := TX2) (N := 8) hx hb hts inX2 hown hK hP 0 rfl rfl 7 (by decide) (hts (.fieldLink RX2 20 "VineWallModel" "thrown" "I") (List.mem_of_getElem? (i := 2) rfl)) (fun _ h9 => h9) rfl dX2_grow_19 ?_
    refine lv_if_eq (tgt := 27) hx hb dX2_grow_22 (by decide) (fun c => absurd c (by decide)) (fun _ => ?_)
    refine lv_iconst (v := 0) hx hb dX2_grow_25 (by decide) ?_
    exact kr 0 (g, ge, cu, br, 1) _ _ _ _ he hP hS dX2_grow_26
def lpX2_clear_7 (be_c : Nat → Int32) (si_c : Int32) (ge_c : Int32) (cu_c : Int32) (pl_c : Int32) (br_c : Int32) (th_c : Int32) : Nat → Nat → (Nat → Int32) → (Nat → Int32) × (Int32) × (Int32) × (Int32) × (Int32) × (Int32)
  | 0, _, g_7 => (g_7, 0, 3, 0, 0, th_c)
  | n7 + 1, i7, g_7 => lpX2_clear_7 be_c si_c ge_c cu_c pl_c br_c th_c n7 (i7 + 1) (upd g_7 i7 0)
theorem lpX2_clear_7_0 (be_c : Nat → Int32) (si_c : Int32) (ge_c : Int32) (cu_c : Int32) (pl_c : Int32) (br_c : Int32) (th_c : Int32) (i7 : Nat) (g_7 : Nat → Int32) : lpX2_clear_7 be_c si_c ge_c cu_c pl_c br_c th_c 0 i7 g_7 = (g_7, 0, 3, 0, 0, th_c) := rfl
theorem lpX2_clear_7_s (be_c : Nat → Int32) (si_c : Int32) (ge_c : Int32) (cu_c : Int32) (pl_c : Int32) (br_c : Int32) (th_c : Int32) (n7 : Nat) (i7 : Nat) (g_7 : Nat → Int32) : lpX2_clear_7 be_c si_c ge_c cu_c pl_c br_c th_c (n7 + 1) i7 g_7 = lpX2_clear_7 be_c si_c ge_c cu_c pl_c br_c th_c n7 (i7 + 1) (upd g_7 i7 0) := rfl
def spX2_clear (g : Nat → Int32) (be : Nat → Int32) (si : Int32) (ge : Int32) (cu : Int32) (pl : Int32) (br : Int32) (th : Int32) : (Nat → Int32) × (Int32) × (Int32) × (Int32) × (Int32) × (Int32) := lpX2_clear_7 be si ge cu pl br 0 96 0 g
theorem spX2_clear_e (g : Nat → Int32) (be : Nat → Int32) (si : Int32) (ge : Int32) (cu : Int32) (pl : Int32) (br : Int32) (th : Int32) : spX2_clear g be si ge cu pl br th = lpX2_clear_7 be si ge cu pl br 0 96 0 g := rfl
set_option maxHeartbeats 4000000 in
set_option maxRecDepth 100000 in
theorem kX2_clear (l : Launch) (dC : Nat → ClassId) (dI : Nat → Nat → Nat) (cI cL : ClassId) (am : Nat → Nat) (g : Nat → Int32) (be : Nat → Int32) (si : Int32) (ge : Int32) (cu : Int32) (pl : Int32) (br : Int32) (th : Int32) : gv_Mv l yX2_clear wsX2_clear 0 0 (dC, dI) [(cI, .int), (cL, .long)] [.ref (am 0)] (gv_M cI am g be si ge cu pl br th) (fun (u : (Nat → Int32) × (Int32) × (Int32) × (Int32) × (Int32) × (Int32)) => u = spX2_clear g be si ge cu pl br th) (fun (u : (Nat → Int32) × (Int32) × (Int32) × (Int32) × (Int32) × (Int32)) => (gv_M cI am u.1 be si u.2.1 u.2.2.1 u.2.2.2.1 u.2.2.2.2.1 u.2.2.2.2.2)) := by
  refine gv_ofv (cc := cX2_clear) (maxL := 2) (own := RX2) (by decide) rfl (Nat.le_of_ble_eq_true rfl) rfl ?_
  intro A p e s m args below meth c Q ls H locs hx hb hml hts hown hP hK hD hN hS hl kr
  have inX2 : ∀ w ∈ wsX20, w ∈ wsX2_clear := (fun _ h => List.mem_cons_of_mem _ (List.mem_append_right _ h))
  have hl : lv_has ls 2 [(0, .ref (am 0))] := hl
  have he := (spX2_clear_e g be si ge cu pl br th).symm
  refine lv_aload_n hx hb dX2_clear_0 rfl (lv_at hl 0 rfl) ?_
  refine lv_iconst (v := 0) hx hb dX2_clear_1 (by decide) ?_
  refine va_put (D := (dC, dI)) (ci := 2) (v := .int 0) (ty := .int) (C := RX2) (T := TX2) (N := 8) hx hb hts inX2 tyX2 tyX2_ok nmX2 hown hK hP hD hS 0 rfl rfl 7 (by decide) (hts (.fieldLink RX2 20 "VineWallModel" "thrown" "I") (List.mem_of_getElem? (i := 1) rfl)) (fun _ h9 => h9) rfl (by decide +kernel) rfl rfl (Nat.le_of_ble_eq_true rfl) dX2_clear_2 (fun H locs hP hD hS => ?_)
  have hP : va_P (dC, dI) vwCl (gv_M cI am g be si ge cu pl br 0) H := hP
  have hD : va_D A (gv_M cI am g be si ge cu pl br 0) := hD
  refine lv_iconst (v := 0) hx hb dX2_clear_5 (by decide) ?_
  refine lv_istore_n (lv' := [(1, .int 0), (0, .ref (am 0))]) hx hb dX2_clear_6 rfl hl (by decide) rfl (fun ls hl => ?_)
  have L7 : ∀ (n7 i7 : Nat) (g_7 : Nat → Int32) (H : Heap) (locs : List Loc) (ls : Array Slot), i7 + n7 = 96 → lpX2_clear_7 be si ge cu pl br 0 n7 i7 g_7 = spX2_clear g be si ge cu pl br th → va_P (dC, dI) vwCl (gv_M cI am g_7 be si ge cu pl br 0) H → va_D A (gv_M cI am g_7 be si ge cu pl br 0) → va_S A s.heap H locs → lv_has ls 2 [(0, .ref (am 0)), (1, .int (nI i7))] → W p l e (gv_R 0 0) s m args below meth c H locs 0 0 Q (F0 m 7 ls []) := by
    intro n7
    induction n7 with
    | zero =>
      intro i7 g_7 H locs ls hi7 he hP hD hS hl
      have he := (lpX2_clear_7_0 _ _ _ _ _ _ _ _ _).symm.trans he
      refine lv_iload_n hx hb dX2_clear_7 rfl (lv_at hl 1 rfl) ?_
      refine lv_bipush (v := 96) hx hb dX2_clear_8 (by decide) ?_
      refine lv_icmp_ge (tgt := 26) hx hb dX2_clear_10 (by decide) (fun _ => ?_) (fun c => absurd c (gv_ge (N := 96) rfl (rfl : (96 : Int32) = nI 96) (by omega) (by omega)))
      refine lv_aload_n hx hb dX2_clear_26 rfl (lv_at hl 0 rfl) ?_
      refine lv_iconst (v := 0) hx hb dX2_clear_27 (by decide) ?_
      refine va_put (D := (dC, dI)) (ci := 2) (v := .int 0) (ty := .int) (C := RX2) (T := TX2) (N := 8) hx hb hts inX2 tyX2 tyX2_ok nmX2 hown hK hP hD hS 0 rfl rfl 3 (by decide) (hts (.fieldLink RX2 57 "VineWallModel" "generation" "I") (List.mem_of_getElem? (i := 3) rfl)) (fun _ h9 => h9) rfl (by decide +kernel) rfl rfl (Nat.le_of_ble_eq_true rfl) dX2_clear_28 (fun H locs hP hD hS => ?_)
      have hP : va_P (dC, dI) vwCl (gv_M cI am g_7 be si 0 cu pl br 0) H := hP
      have hD : va_D A (gv_M cI am g_7 be si 0 cu pl br 0) := hD
      refine lv_aload_n hx hb dX2_clear_31 rfl (lv_at hl 0 rfl) ?_
      refine lv_iconst (v := 3) hx hb dX2_clear_32 (by decide) ?_
      refine va_put (D := (dC, dI)) (ci := 2) (v := .int 3) (ty := .int) (C := RX2) (T := TX2) (N := 8) hx hb hts inX2 tyX2 tyX2_ok nmX2 hown hK hP hD hS 0 rfl rfl 4 (by decide) (hts (.fieldLink RX2 16 "VineWallModel" "cuts" "I") (List.mem_of_getElem? (i := 4) rfl)) (fun _ h9 => h9) rfl (by decide +kernel) rfl rfl (Nat.le_of_ble_eq_true rfl) dX2_clear_33 (fun H locs hP hD hS => ?_)
      have hP : va_P (dC, dI) vwCl (gv_M cI am g_7 be si 0 3 pl br 0) H := hP
      have hD : va_D A (gv_M cI am g_7 be si 0 3 pl br 0) := hD
      refine lv_aload_n hx hb dX2_clear_36 rfl (lv_at hl 0 rfl) ?_
      refine lv_iconst (v := 0) hx hb dX2_clear_37 (by decide) ?_
      refine va_put (D := (dC, dI)) (ci := 2) (v := .int 0) (ty := .int) (C := RX2) (T := TX2) (N := 8) hx hb hts inX2 tyX2 tyX2_ok nmX2 hown hK hP hD hS 0 rfl rfl 5 (by decide) (hts (.fieldLink RX2 60 "VineWallModel" "planted" "I") (List.mem_of_getElem? (i := 5) rfl)) (fun _ h9 => h9) rfl (by decide +kernel) rfl rfl (Nat.le_of_ble_eq_true rfl) dX2_clear_38 (fun H locs hP hD hS => ?_)
      have hP : va_P (dC, dI) vwCl (gv_M cI am g_7 be si 0 3 0 br 0) H := hP
      have hD : va_D A (gv_M cI am g_7 be si 0 3 0 br 0) := hD
      refine lv_aload_n hx hb dX2_clear_41 rfl (lv_at hl 0 rfl) ?_
      refine lv_iconst (v := 0) hx hb dX2_clear_42 (by decide) ?_
      refine va_put (D := (dC, dI)) (ci := 2) (v := .int 0) (ty := .int) (C := RX2) (T := TX2) (N := 8) hx hb hts inX2 tyX2 tyX2_ok nmX2 hown hK hP hD hS 0 rfl rfl 6 (by decide) (hts (.fieldLink RX2 70 "VineWallModel" "broken" "I") (List.mem_of_getElem? (i := 6) rfl)) (fun _ h9 => h9) rfl (by decide +kernel) rfl rfl (Nat.le_of_ble_eq_true rfl) dX2_clear_43 (fun H locs hP hD hS => ?_)
      have hP : va_P (dC, dI) vwCl (gv_M cI am g_7 be si 0 3 0 0 0) H := hP
      have hD : va_D A (gv_M cI am g_7 be si 0 3 0 0 0) := hD
      exact kr (g_7, 0, 3, 0, 0, 0) _ _ _ _ he hP hS dX2_clear_46
    | succ n7 ih7 =>
      intro i7 g_7 H locs ls hi7 he hP hD hS hl
      have he := (lpX2_clear_7_s _ _ _ _ _ _ _ _ _ _).symm.trans he
      refine lv_iload_n hx hb dX2_clear_7 rfl (lv_at hl 1 rfl) ?_
      refine lv_bipush (v := 96) hx hb dX2_clear_8 (by decide) ?_
      refine lv_icmp_ge (tgt := 26) hx hb dX2_clear_10 (by decide) (fun c => absurd c (gv_lt (N := 96) rfl (rfl : (96 : Int32) = nI 96) (by omega) (by omega))) (fun _ => ?_)
      refine lv_aload_n hx hb dX2_clear_13 rfl (lv_at hl 0 rfl) ?_
      refine va_get (D := (dC, dI)) (ci := 2) (v := .ref (am 1)) (C := RX2) (T := TX2) (N := 8) hx hb hts inX2 hown hK hP 0 rfl rfl 0 (by decide) (hts (.fieldLink RX2 7 "VineWallModel" "walls" "[I") (List.mem_of_getElem? (i := 2) rfl)) (fun _ h9 => h9) rfl dX2_clear_14 ?_
      refine lv_iload_n hx hb dX2_clear_17 rfl (lv_at hl 1 rfl) ?_
      refine lv_iconst (v := 0) hx hb dX2_clear_18 (by decide) ?_
      refine gv_iast (cA := cI) (k := i7) hx hb hK hP hD hS 1 0 rfl rfl rfl (by omega) (by decide) dX2_clear_19 (fun H locs hP hD hS => ?_)
      have hP : va_P (dC, dI) vwCl (gv_M cI am (upd g_7 i7 0) be si ge cu pl br 0) H := hP
      have hD : va_D A (gv_M cI am (upd g_7 i7 0) be si ge cu pl br 0) := hD
      refine lv_iinc (v := (nI (i7 + 1))) (lv' := [(1, .int (nI (i7 + 1))), (0, .ref (am 0))]) hx hb dX2_clear_20 hl (k := 1) rfl (nI_1 i7) (by decide) rfl (fun ls hl => ?_)
      refine lv_goto (tgt := 7) hx hb dX2_clear_23 (by decide) ?_
      exact ih7 (i7 + 1) (upd g_7 i7 0) _ _ _ (by omega) he hP hD hS (lv_sub hl [1, 0] rfl)
  exact L7 96 0 g _ _ _ (by omega) he hP hD hS (lv_sub hl [1, 0] rfl)
def spX2_look (g : Nat → Int32) (be : Nat → Int32) (si : Int32) (ge : Int32) (cu : Int32) (pl : Int32) (br : Int32) (th : Int32) (p1 : Int32) (p2 : Int32) : Int32 × (Int32) := gv_b (spX2_isCell p1 p2) (fun q3 => (if q3 = 0 then (46, 1) else (if (g ((12 * p1) + p2).toNatClampNeg) = 1 then (35, 0) else (if (g ((12 * p1) + p2).toNatClampNeg) = 2 then (120, 0) else (46, 0)))))
theorem spX2_look_e (g : Nat → Int32) (be : Nat → Int32) (si : Int32) (ge : Int32) (cu : Int32) (pl : Int32) (br : Int32) (th : Int32) (p1 : Int32) (p2 : Int32) : spX2_look g be si ge cu pl br th p1 p2 = gv_b (spX2_isCell p1 p2) (fun q3 => (if q3 = 0 then (46, 1) else (if (g ((12 * p1) + p2).toNatClampNeg) = 1 then (35, 0) else (if (g ((12 * p1) + p2).toNatClampNeg) = 2 then (120, 0) else (46, 0))))) := rfl
set_option maxHeartbeats 4000000 in
set_option maxRecDepth 100000 in
theorem kX2_look (l : Launch) (dC : Nat → ClassId) (dI : Nat → Nat → Nat) (cI cL : ClassId) (am : Nat → Nat) (g : Nat → Int32) (be : Nat → Int32) (si : Int32) (ge : Int32) (cu : Int32) (pl : Int32) (br : Int32) (th : Int32) (p1 : Int32) (p2 : Int32) : gv_Mi l yX2_look wsX2_look 2 41 (dC, dI) [(cI, .int), (cL, .long)] [.ref (am 0), .int p1, .int p2] (gv_M cI am g be si ge cu pl br th) (fun (r : Int32) (u : (Int32)) => (r, u) = spX2_look g be si ge cu pl br th p1 p2) (fun (u : (Int32)) => (gv_M cI am g be si ge cu pl br u)) := by
  refine gv_ofz (cc := cX2_look) (maxL := 4) (own := RX2) (ty := .char) (by decide) rfl (Nat.le_of_ble_eq_true rfl) rfl ?_
  intro A p e s m args below meth c Q ls H locs hx hb hml hts hown hP hK hD hN hS hl kr
  have inX2 : ∀ w ∈ wsX20, w ∈ wsX2_look := (fun _ h => List.mem_cons_of_mem _ (List.mem_append_right _ h))
  have hl : lv_has ls 4 [(0, .ref (am 0)), (1, .int p1), (2, .int p2)] := hl
  have he := (spX2_look_e g be si ge cu pl br th p1 p2).symm
  refine lv_aload_n hx hb dX2_look_0 rfl (lv_at hl 0 rfl) ?_
  refine lv_iload_n hx hb dX2_look_1 rfl (lv_at hl 1 rfl) ?_
  refine lv_iload_n hx hb dX2_look_2 rfl (lv_at hl 2 rfl) ?_
  have hPc : va_P (dC, dI) vwCl ([] : va_W) H := gv_P0
  have hDc : va_D (gv_in ([] : va_W)) ([] : va_W) := gv_D0
  refine gv_ki (wf := (fun (_ : Unit) => ([] : va_W))) (wc := ([] : va_W)) [] (fun _ => rfl) hP hD hS rfl rfl (va_runS (As := [.int p1, .int p2]) (rest := [.ref (am 0)]) ⟨hx, hb, hml, hown, hts⟩ (kX2_isCell l dC dI cI cL p1 p2 (gv_in ([] : va_W))) (va_cwS (rm := gv_R 1 20) 2 hts gX2_look_X2_isCell rfl rfl rfl (by decide +kernel) ⟨Nat.le_of_ble_eq_true rfl, Nat.le_of_ble_eq_true rfl⟩) (gv_preS hK hPc hDc hN) rfl rfl hl.1 rfl (lv_room (Nat.le_of_ble_eq_true rfl)) dX2_look_3 ⟨Nat.zero_le _, Nat.zero_le _⟩) (fun q3 u H locs hw hP hD hS => ?_)
  have he := gv_q hw he
  have hP : va_P (dC, dI) vwCl (gv_M cI am g be si ge cu pl br th) H := hP
  have hD : va_D A (gv_M cI am g be si ge cu pl br th) := hD
  refine lv_if_eq (tgt := 13) hx hb dX2_look_6 (by decide) (fun cd6 => ?_) (fun cd6 => ?_)
  · have he := gv_t cd6 he
    refine lv_iconst (v := 1) hx hb dX2_look_13 (by decide) ?_
    refine va_put (D := (dC, dI)) (ci := 2) (v := .int 1) (ty := .int) (C := RX2) (T := TX2) (N := 8) hx hb hts inX2 tyX2 tyX2_ok nmX2 hown hK hP hD hS 0 rfl rfl 7 (by decide) (hts (.fieldLink RX2 20 "VineWallModel" "thrown" "I") (List.mem_of_getElem? (i := 1) rfl)) (fun _ h9 => h9) rfl (by decide +kernel) rfl rfl (Nat.le_of_ble_eq_true rfl) dX2_look_14 (fun H locs hP hD hS => ?_)
    have hP : va_P (dC, dI) vwCl (gv_M cI am g be si ge cu pl br 1) H := hP
    have hD : va_D A (gv_M cI am g be si ge cu pl br 1) := hD
    refine lv_aload_n hx hb dX2_look_17 rfl (lv_at hl 0 rfl) ?_
    refine va_get (D := (dC, dI)) (ci := 2) (v := .int 1) (C := RX2) (T := TX2) (N := 8) hx hb hts inX2 hown hK hP 0 rfl rfl 7 (by decide) (hts (.fieldLink RX2 20 "VineWallModel" "thrown" "I") (List.mem_of_getElem? (i := 1) rfl)) (fun _ h9 => h9) rfl dX2_look_18 ?_
    refine lv_if_ne (tgt := 38) hx hb dX2_look_21 (by decide) (fun _ => ?_) (fun c => absurd c (by decide))
    refine lv_iconst (v := 0) hx hb dX2_look_38 (by decide) ?_
    refine lv_istore_n (lv' := [(3, .int 0), (0, .ref (am 0)), (1, .int p1), (2, .int p2)]) hx hb dX2_look_39 rfl hl (by decide) rfl (fun ls hl => ?_)
    refine lv_iload_n hx hb dX2_look_40 rfl (lv_at hl 0 rfl) ?_
    refine lv_iconst (v := 1) hx hb dX2_look_41 (by decide) ?_
    refine lv_icmp_ne (tgt := 50) hx hb dX2_look_42 (by decide) (fun _ => ?_) (fun c => absurd c (by decide))
    refine lv_iload_n hx hb dX2_look_50 rfl (lv_at hl 0 rfl) ?_
    refine lv_iconst (v := 2) hx hb dX2_look_51 (by decide) ?_
    refine lv_icmp_ne (tgt := 60) hx hb dX2_look_52 (by decide) (fun _ => ?_) (fun c => absurd c (by decide))
    refine lv_bipush (v := 46) hx hb dX2_look_60 (by decide) ?_
    exact kr 46 1 _ _ _ _ rfl he hP hS dX2_look_62
  · have he := gv_f cd6 he
    have hv7 := gm_cellM hw cd6
    have hv8 := gm_ix2 hv7.1 hv7.2
    refine lv_iconst (v := 0) hx hb dX2_look_9 (by decide) ?_
    refine lv_goto (tgt := 14) hx hb dX2_look_10 (by decide) ?_
    refine va_put (D := (dC, dI)) (ci := 2) (v := .int 0) (ty := .int) (C := RX2) (T := TX2) (N := 8) hx hb hts inX2 tyX2 tyX2_ok nmX2 hown hK hP hD hS 0 rfl rfl 7 (by decide) (hts (.fieldLink RX2 20 "VineWallModel" "thrown" "I") (List.mem_of_getElem? (i := 1) rfl)) (fun _ h9 => h9) rfl (by decide +kernel) rfl rfl (Nat.le_of_ble_eq_true rfl) dX2_look_14 (fun H locs hP hD hS => ?_)
    have hP : va_P (dC, dI) vwCl (gv_M cI am g be si ge cu pl br 0) H := hP
    have hD : va_D A (gv_M cI am g be si ge cu pl br 0) := hD
    refine lv_aload_n hx hb dX2_look_17 rfl (lv_at hl 0 rfl) ?_
    refine va_get (D := (dC, dI)) (ci := 2) (v := .int 0) (C := RX2) (T := TX2) (N := 8) hx hb hts inX2 hown hK hP 0 rfl rfl 7 (by decide) (hts (.fieldLink RX2 20 "VineWallModel" "thrown" "I") (List.mem_of_getElem? (i := 1) rfl)) (fun _ h9 => h9) rfl dX2_look_18 ?_
    refine lv_if_ne (tgt := 38) hx hb dX2_look_21 (by decide) (fun c => absurd (by decide) c) (fun _ => ?_)
    refine lv_aload_n hx hb dX2_look_24 rfl (lv_at hl 0 rfl) ?_
    refine va_get (D := (dC, dI)) (ci := 2) (v := .ref (am 1)) (C := RX2) (T := TX2) (N := 8) hx hb hts inX2 hown hK hP 0 rfl rfl 0 (by decide) (hts (.fieldLink RX2 7 "VineWallModel" "walls" "[I") (List.mem_of_getElem? (i := 2) rfl)) (fun _ h9 => h9) rfl dX2_look_25 ?_
    refine lv_bipush (v := 12) hx hb dX2_look_28 (by decide) ?_
    refine lv_iload_n hx hb dX2_look_30 rfl (lv_at hl 1 rfl) ?_
    refine lv_imul hx hb dX2_look_31 ?_
    refine lv_iload_n hx hb dX2_look_32 rfl (lv_at hl 2 rfl) ?_
    refine lv_iadd hx hb dX2_look_33 ?_
    refine va_iald (cA := cI) hx hb hK hP 1 0 rfl rfl hv8 dX2_look_34 ?_
    refine lv_goto (tgt := 39) hx hb dX2_look_35 (by decide) ?_
    refine lv_istore_n (lv' := [(3, .int (g ((12 * p1) + p2).toNatClampNeg)), (0, .ref (am 0)), (1, .int p1), (2, .int p2)]) hx hb dX2_look_39 rfl hl (by decide) rfl (fun ls hl => ?_)
    refine lv_iload_n hx hb dX2_look_40 rfl (lv_at hl 0 rfl) ?_
    refine lv_iconst (v := 1) hx hb dX2_look_41 (by decide) ?_
    refine lv_icmp_ne (tgt := 50) hx hb dX2_look_42 (by decide) (fun cd42 => ?_) (fun cd42 => ?_)
    · have he := gv_f cd42 he
      refine lv_iload_n hx hb dX2_look_50 rfl (lv_at hl 0 rfl) ?_
      refine lv_iconst (v := 2) hx hb dX2_look_51 (by decide) ?_
      refine lv_icmp_ne (tgt := 60) hx hb dX2_look_52 (by decide) (fun cd52 => ?_) (fun cd52 => ?_)
      · have he := gv_f cd52 he
        refine lv_bipush (v := 46) hx hb dX2_look_60 (by decide) ?_
        exact kr 46 0 _ _ _ _ rfl he hP hS dX2_look_62
      · have he := gv_t cd52 he
        refine lv_bipush (v := 120) hx hb dX2_look_55 (by decide) ?_
        refine lv_goto (tgt := 62) hx hb dX2_look_57 (by decide) ?_
        exact kr 120 0 _ _ _ _ rfl he hP hS dX2_look_62
    · have he := gv_t cd42 he
      refine lv_bipush (v := 35) hx hb dX2_look_45 (by decide) ?_
      refine lv_goto (tgt := 62) hx hb dX2_look_47 (by decide) ?_
      exact kr 35 0 _ _ _ _ rfl he hP hS dX2_look_62
def spX2_shadeOf (g : Nat → Int32) (be : Nat → Int32) (si : Int32) (ge : Int32) (cu : Int32) (pl : Int32) (br : Int32) (th : Int32) (p1 : Int32) (p2 : Int32) : Int32 × (Int32) := gv_b (spX2_isCell p1 p2) (fun q3 => (if q3 = 0 then (0, 1) else gv_b (spX2_shade g be si ge cu pl br 0 0 (p1.toNatClampNeg + 1) p2) (fun q28 => (q28, 0))))
theorem spX2_shadeOf_e (g : Nat → Int32) (be : Nat → Int32) (si : Int32) (ge : Int32) (cu : Int32) (pl : Int32) (br : Int32) (th : Int32) (p1 : Int32) (p2 : Int32) : spX2_shadeOf g be si ge cu pl br th p1 p2 = gv_b (spX2_isCell p1 p2) (fun q3 => (if q3 = 0 then (0, 1) else gv_b (spX2_shade g be si ge cu pl br 0 0 (p1.toNatClampNeg + 1) p2) (fun q28 => (q28, 0)))) := rfl
set_option maxHeartbeats 4000000 in
set_option maxRecDepth 100000 in
theorem kX2_shadeOf (l : Launch) (dC : Nat → ClassId) (dI : Nat → Nat → Nat) (cI cL : ClassId) (am : Nat → Nat) (g : Nat → Int32) (be : Nat → Int32) (si : Int32) (ge : Int32) (cu : Int32) (pl : Int32) (br : Int32) (th : Int32) (p1 : Int32) (p2 : Int32) : gv_Mi l yX2_shadeOf wsX2_shadeOf 3 69 (dC, dI) [(cI, .int), (cL, .long)] [.ref (am 0), .int p1, .int p2] (gv_M cI am g be si ge cu pl br th) (fun (r : Int32) (u : (Int32)) => (r, u) = spX2_shadeOf g be si ge cu pl br th p1 p2) (fun (u : (Int32)) => (gv_M cI am g be si ge cu pl br u)) := by
  refine gv_ofi (cc := cX2_shadeOf) (maxL := 3) (own := RX2) (by decide) rfl (Nat.le_of_ble_eq_true rfl) rfl ?_
  intro A p e s m args below meth c Q ls H locs hx hb hml hts hown hP hK hD hN hS hl kr
  have inX2 : ∀ w ∈ wsX20, w ∈ wsX2_shadeOf := (fun _ h => List.mem_cons_of_mem _ (List.mem_append_right _ h))
  have hl : lv_has ls 3 [(0, .ref (am 0)), (1, .int p1), (2, .int p2)] := hl
  have he := (spX2_shadeOf_e g be si ge cu pl br th p1 p2).symm
  refine lv_aload_n hx hb dX2_shadeOf_0 rfl (lv_at hl 0 rfl) ?_
  refine lv_iload_n hx hb dX2_shadeOf_1 rfl (lv_at hl 1 rfl) ?_
  refine lv_iload_n hx hb dX2_shadeOf_2 rfl (lv_at hl 2 rfl) ?_
  have hPc : va_P (dC, dI) vwCl ([] : va_W) H := gv_P0
  have hDc : va_D (gv_in ([] : va_W)) ([] : va_W) := gv_D0
  refine gv_ki (wf := (fun (_ : Unit) => ([] : va_W))) (wc := ([] : va_W)) [] (fun _ => rfl) hP hD hS rfl rfl (va_runS (As := [.int p1, .int p2]) (rest := [.ref (am 0)]) ⟨hx, hb, hml, hown, hts⟩ (kX2_isCell l dC dI cI cL p1 p2 (gv_in ([] : va_W))) (va_cwS (rm := gv_R 1 20) 2 hts gX2_shadeOf_X2_isCell rfl rfl rfl (by decide +kernel) ⟨Nat.le_of_ble_eq_true rfl, Nat.le_of_ble_eq_true rfl⟩) (gv_preS hK hPc hDc hN) rfl rfl hl.1 rfl (lv_room (Nat.le_of_ble_eq_true rfl)) dX2_shadeOf_3 ⟨Nat.zero_le _, Nat.zero_le _⟩) (fun q3 u H locs hw hP hD hS => ?_)
  have he := gv_q hw he
  have hP : va_P (dC, dI) vwCl (gv_M cI am g be si ge cu pl br th) H := hP
  have hD : va_D A (gv_M cI am g be si ge cu pl br th) := hD
  refine lv_if_eq (tgt := 13) hx hb dX2_shadeOf_6 (by decide) (fun cd6 => ?_) (fun cd6 => ?_)
  · have he := gv_t cd6 he
    refine lv_iconst (v := 1) hx hb dX2_shadeOf_13 (by decide) ?_
    refine va_put (D := (dC, dI)) (ci := 2) (v := .int 1) (ty := .int) (C := RX2) (T := TX2) (N := 8) hx hb hts inX2 tyX2 tyX2_ok nmX2 hown hK hP hD hS 0 rfl rfl 7 (by decide) (hts (.fieldLink RX2 20 "VineWallModel" "thrown" "I") (List.mem_of_getElem? (i := 1) rfl)) (fun _ h9 => h9) rfl (by decide +kernel) rfl rfl (Nat.le_of_ble_eq_true rfl) dX2_shadeOf_14 (fun H locs hP hD hS => ?_)
    have hP : va_P (dC, dI) vwCl (gv_M cI am g be si ge cu pl br 1) H := hP
    have hD : va_D A (gv_M cI am g be si ge cu pl br 1) := hD
    refine lv_aload_n hx hb dX2_shadeOf_17 rfl (lv_at hl 0 rfl) ?_
    refine va_get (D := (dC, dI)) (ci := 2) (v := .int 1) (C := RX2) (T := TX2) (N := 8) hx hb hts inX2 hown hK hP 0 rfl rfl 7 (by decide) (hts (.fieldLink RX2 20 "VineWallModel" "thrown" "I") (List.mem_of_getElem? (i := 1) rfl)) (fun _ h9 => h9) rfl dX2_shadeOf_18 ?_
    refine lv_if_ne (tgt := 34) hx hb dX2_shadeOf_21 (by decide) (fun _ => ?_) (fun c => absurd c (by decide))
    refine lv_iconst (v := 0) hx hb dX2_shadeOf_34 (by decide) ?_
    exact kr 0 1 _ _ _ _ he hP hS dX2_shadeOf_35
  · have he := gv_f cd6 he
    have hv7 := gm_cellM hw cd6
    obtain ⟨hk1, hb1⟩ := gm_nat hv7.1 (by decide)
    refine lv_iconst (v := 0) hx hb dX2_shadeOf_9 (by decide) ?_
    refine lv_goto (tgt := 14) hx hb dX2_shadeOf_10 (by decide) ?_
    refine va_put (D := (dC, dI)) (ci := 2) (v := .int 0) (ty := .int) (C := RX2) (T := TX2) (N := 8) hx hb hts inX2 tyX2 tyX2_ok nmX2 hown hK hP hD hS 0 rfl rfl 7 (by decide) (hts (.fieldLink RX2 20 "VineWallModel" "thrown" "I") (List.mem_of_getElem? (i := 1) rfl)) (fun _ h9 => h9) rfl (by decide +kernel) rfl rfl (Nat.le_of_ble_eq_true rfl) dX2_shadeOf_14 (fun H locs hP hD hS => ?_)
    have hP : va_P (dC, dI) vwCl (gv_M cI am g be si ge cu pl br 0) H := hP
    have hD : va_D A (gv_M cI am g be si ge cu pl br 0) := hD
    refine lv_aload_n hx hb dX2_shadeOf_17 rfl (lv_at hl 0 rfl) ?_
    refine va_get (D := (dC, dI)) (ci := 2) (v := .int 0) (C := RX2) (T := TX2) (N := 8) hx hb hts inX2 hown hK hP 0 rfl rfl 7 (by decide) (hts (.fieldLink RX2 20 "VineWallModel" "thrown" "I") (List.mem_of_getElem? (i := 1) rfl)) (fun _ h9 => h9) rfl dX2_shadeOf_18 ?_
    refine lv_if_ne (tgt := 34) hx hb dX2_shadeOf_21 (by decide) (fun c => absurd (by decide) c) (fun _ => ?_)
    refine lv_aload_n hx hb dX2_shadeOf_24 rfl (lv_at hl 0 rfl) ?_
    refine lv_iconst (v := 0) hx hb dX2_shadeOf_25 (by decide) ?_
    refine lv_iload_n hx hb dX2_shadeOf_26 rfl (lv_at hl 1 rfl) ?_
    refine lv_iload_n hx hb dX2_shadeOf_27 rfl (lv_at hl 2 rfl) ?_
    have hPc : va_P (dC, dI) vwCl (gv_M cI am g be si ge cu pl br 0) H := gv_sub [0, 1, 2] hP rfl
    have hDc : va_D (gv_in (gv_M cI am g be si ge cu pl br 0)) (gv_M cI am g be si ge cu pl br 0) := gv_D hD [0, 1, 2] (by decide) rfl
    refine gv_ki (wf := (fun (_ : Unit) => (gv_M cI am g be si ge cu pl br 0))) (wc := (gv_M cI am g be si ge cu pl br 0)) [0, 1, 2] (fun _ => rfl) hP hD hS rfl rfl (va_runV (As := [.int 0, .int p1, .int p2]) (rest := []) ⟨hx, hb, hml, hown, hts⟩ (kX2_shade l dC dI cI cL am g be si ge cu pl br 0 0 0 (rfl : (0 : Int32) = nI 0) p1 (p1.toNatClampNeg + 1) (gn_add hk1 (rfl : (1 : Int32) = nI 1)) p2 (by omega) (by omega) (gv_in (gv_M cI am g be si ge cu pl br 0))) (cwV (rm := gv_R 2 44) 3 hts gX2_shadeOf_X2_shade rfl rfl rfl (by decide +kernel) ⟨Nat.le_of_ble_eq_true rfl, Nat.le_of_ble_eq_true rfl⟩) (gv_preV (ci := 2) hK hPc hDc hN rfl rfl) rfl rfl hl.1 rfl (lv_room (Nat.le_of_ble_eq_true rfl)) dX2_shadeOf_28 ⟨Nat.zero_le _, Nat.zero_le _⟩) (fun q28 u H locs hw hP hD hS => ?_)
    have he := gv_q hw he
    have hP : va_P (dC, dI) vwCl (gv_M cI am g be si ge cu pl br 0) H := hP
    have hD : va_D A (gv_M cI am g be si ge cu pl br 0) := hD
    refine lv_goto (tgt := 35) hx hb dX2_shadeOf_31 (by decide) ?_
    exact kr q28 0 _ _ _ _ he hP hS dX2_shadeOf_35
def spX2_holdersOf (g : Nat → Int32) (be : Nat → Int32) (si : Int32) (ge : Int32) (cu : Int32) (pl : Int32) (br : Int32) (th : Int32) (p1 : Int32) (p2 : Int32) : Int32 × (Int32) := gv_b (spX2_isCell p1 p2) (fun q3 => (if q3 = 0 then (0, 1) else gv_b (spX2_holders g be si ge cu pl br 0 0 p1 p2) (fun q28 => (q28, 0))))
theorem spX2_holdersOf_e (g : Nat → Int32) (be : Nat → Int32) (si : Int32) (ge : Int32) (cu : Int32) (pl : Int32) (br : Int32) (th : Int32) (p1 : Int32) (p2 : Int32) : spX2_holdersOf g be si ge cu pl br th p1 p2 = gv_b (spX2_isCell p1 p2) (fun q3 => (if q3 = 0 then (0, 1) else gv_b (spX2_holders g be si ge cu pl br 0 0 p1 p2) (fun q28 => (q28, 0)))) := rfl
set_option maxHeartbeats 4000000 in
set_option maxRecDepth 100000 in
theorem kX2_holdersOf (l : Launch) (dC : Nat → ClassId) (dI : Nat → Nat → Nat) (cI cL : ClassId) (am : Nat → Nat) (g : Nat → Int32) (be : Nat → Int32) (si : Int32) (ge : Int32) (cu : Int32) (pl : Int32) (br : Int32) (th : Int32) (p1 : Int32) (p2 : Int32) : gv_Mi l yX2_holdersOf wsX2_holdersOf 4 90 (dC, dI) [(cI, .int), (cL, .long)] [.ref (am 0), .int p1, .int p2] (gv_M cI am g be si ge cu pl br th) (fun (r : Int32) (u : (Int32)) => (r, u) = spX2_holdersOf g be si ge cu pl br th p1 p2) (fun (u : (Int32)) => (gv_M cI am g be si ge cu pl br u)) := by
  refine gv_ofi (cc := cX2_holdersOf) (maxL := 3) (own := RX2) (by decide) rfl (Nat.le_of_ble_eq_true rfl) rfl ?_
  intro A p e s m args below meth c Q ls H locs hx hb hml hts hown hP hK hD hN hS hl kr
  have inX2 : ∀ w ∈ wsX20, w ∈ wsX2_holdersOf := (fun _ h => List.mem_cons_of_mem _ (List.mem_append_right _ h))
  have hl : lv_has ls 3 [(0, .ref (am 0)), (1, .int p1), (2, .int p2)] := hl
  have he := (spX2_holdersOf_e g be si ge cu pl br th p1 p2).symm
  refine lv_aload_n hx hb dX2_holdersOf_0 rfl (lv_at hl 0 rfl) ?_
  refine lv_iload_n hx hb dX2_holdersOf_1 rfl (lv_at hl 1 rfl) ?_
  refine lv_iload_n hx hb dX2_holdersOf_2 rfl (lv_at hl 2 rfl) ?_
  have hPc : va_P (dC, dI) vwCl ([] : va_W) H := gv_P0
  have hDc : va_D (gv_in ([] : va_W)) ([] : va_W) := gv_D0
  refine gv_ki (wf := (fun (_ : Unit) => ([] : va_W))) (wc := ([] : va_W)) [] (fun _ => rfl) hP hD hS rfl rfl (va_runS (As := [.int p1, .int p2]) (rest := [.ref (am 0)]) ⟨hx, hb, hml, hown, hts⟩ (kX2_isCell l dC dI cI cL p1 p2 (gv_in ([] : va_W))) (va_cwS (rm := gv_R 1 20) 2 hts gX2_holdersOf_X2_isCell rfl rfl rfl (by decide +kernel) ⟨Nat.le_of_ble_eq_true rfl, Nat.le_of_ble_eq_true rfl⟩) (gv_preS hK hPc hDc hN) rfl rfl hl.1 rfl (lv_room (Nat.le_of_ble_eq_true rfl)) dX2_holdersOf_3 ⟨Nat.zero_le _, Nat.zero_le _⟩) (fun q3 u H locs hw hP hD hS => ?_)
  have he := gv_q hw he
  have hP : va_P (dC, dI) vwCl (gv_M cI am g be si ge cu pl br th) H := hP
  have hD : va_D A (gv_M cI am g be si ge cu pl br th) := hD
  refine lv_if_eq (tgt := 13) hx hb dX2_holdersOf_6 (by decide) (fun cd6 => ?_) (fun cd6 => ?_)
  · have he := gv_t cd6 he
    refine lv_iconst (v := 1) hx hb dX2_holdersOf_13 (by decide) ?_
    refine va_put (D := (dC, dI)) (ci := 2) (v := .int 1) (ty := .int) (C := RX2) (T := TX2) (N := 8) hx hb hts inX2 tyX2 tyX2_ok nmX2 hown hK hP hD hS 0 rfl rfl 7 (by decide) (hts (.fieldLink RX2 20 "VineWallModel" "thrown" "I") (List.mem_of_getElem? (i := 1) rfl)) (fun _ h9 => h9) rfl (by decide +kernel) rfl rfl (Nat.le_of_ble_eq_true rfl) dX2_holdersOf_14 (fun H locs hP hD hS => ?_)
    have hP : va_P (dC, dI) vwCl (gv_M cI am g be si ge cu pl br 1) H := hP
    have hD : va_D A (gv_M cI am g be si ge cu pl br 1) := hD
    refine lv_aload_n hx hb dX2_holdersOf_17 rfl (lv_at hl 0 rfl) ?_
    refine va_get (D := (dC, dI)) (ci := 2) (v := .int 1) (C := RX2) (T := TX2) (N := 8) hx hb hts inX2 hown hK hP 0 rfl rfl 7 (by decide) (hts (.fieldLink RX2 20 "VineWallModel" "thrown" "I") (List.mem_of_getElem? (i := 1) rfl)) (fun _ h9 => h9) rfl dX2_holdersOf_18 ?_
    refine lv_if_ne (tgt := 34) hx hb dX2_holdersOf_21 (by decide) (fun _ => ?_) (fun c => absurd c (by decide))
    refine lv_iconst (v := 0) hx hb dX2_holdersOf_34 (by decide) ?_
    exact kr 0 1 _ _ _ _ he hP hS dX2_holdersOf_35
  · have he := gv_f cd6 he
    refine lv_iconst (v := 0) hx hb dX2_holdersOf_9 (by decide) ?_
    refine lv_goto (tgt := 14) hx hb dX2_holdersOf_10 (by decide) ?_
    refine va_put (D := (dC, dI)) (ci := 2) (v := .int 0) (ty := .int) (C := RX2) (T := TX2) (N := 8) hx hb hts inX2 tyX2 tyX2_ok nmX2 hown hK hP hD hS 0 rfl rfl 7 (by decide) (hts (.fieldLink RX2 20 "VineWallModel" "thrown" "I") (List.mem_of_getElem? (i := 1) rfl)) (fun _ h9 => h9) rfl (by decide +kernel) rfl rfl (Nat.le_of_ble_eq_true rfl) dX2_holdersOf_14 (fun H locs hP hD hS => ?_)
    have hP : va_P (dC, dI) vwCl (gv_M cI am g be si ge cu pl br 0) H := hP
    have hD : va_D A (gv_M cI am g be si ge cu pl br 0) := hD
    refine lv_aload_n hx hb dX2_holdersOf_17 rfl (lv_at hl 0 rfl) ?_
    refine va_get (D := (dC, dI)) (ci := 2) (v := .int 0) (C := RX2) (T := TX2) (N := 8) hx hb hts inX2 hown hK hP 0 rfl rfl 7 (by decide) (hts (.fieldLink RX2 20 "VineWallModel" "thrown" "I") (List.mem_of_getElem? (i := 1) rfl)) (fun _ h9 => h9) rfl dX2_holdersOf_18 ?_
    refine lv_if_ne (tgt := 34) hx hb dX2_holdersOf_21 (by decide) (fun c => absurd (by decide) c) (fun _ => ?_)
    refine lv_aload_n hx hb dX2_holdersOf_24 rfl (lv_at hl 0 rfl) ?_
    refine lv_iconst (v := 0) hx hb dX2_holdersOf_25 (by decide) ?_
    refine lv_iload_n hx hb dX2_holdersOf_26 rfl (lv_at hl 1 rfl) ?_
    refine lv_iload_n hx hb dX2_holdersOf_27 rfl (lv_at hl 2 rfl) ?_
    have hPc : va_P (dC, dI) vwCl (gv_M cI am g be si ge cu pl br 0) H := gv_sub [0, 1, 2] hP rfl
    have hDc : va_D (gv_in (gv_M cI am g be si ge cu pl br 0)) (gv_M cI am g be si ge cu pl br 0) := gv_D hD [0, 1, 2] (by decide) rfl
    refine gv_ki (wf := (fun (_ : Unit) => (gv_M cI am g be si ge cu pl br 0))) (wc := (gv_M cI am g be si ge cu pl br 0)) [0, 1, 2] (fun _ => rfl) hP hD hS rfl rfl (va_runV (As := [.int 0, .int p1, .int p2]) (rest := []) ⟨hx, hb, hml, hown, hts⟩ (kX2_holders l dC dI cI cL am g be si ge cu pl br 0 0 0 (rfl : (0 : Int32) = nI 0) p1 p2 (by omega) (gv_in (gv_M cI am g be si ge cu pl br 0))) (cwV (rm := gv_R 3 67) 3 hts gX2_holdersOf_X2_holders rfl rfl rfl (by decide +kernel) ⟨Nat.le_of_ble_eq_true rfl, Nat.le_of_ble_eq_true rfl⟩) (gv_preV (ci := 2) hK hPc hDc hN rfl rfl) rfl rfl hl.1 rfl (lv_room (Nat.le_of_ble_eq_true rfl)) dX2_holdersOf_28 ⟨Nat.zero_le _, Nat.zero_le _⟩) (fun q28 u H locs hw hP hD hS => ?_)
    have he := gv_q hw he
    have hP : va_P (dC, dI) vwCl (gv_M cI am g be si ge cu pl br 0) H := hP
    have hD : va_D A (gv_M cI am g be si ge cu pl br 0) := hD
    refine lv_goto (tgt := 35) hx hb dX2_holdersOf_31 (by decide) ?_
    exact kr q28 0 _ _ _ _ he hP hS dX2_holdersOf_35
def spX2_neighboursOf (g : Nat → Int32) (be : Nat → Int32) (si : Int32) (ge : Int32) (cu : Int32) (pl : Int32) (br : Int32) (th : Int32) (p1 : Int32) (p2 : Int32) : Int32 × (Int32) := gv_b (spX2_isCell p1 p2) (fun q3 => (if q3 = 0 then (0, 1) else gv_b (spX2_neighbours g be si ge cu pl br 0 0 p1 p2) (fun q28 => (q28, 0))))
theorem spX2_neighboursOf_e (g : Nat → Int32) (be : Nat → Int32) (si : Int32) (ge : Int32) (cu : Int32) (pl : Int32) (br : Int32) (th : Int32) (p1 : Int32) (p2 : Int32) : spX2_neighboursOf g be si ge cu pl br th p1 p2 = gv_b (spX2_isCell p1 p2) (fun q3 => (if q3 = 0 then (0, 1) else gv_b (spX2_neighbours g be si ge cu pl br 0 0 p1 p2) (fun q28 => (q28, 0)))) := rfl
set_option maxHeartbeats 4000000 in
set_option maxRecDepth 100000 in
theorem kX2_neighboursOf (l : Launch) (dC : Nat → ClassId) (dI : Nat → Nat → Nat) (cI cL : ClassId) (am : Nat → Nat) (g : Nat → Int32) (be : Nat → Int32) (si : Int32) (ge : Int32) (cu : Int32) (pl : Int32) (br : Int32) (th : Int32) (p1 : Int32) (p2 : Int32) : gv_Mi l yX2_neighboursOf wsX2_neighboursOf 4 90 (dC, dI) [(cI, .int), (cL, .long)] [.ref (am 0), .int p1, .int p2] (gv_M cI am g be si ge cu pl br th) (fun (r : Int32) (u : (Int32)) => (r, u) = spX2_neighboursOf g be si ge cu pl br th p1 p2) (fun (u : (Int32)) => (gv_M cI am g be si ge cu pl br u)) := by
  refine gv_ofi (cc := cX2_neighboursOf) (maxL := 3) (own := RX2) (by decide) rfl (Nat.le_of_ble_eq_true rfl) rfl ?_
  intro A p e s m args below meth c Q ls H locs hx hb hml hts hown hP hK hD hN hS hl kr
  have inX2 : ∀ w ∈ wsX20, w ∈ wsX2_neighboursOf := (fun _ h => List.mem_cons_of_mem _ (List.mem_append_right _ h))
  have hl : lv_has ls 3 [(0, .ref (am 0)), (1, .int p1), (2, .int p2)] := hl
  have he := (spX2_neighboursOf_e g be si ge cu pl br th p1 p2).symm
  refine lv_aload_n hx hb dX2_neighboursOf_0 rfl (lv_at hl 0 rfl) ?_
  refine lv_iload_n hx hb dX2_neighboursOf_1 rfl (lv_at hl 1 rfl) ?_
  refine lv_iload_n hx hb dX2_neighboursOf_2 rfl (lv_at hl 2 rfl) ?_
  have hPc : va_P (dC, dI) vwCl ([] : va_W) H := gv_P0
  have hDc : va_D (gv_in ([] : va_W)) ([] : va_W) := gv_D0
  refine gv_ki (wf := (fun (_ : Unit) => ([] : va_W))) (wc := ([] : va_W)) [] (fun _ => rfl) hP hD hS rfl rfl (va_runS (As := [.int p1, .int p2]) (rest := [.ref (am 0)]) ⟨hx, hb, hml, hown, hts⟩ (kX2_isCell l dC dI cI cL p1 p2 (gv_in ([] : va_W))) (va_cwS (rm := gv_R 1 20) 2 hts gX2_neighboursOf_X2_isCell rfl rfl rfl (by decide +kernel) ⟨Nat.le_of_ble_eq_true rfl, Nat.le_of_ble_eq_true rfl⟩) (gv_preS hK hPc hDc hN) rfl rfl hl.1 rfl (lv_room (Nat.le_of_ble_eq_true rfl)) dX2_neighboursOf_3 ⟨Nat.zero_le _, Nat.zero_le _⟩) (fun q3 u H locs hw hP hD hS => ?_)
  have he := gv_q hw he
  have hP : va_P (dC, dI) vwCl (gv_M cI am g be si ge cu pl br th) H := hP
  have hD : va_D A (gv_M cI am g be si ge cu pl br th) := hD
  refine lv_if_eq (tgt := 13) hx hb dX2_neighboursOf_6 (by decide) (fun cd6 => ?_) (fun cd6 => ?_)
  · have he := gv_t cd6 he
    refine lv_iconst (v := 1) hx hb dX2_neighboursOf_13 (by decide) ?_
    refine va_put (D := (dC, dI)) (ci := 2) (v := .int 1) (ty := .int) (C := RX2) (T := TX2) (N := 8) hx hb hts inX2 tyX2 tyX2_ok nmX2 hown hK hP hD hS 0 rfl rfl 7 (by decide) (hts (.fieldLink RX2 20 "VineWallModel" "thrown" "I") (List.mem_of_getElem? (i := 1) rfl)) (fun _ h9 => h9) rfl (by decide +kernel) rfl rfl (Nat.le_of_ble_eq_true rfl) dX2_neighboursOf_14 (fun H locs hP hD hS => ?_)
    have hP : va_P (dC, dI) vwCl (gv_M cI am g be si ge cu pl br 1) H := hP
    have hD : va_D A (gv_M cI am g be si ge cu pl br 1) := hD
    refine lv_aload_n hx hb dX2_neighboursOf_17 rfl (lv_at hl 0 rfl) ?_
    refine va_get (D := (dC, dI)) (ci := 2) (v := .int 1) (C := RX2) (T := TX2) (N := 8) hx hb hts inX2 hown hK hP 0 rfl rfl 7 (by decide) (hts (.fieldLink RX2 20 "VineWallModel" "thrown" "I") (List.mem_of_getElem? (i := 1) rfl)) (fun _ h9 => h9) rfl dX2_neighboursOf_18 ?_
    refine lv_if_ne (tgt := 34) hx hb dX2_neighboursOf_21 (by decide) (fun _ => ?_) (fun c => absurd c (by decide))
    refine lv_iconst (v := 0) hx hb dX2_neighboursOf_34 (by decide) ?_
    exact kr 0 1 _ _ _ _ he hP hS dX2_neighboursOf_35
  · have he := gv_f cd6 he
    refine lv_iconst (v := 0) hx hb dX2_neighboursOf_9 (by decide) ?_
    refine lv_goto (tgt := 14) hx hb dX2_neighboursOf_10 (by decide) ?_
    refine va_put (D := (dC, dI)) (ci := 2) (v := .int 0) (ty := .int) (C := RX2) (T := TX2) (N := 8) hx hb hts inX2 tyX2 tyX2_ok nmX2 hown hK hP hD hS 0 rfl rfl 7 (by decide) (hts (.fieldLink RX2 20 "VineWallModel" "thrown" "I") (List.mem_of_getElem? (i := 1) rfl)) (fun _ h9 => h9) rfl (by decide +kernel) rfl rfl (Nat.le_of_ble_eq_true rfl) dX2_neighboursOf_14 (fun H locs hP hD hS => ?_)
    have hP : va_P (dC, dI) vwCl (gv_M cI am g be si ge cu pl br 0) H := hP
    have hD : va_D A (gv_M cI am g be si ge cu pl br 0) := hD
    refine lv_aload_n hx hb dX2_neighboursOf_17 rfl (lv_at hl 0 rfl) ?_
    refine va_get (D := (dC, dI)) (ci := 2) (v := .int 0) (C := RX2) (T := TX2) (N := 8) hx hb hts inX2 hown hK hP 0 rfl rfl 7 (by decide) (hts (.fieldLink RX2 20 "VineWallModel" "thrown" "I") (List.mem_of_getElem? (i := 1) rfl)) (fun _ h9 => h9) rfl dX2_neighboursOf_18 ?_
    refine lv_if_ne (tgt := 34) hx hb dX2_neighboursOf_21 (by decide) (fun c => absurd (by decide) c) (fun _ => ?_)
    refine lv_aload_n hx hb dX2_neighboursOf_24 rfl (lv_at hl 0 rfl) ?_
    refine lv_iconst (v := 0) hx hb dX2_neighboursOf_25 (by decide) ?_
    refine lv_iload_n hx hb dX2_neighboursOf_26 rfl (lv_at hl 1 rfl) ?_
    refine lv_iload_n hx hb dX2_neighboursOf_27 rfl (lv_at hl 2 rfl) ?_
    have hPc : va_P (dC, dI) vwCl (gv_M cI am g be si ge cu pl br 0) H := gv_sub [0, 1, 2] hP rfl
    have hDc : va_D (gv_in (gv_M cI am g be si ge cu pl br 0)) (gv_M cI am g be si ge cu pl br 0) := gv_D hD [0, 1, 2] (by decide) rfl
    refine gv_ki (wf := (fun (_ : Unit) => (gv_M cI am g be si ge cu pl br 0))) (wc := (gv_M cI am g be si ge cu pl br 0)) [0, 1, 2] (fun _ => rfl) hP hD hS rfl rfl (va_runV (As := [.int 0, .int p1, .int p2]) (rest := []) ⟨hx, hb, hml, hown, hts⟩ (kX2_neighbours l dC dI cI cL am g be si ge cu pl br 0 0 0 (rfl : (0 : Int32) = nI 0) p1 p2 (by omega) (gv_in (gv_M cI am g be si ge cu pl br 0))) (cwV (rm := gv_R 3 67) 3 hts gX2_neighboursOf_X2_neighbours rfl rfl rfl (by decide +kernel) ⟨Nat.le_of_ble_eq_true rfl, Nat.le_of_ble_eq_true rfl⟩) (gv_preV (ci := 2) hK hPc hDc hN rfl rfl) rfl rfl hl.1 rfl (lv_room (Nat.le_of_ble_eq_true rfl)) dX2_neighboursOf_28 ⟨Nat.zero_le _, Nat.zero_le _⟩) (fun q28 u H locs hw hP hD hS => ?_)
    have he := gv_q hw he
    have hP : va_P (dC, dI) vwCl (gv_M cI am g be si ge cu pl br 0) H := hP
    have hD : va_D A (gv_M cI am g be si ge cu pl br 0) := hD
    refine lv_goto (tgt := 35) hx hb dX2_neighboursOf_31 (by decide) ?_
    exact kr q28 0 _ _ _ _ he hP hS dX2_neighboursOf_35
def spX2_leavesIn (g : Nat → Int32) (be : Nat → Int32) (si : Int32) (ge : Int32) (cu : Int32) (pl : Int32) (br : Int32) (th : Int32) (p1 : Int32) : Int32 × (Int32) := gv_b (spX2_isColumn p1) (fun q2 => (if q2 = 0 then (0, 1) else gv_b (spX2_inColumn g be si ge cu pl br 0 0 p1) (fun q26 => (q26, 0))))
theorem spX2_leavesIn_e (g : Nat → Int32) (be : Nat → Int32) (si : Int32) (ge : Int32) (cu : Int32) (pl : Int32) (br : Int32) (th : Int32) (p1 : Int32) : spX2_leavesIn g be si ge cu pl br th p1 = gv_b (spX2_isColumn p1) (fun q2 => (if q2 = 0 then (0, 1) else gv_b (spX2_inColumn g be si ge cu pl br 0 0 p1) (fun q26 => (q26, 0)))) := rfl
set_option maxHeartbeats 4000000 in
set_option maxRecDepth 100000 in
theorem kX2_leavesIn (l : Launch) (dC : Nat → ClassId) (dI : Nat → Nat → Nat) (cI cL : ClassId) (am : Nat → Nat) (g : Nat → Int32) (be : Nat → Int32) (si : Int32) (ge : Int32) (cu : Int32) (pl : Int32) (br : Int32) (th : Int32) (p1 : Int32) : gv_Mi l yX2_leavesIn wsX2_leavesIn 4 91 (dC, dI) [(cI, .int), (cL, .long)] [.ref (am 0), .int p1] (gv_M cI am g be si ge cu pl br th) (fun (r : Int32) (u : (Int32)) => (r, u) = spX2_leavesIn g be si ge cu pl br th p1) (fun (u : (Int32)) => (gv_M cI am g be si ge cu pl br u)) := by
  refine gv_ofi (cc := cX2_leavesIn) (maxL := 2) (own := RX2) (by decide) rfl (Nat.le_of_ble_eq_true rfl) rfl ?_
  intro A p e s m args below meth c Q ls H locs hx hb hml hts hown hP hK hD hN hS hl kr
  have inX2 : ∀ w ∈ wsX20, w ∈ wsX2_leavesIn := (fun _ h => List.mem_cons_of_mem _ (List.mem_append_right _ h))
  have hl : lv_has ls 2 [(0, .ref (am 0)), (1, .int p1)] := hl
  have he := (spX2_leavesIn_e g be si ge cu pl br th p1).symm
  refine lv_aload_n hx hb dX2_leavesIn_0 rfl (lv_at hl 0 rfl) ?_
  refine lv_iload_n hx hb dX2_leavesIn_1 rfl (lv_at hl 1 rfl) ?_
  have hPc : va_P (dC, dI) vwCl ([] : va_W) H := gv_P0
  have hDc : va_D (gv_in ([] : va_W)) ([] : va_W) := gv_D0
  refine gv_ki (wf := (fun (_ : Unit) => ([] : va_W))) (wc := ([] : va_W)) [] (fun _ => rfl) hP hD hS rfl rfl (va_runS (As := [.int p1]) (rest := [.ref (am 0)]) ⟨hx, hb, hml, hown, hts⟩ (kX2_isColumn l dC dI cI cL p1 (gv_in ([] : va_W))) (va_cwS (rm := gv_R 0 0) 1 hts gX2_leavesIn_X2_isColumn rfl rfl rfl (by decide +kernel) ⟨Nat.le_of_ble_eq_true rfl, Nat.le_of_ble_eq_true rfl⟩) (gv_preS hK hPc hDc hN) rfl rfl hl.1 rfl (lv_room (Nat.le_of_ble_eq_true rfl)) dX2_leavesIn_2 ⟨Nat.zero_le _, Nat.zero_le _⟩) (fun q2 u H locs hw hP hD hS => ?_)
  have he := gv_q hw he
  have hP : va_P (dC, dI) vwCl (gv_M cI am g be si ge cu pl br th) H := hP
  have hD : va_D A (gv_M cI am g be si ge cu pl br th) := hD
  refine lv_if_eq (tgt := 12) hx hb dX2_leavesIn_5 (by decide) (fun cd5 => ?_) (fun cd5 => ?_)
  · have he := gv_t cd5 he
    refine lv_iconst (v := 1) hx hb dX2_leavesIn_12 (by decide) ?_
    refine va_put (D := (dC, dI)) (ci := 2) (v := .int 1) (ty := .int) (C := RX2) (T := TX2) (N := 8) hx hb hts inX2 tyX2 tyX2_ok nmX2 hown hK hP hD hS 0 rfl rfl 7 (by decide) (hts (.fieldLink RX2 20 "VineWallModel" "thrown" "I") (List.mem_of_getElem? (i := 1) rfl)) (fun _ h9 => h9) rfl (by decide +kernel) rfl rfl (Nat.le_of_ble_eq_true rfl) dX2_leavesIn_13 (fun H locs hP hD hS => ?_)
    have hP : va_P (dC, dI) vwCl (gv_M cI am g be si ge cu pl br 1) H := hP
    have hD : va_D A (gv_M cI am g be si ge cu pl br 1) := hD
    refine lv_aload_n hx hb dX2_leavesIn_16 rfl (lv_at hl 0 rfl) ?_
    refine va_get (D := (dC, dI)) (ci := 2) (v := .int 1) (C := RX2) (T := TX2) (N := 8) hx hb hts inX2 hown hK hP 0 rfl rfl 7 (by decide) (hts (.fieldLink RX2 20 "VineWallModel" "thrown" "I") (List.mem_of_getElem? (i := 1) rfl)) (fun _ h9 => h9) rfl dX2_leavesIn_17 ?_
    refine lv_if_ne (tgt := 32) hx hb dX2_leavesIn_20 (by decide) (fun _ => ?_) (fun c => absurd c (by decide))
    refine lv_iconst (v := 0) hx hb dX2_leavesIn_32 (by decide) ?_
    exact kr 0 1 _ _ _ _ he hP hS dX2_leavesIn_33
  · have he := gv_f cd5 he
    refine lv_iconst (v := 0) hx hb dX2_leavesIn_8 (by decide) ?_
    refine lv_goto (tgt := 13) hx hb dX2_leavesIn_9 (by decide) ?_
    refine va_put (D := (dC, dI)) (ci := 2) (v := .int 0) (ty := .int) (C := RX2) (T := TX2) (N := 8) hx hb hts inX2 tyX2 tyX2_ok nmX2 hown hK hP hD hS 0 rfl rfl 7 (by decide) (hts (.fieldLink RX2 20 "VineWallModel" "thrown" "I") (List.mem_of_getElem? (i := 1) rfl)) (fun _ h9 => h9) rfl (by decide +kernel) rfl rfl (Nat.le_of_ble_eq_true rfl) dX2_leavesIn_13 (fun H locs hP hD hS => ?_)
    have hP : va_P (dC, dI) vwCl (gv_M cI am g be si ge cu pl br 0) H := hP
    have hD : va_D A (gv_M cI am g be si ge cu pl br 0) := hD
    refine lv_aload_n hx hb dX2_leavesIn_16 rfl (lv_at hl 0 rfl) ?_
    refine va_get (D := (dC, dI)) (ci := 2) (v := .int 0) (C := RX2) (T := TX2) (N := 8) hx hb hts inX2 hown hK hP 0 rfl rfl 7 (by decide) (hts (.fieldLink RX2 20 "VineWallModel" "thrown" "I") (List.mem_of_getElem? (i := 1) rfl)) (fun _ h9 => h9) rfl dX2_leavesIn_17 ?_
    refine lv_if_ne (tgt := 32) hx hb dX2_leavesIn_20 (by decide) (fun c => absurd (by decide) c) (fun _ => ?_)
    refine lv_aload_n hx hb dX2_leavesIn_23 rfl (lv_at hl 0 rfl) ?_
    refine lv_iconst (v := 0) hx hb dX2_leavesIn_24 (by decide) ?_
    refine lv_iload_n hx hb dX2_leavesIn_25 rfl (lv_at hl 1 rfl) ?_
    have hPc : va_P (dC, dI) vwCl (gv_M cI am g be si ge cu pl br 0) H := gv_sub [0, 1, 2] hP rfl
    have hDc : va_D (gv_in (gv_M cI am g be si ge cu pl br 0)) (gv_M cI am g be si ge cu pl br 0) := gv_D hD [0, 1, 2] (by decide) rfl
    refine gv_ki (wf := (fun (_ : Unit) => (gv_M cI am g be si ge cu pl br 0))) (wc := (gv_M cI am g be si ge cu pl br 0)) [0, 1, 2] (fun _ => rfl) hP hD hS rfl rfl (va_runV (As := [.int 0, .int p1]) (rest := []) ⟨hx, hb, hml, hown, hts⟩ (kX2_inColumn l dC dI cI cL am g be si ge cu pl br 0 0 0 (rfl : (0 : Int32) = nI 0) p1 (by omega) (gv_in (gv_M cI am g be si ge cu pl br 0))) (cwV (rm := gv_R 3 69) 2 hts gX2_leavesIn_X2_inColumn rfl rfl rfl (by decide +kernel) ⟨Nat.le_of_ble_eq_true rfl, Nat.le_of_ble_eq_true rfl⟩) (gv_preV (ci := 2) hK hPc hDc hN rfl rfl) rfl rfl hl.1 rfl (lv_room (Nat.le_of_ble_eq_true rfl)) dX2_leavesIn_26 ⟨Nat.zero_le _, Nat.zero_le _⟩) (fun q26 u H locs hw hP hD hS => ?_)
    have he := gv_q hw he
    have hP : va_P (dC, dI) vwCl (gv_M cI am g be si ge cu pl br 0) H := hP
    have hD : va_D A (gv_M cI am g be si ge cu pl br 0) := hD
    refine lv_goto (tgt := 33) hx hb dX2_leavesIn_29 (by decide) ?_
    exact kr q26 0 _ _ _ _ he hP hS dX2_leavesIn_33
def spX2_leaves (g : Nat → Int32) (be : Nat → Int32) (si : Int32) (ge : Int32) (cu : Int32) (pl : Int32) (br : Int32) (th : Int32) : Int32 × (Int32) := gv_b (spX2_allLeaves g be si ge cu pl br 0 0) (fun q7 => (q7, 0))
theorem spX2_leaves_e (g : Nat → Int32) (be : Nat → Int32) (si : Int32) (ge : Int32) (cu : Int32) (pl : Int32) (br : Int32) (th : Int32) : spX2_leaves g be si ge cu pl br th = gv_b (spX2_allLeaves g be si ge cu pl br 0 0) (fun q7 => (q7, 0)) := rfl
set_option maxHeartbeats 4000000 in
set_option maxRecDepth 100000 in
theorem kX2_leaves (l : Launch) (dC : Nat → ClassId) (dI : Nat → Nat → Nat) (cI cL : ClassId) (am : Nat → Nat) (g : Nat → Int32) (be : Nat → Int32) (si : Int32) (ge : Int32) (cu : Int32) (pl : Int32) (br : Int32) (th : Int32) : gv_Mi l yX2_leaves wsX2_leaves 5 114 (dC, dI) [(cI, .int), (cL, .long)] [.ref (am 0)] (gv_M cI am g be si ge cu pl br th) (fun (r : Int32) (u : (Int32)) => (r, u) = spX2_leaves g be si ge cu pl br th) (fun (u : (Int32)) => (gv_M cI am g be si ge cu pl br u)) := by
  refine gv_ofi (cc := cX2_leaves) (maxL := 1) (own := RX2) (by decide) rfl (Nat.le_of_ble_eq_true rfl) rfl ?_
  intro A p e s m args below meth c Q ls H locs hx hb hml hts hown hP hK hD hN hS hl kr
  have inX2 : ∀ w ∈ wsX20, w ∈ wsX2_leaves := (fun _ h => List.mem_cons_of_mem _ (List.mem_append_right _ h))
  have hl : lv_has ls 1 [(0, .ref (am 0))] := hl
  have he := (spX2_leaves_e g be si ge cu pl br th).symm
  refine lv_aload_n hx hb dX2_leaves_0 rfl (lv_at hl 0 rfl) ?_
  refine lv_iconst (v := 0) hx hb dX2_leaves_1 (by decide) ?_
  refine va_put (D := (dC, dI)) (ci := 2) (v := .int 0) (ty := .int) (C := RX2) (T := TX2) (N := 8) hx hb hts inX2 tyX2 tyX2_ok nmX2 hown hK hP hD hS 0 rfl rfl 7 (by decide) (hts (.fieldLink RX2 20 "VineWallModel" "thrown" "I") (List.mem_of_getElem? (i := 1) rfl)) (fun _ h9 => h9) rfl (by decide +kernel) rfl rfl (Nat.le_of_ble_eq_true rfl) dX2_leaves_2 (fun H locs hP hD hS => ?_)
  have hP : va_P (dC, dI) vwCl (gv_M cI am g be si ge cu pl br 0) H := hP
  have hD : va_D A (gv_M cI am g be si ge cu pl br 0) := hD
  refine lv_aload_n hx hb dX2_leaves_5 rfl (lv_at hl 0 rfl) ?_
  refine lv_iconst (v := 0) hx hb dX2_leaves_6 (by decide) ?_
  have hPc : va_P (dC, dI) vwCl (gv_M cI am g be si ge cu pl br 0) H := gv_sub [0, 1, 2] hP rfl
  have hDc : va_D (gv_in (gv_M cI am g be si ge cu pl br 0)) (gv_M cI am g be si ge cu pl br 0) := gv_D hD [0, 1, 2] (by decide) rfl
  refine gv_ki (wf := (fun (_ : Unit) => (gv_M cI am g be si ge cu pl br 0))) (wc := (gv_M cI am g be si ge cu pl br 0)) [0, 1, 2] (fun _ => rfl) hP hD hS rfl rfl (va_runV (As := [.int 0]) (rest := []) ⟨hx, hb, hml, hown, hts⟩ (kX2_allLeaves l dC dI cI cL am g be si ge cu pl br 0 0 0 (rfl : (0 : Int32) = nI 0) (by omega) (gv_in (gv_M cI am g be si ge cu pl br 0))) (cwV (rm := gv_R 4 91) 1 hts gX2_leaves_X2_allLeaves rfl rfl rfl (by decide +kernel) ⟨Nat.le_of_ble_eq_true rfl, Nat.le_of_ble_eq_true rfl⟩) (gv_preV (ci := 2) hK hPc hDc hN rfl rfl) rfl rfl hl.1 rfl (lv_room (Nat.le_of_ble_eq_true rfl)) dX2_leaves_7 ⟨Nat.zero_le _, Nat.zero_le _⟩) (fun q7 u H locs hw hP hD hS => ?_)
  have he := gv_q hw he
  have hP : va_P (dC, dI) vwCl (gv_M cI am g be si ge cu pl br 0) H := hP
  have hD : va_D A (gv_M cI am g be si ge cu pl br 0) := hD
  exact kr q7 0 _ _ _ _ he hP hS dX2_leaves_10
def spX2_lit (g : Nat → Int32) (be : Nat → Int32) (si : Int32) (ge : Int32) (cu : Int32) (pl : Int32) (br : Int32) (th : Int32) : Int32 × (Int32) := gv_b (spX2_allLit g be si ge cu pl br 0 0) (fun q7 => (q7, 0))
theorem spX2_lit_e (g : Nat → Int32) (be : Nat → Int32) (si : Int32) (ge : Int32) (cu : Int32) (pl : Int32) (br : Int32) (th : Int32) : spX2_lit g be si ge cu pl br th = gv_b (spX2_allLit g be si ge cu pl br 0 0) (fun q7 => (q7, 0)) := rfl
set_option maxHeartbeats 4000000 in
set_option maxRecDepth 100000 in
theorem kX2_lit (l : Launch) (dC : Nat → ClassId) (dI : Nat → Nat → Nat) (cI cL : ClassId) (am : Nat → Nat) (g : Nat → Int32) (be : Nat → Int32) (si : Int32) (ge : Int32) (cu : Int32) (pl : Int32) (br : Int32) (th : Int32) : gv_Mi l yX2_lit wsX2_lit 5 114 (dC, dI) [(cI, .int), (cL, .long)] [.ref (am 0)] (gv_M cI am g be si ge cu pl br th) (fun (r : Int32) (u : (Int32)) => (r, u) = spX2_lit g be si ge cu pl br th) (fun (u : (Int32)) => (gv_M cI am g be si ge cu pl br u)) := by
  refine gv_ofi (cc := cX2_lit) (maxL := 1) (own := RX2) (by decide) rfl (Nat.le_of_ble_eq_true rfl) rfl ?_
  intro A p e s m args below meth c Q ls H locs hx hb hml hts hown hP hK hD hN hS hl kr
  have inX2 : ∀ w ∈ wsX20, w ∈ wsX2_lit := (fun _ h => List.mem_cons_of_mem _ (List.mem_append_right _ h))
  have hl : lv_has ls 1 [(0, .ref (am 0))] := hl
  have he := (spX2_lit_e g be si ge cu pl br th).symm
  refine lv_aload_n hx hb dX2_lit_0 rfl (lv_at hl 0 rfl) ?_
  refine lv_iconst (v := 0) hx hb dX2_lit_1 (by decide) ?_
  refine va_put (D := (dC, dI)) (ci := 2) (v := .int 0) (ty := .int) (C := RX2) (T := TX2) (N := 8) hx hb hts inX2 tyX2 tyX2_ok nmX2 hown hK hP hD hS 0 rfl rfl 7 (by decide) (hts (.fieldLink RX2 20 "VineWallModel" "thrown" "I") (List.mem_of_getElem? (i := 1) rfl)) (fun _ h9 => h9) rfl (by decide +kernel) rfl rfl (Nat.le_of_ble_eq_true rfl) dX2_lit_2 (fun H locs hP hD hS => ?_)
  have hP : va_P (dC, dI) vwCl (gv_M cI am g be si ge cu pl br 0) H := hP
  have hD : va_D A (gv_M cI am g be si ge cu pl br 0) := hD
  refine lv_aload_n hx hb dX2_lit_5 rfl (lv_at hl 0 rfl) ?_
  refine lv_iconst (v := 0) hx hb dX2_lit_6 (by decide) ?_
  have hPc : va_P (dC, dI) vwCl (gv_M cI am g be si ge cu pl br 0) H := gv_sub [0, 1, 2] hP rfl
  have hDc : va_D (gv_in (gv_M cI am g be si ge cu pl br 0)) (gv_M cI am g be si ge cu pl br 0) := gv_D hD [0, 1, 2] (by decide) rfl
  refine gv_ki (wf := (fun (_ : Unit) => (gv_M cI am g be si ge cu pl br 0))) (wc := (gv_M cI am g be si ge cu pl br 0)) [0, 1, 2] (fun _ => rfl) hP hD hS rfl rfl (va_runV (As := [.int 0]) (rest := []) ⟨hx, hb, hml, hown, hts⟩ (kX2_allLit l dC dI cI cL am g be si ge cu pl br 0 0 0 (rfl : (0 : Int32) = nI 0) (by omega) (gv_in (gv_M cI am g be si ge cu pl br 0))) (cwV (rm := gv_R 4 91) 1 hts gX2_lit_X2_allLit rfl rfl rfl (by decide +kernel) ⟨Nat.le_of_ble_eq_true rfl, Nat.le_of_ble_eq_true rfl⟩) (gv_preV (ci := 2) hK hPc hDc hN rfl rfl) rfl rfl hl.1 rfl (lv_room (Nat.le_of_ble_eq_true rfl)) dX2_lit_7 ⟨Nat.zero_le _, Nat.zero_le _⟩) (fun q7 u H locs hw hP hD hS => ?_)
  have he := gv_q hw he
  have hP : va_P (dC, dI) vwCl (gv_M cI am g be si ge cu pl br 0) H := hP
  have hD : va_D A (gv_M cI am g be si ge cu pl br 0) := hD
  exact kr q7 0 _ _ _ _ he hP hS dX2_lit_10
def spX2_generation (g : Nat → Int32) (be : Nat → Int32) (si : Int32) (ge : Int32) (cu : Int32) (pl : Int32) (br : Int32) (th : Int32) : Int32 × (Int32) := (ge, 0)
theorem spX2_generation_e (g : Nat → Int32) (be : Nat → Int32) (si : Int32) (ge : Int32) (cu : Int32) (pl : Int32) (br : Int32) (th : Int32) : spX2_generation g be si ge cu pl br th = (ge, 0) := rfl
set_option maxHeartbeats 4000000 in
set_option maxRecDepth 100000 in
theorem kX2_generation (l : Launch) (dC : Nat → ClassId) (dI : Nat → Nat → Nat) (cI cL : ClassId) (am : Nat → Nat) (g : Nat → Int32) (be : Nat → Int32) (si : Int32) (ge : Int32) (cu : Int32) (pl : Int32) (br : Int32) (th : Int32) : gv_Mi l yX2_generation wsX2_generation 0 0 (dC, dI) [(cI, .int), (cL, .long)] [.ref (am 0)] (gv_M cI am g be si ge cu pl br th) (fun (r : Int32) (u : (Int32)) => (r, u) = spX2_generation g be si ge cu pl br th) (fun (u : (Int32)) => (gv_M cI am g be si ge cu pl br u)) := by
  refine gv_ofi (cc := cX2_generation) (maxL := 1) (own := RX2) (by decide) rfl (Nat.le_of_ble_eq_true rfl) rfl ?_
  intro A p e s m args below meth c Q ls H locs hx hb hml hts hown hP hK hD hN hS hl kr
  have inX2 : ∀ w ∈ wsX20, w ∈ wsX2_generation := (fun _ h => List.mem_cons_of_mem _ (List.mem_append_right _ h))
  have hl : lv_has ls 1 [(0, .ref (am 0))] := hl
  have he := (spX2_generation_e g be si ge cu pl br th).symm
  refine lv_aload_n hx hb dX2_generation_0 rfl (lv_at hl 0 rfl) ?_
  refine lv_iconst (v := 0) hx hb dX2_generation_1 (by decide) ?_
  refine va_put (D := (dC, dI)) (ci := 2) (v := .int 0) (ty := .int) (C := RX2) (T := TX2) (N := 8) hx hb hts inX2 tyX2 tyX2_ok nmX2 hown hK hP hD hS 0 rfl rfl 7 (by decide) (hts (.fieldLink RX2 20 "VineWallModel" "thrown" "I") (List.mem_of_getElem? (i := 1) rfl)) (fun _ h9 => h9) rfl (by decide +kernel) rfl rfl (Nat.le_of_ble_eq_true rfl) dX2_generation_2 (fun H locs hP hD hS => ?_)
  have hP : va_P (dC, dI) vwCl (gv_M cI am g be si ge cu pl br 0) H := hP
  have hD : va_D A (gv_M cI am g be si ge cu pl br 0) := hD
  refine lv_aload_n hx hb dX2_generation_5 rfl (lv_at hl 0 rfl) ?_
  refine va_get (D := (dC, dI)) (ci := 2) (v := .int ge) (C := RX2) (T := TX2) (N := 8) hx hb hts inX2 hown hK hP 0 rfl rfl 3 (by decide) (hts (.fieldLink RX2 57 "VineWallModel" "generation" "I") (List.mem_of_getElem? (i := 2) rfl)) (fun _ h9 => h9) rfl dX2_generation_6 ?_
  exact kr ge 0 _ _ _ _ he hP hS dX2_generation_9
def spX2_cutsLeft (g : Nat → Int32) (be : Nat → Int32) (si : Int32) (ge : Int32) (cu : Int32) (pl : Int32) (br : Int32) (th : Int32) : Int32 × (Int32) := (cu, 0)
theorem spX2_cutsLeft_e (g : Nat → Int32) (be : Nat → Int32) (si : Int32) (ge : Int32) (cu : Int32) (pl : Int32) (br : Int32) (th : Int32) : spX2_cutsLeft g be si ge cu pl br th = (cu, 0) := rfl
set_option maxHeartbeats 4000000 in
set_option maxRecDepth 100000 in
theorem kX2_cutsLeft (l : Launch) (dC : Nat → ClassId) (dI : Nat → Nat → Nat) (cI cL : ClassId) (am : Nat → Nat) (g : Nat → Int32) (be : Nat → Int32) (si : Int32) (ge : Int32) (cu : Int32) (pl : Int32) (br : Int32) (th : Int32) : gv_Mi l yX2_cutsLeft wsX2_cutsLeft 0 0 (dC, dI) [(cI, .int), (cL, .long)] [.ref (am 0)] (gv_M cI am g be si ge cu pl br th) (fun (r : Int32) (u : (Int32)) => (r, u) = spX2_cutsLeft g be si ge cu pl br th) (fun (u : (Int32)) => (gv_M cI am g be si ge cu pl br u)) := by
  refine gv_ofi (cc := cX2_cutsLeft) (maxL := 1) (own := RX2) (by decide) rfl (Nat.le_of_ble_eq_true rfl) rfl ?_
  intro A p e s m args below meth c Q ls H locs hx hb hml hts hown hP hK hD hN hS hl kr
  have inX2 : ∀ w ∈ wsX20, w ∈ wsX2_cutsLeft := (fun _ h => List.mem_cons_of_mem _ (List.mem_append_right _ h))
  have hl : lv_has ls 1 [(0, .ref (am 0))] := hl
  have he := (spX2_cutsLeft_e g be si ge cu pl br th).symm
  refine lv_aload_n hx hb dX2_cutsLeft_0 rfl (lv_at hl 0 rfl) ?_
  refine lv_iconst (v := 0) hx hb dX2_cutsLeft_1 (by decide) ?_
  refine va_put (D := (dC, dI)) (ci := 2) (v := .int 0) (ty := .int) (C := RX2) (T := TX2) (N := 8) hx hb hts inX2 tyX2 tyX2_ok nmX2 hown hK hP hD hS 0 rfl rfl 7 (by decide) (hts (.fieldLink RX2 20 "VineWallModel" "thrown" "I") (List.mem_of_getElem? (i := 1) rfl)) (fun _ h9 => h9) rfl (by decide +kernel) rfl rfl (Nat.le_of_ble_eq_true rfl) dX2_cutsLeft_2 (fun H locs hP hD hS => ?_)
  have hP : va_P (dC, dI) vwCl (gv_M cI am g be si ge cu pl br 0) H := hP
  have hD : va_D A (gv_M cI am g be si ge cu pl br 0) := hD
  refine lv_aload_n hx hb dX2_cutsLeft_5 rfl (lv_at hl 0 rfl) ?_
  refine va_get (D := (dC, dI)) (ci := 2) (v := .int cu) (C := RX2) (T := TX2) (N := 8) hx hb hts inX2 hown hK hP 0 rfl rfl 4 (by decide) (hts (.fieldLink RX2 16 "VineWallModel" "cuts" "I") (List.mem_of_getElem? (i := 2) rfl)) (fun _ h9 => h9) rfl dX2_cutsLeft_6 ?_
  exact kr cu 0 _ _ _ _ he hP hS dX2_cutsLeft_9
def spX2_broken (g : Nat → Int32) (be : Nat → Int32) (si : Int32) (ge : Int32) (cu : Int32) (pl : Int32) (br : Int32) (th : Int32) : Int32 × (Int32) := (br, 0)
theorem spX2_broken_e (g : Nat → Int32) (be : Nat → Int32) (si : Int32) (ge : Int32) (cu : Int32) (pl : Int32) (br : Int32) (th : Int32) : spX2_broken g be si ge cu pl br th = (br, 0) := rfl
set_option maxHeartbeats 4000000 in
set_option maxRecDepth 100000 in
theorem kX2_broken (l : Launch) (dC : Nat → ClassId) (dI : Nat → Nat → Nat) (cI cL : ClassId) (am : Nat → Nat) (g : Nat → Int32) (be : Nat → Int32) (si : Int32) (ge : Int32) (cu : Int32) (pl : Int32) (br : Int32) (th : Int32) : gv_Mi l yX2_broken wsX2_broken 0 0 (dC, dI) [(cI, .int), (cL, .long)] [.ref (am 0)] (gv_M cI am g be si ge cu pl br th) (fun (r : Int32) (u : (Int32)) => (r, u) = spX2_broken g be si ge cu pl br th) (fun (u : (Int32)) => (gv_M cI am g be si ge cu pl br u)) := by
  refine gv_ofi (cc := cX2_broken) (maxL := 1) (own := RX2) (by decide) rfl (Nat.le_of_ble_eq_true rfl) rfl ?_
  intro A p e s m args below meth c Q ls H locs hx hb hml hts hown hP hK hD hN hS hl kr
  have inX2 : ∀ w ∈ wsX20, w ∈ wsX2_broken := (fun _ h => List.mem_cons_of_mem _ (List.mem_append_right _ h))
  have hl : lv_has ls 1 [(0, .ref (am 0))] := hl
  have he := (spX2_broken_e g be si ge cu pl br th).symm
  refine lv_aload_n hx hb dX2_broken_0 rfl (lv_at hl 0 rfl) ?_
  refine lv_iconst (v := 0) hx hb dX2_broken_1 (by decide) ?_
  refine va_put (D := (dC, dI)) (ci := 2) (v := .int 0) (ty := .int) (C := RX2) (T := TX2) (N := 8) hx hb hts inX2 tyX2 tyX2_ok nmX2 hown hK hP hD hS 0 rfl rfl 7 (by decide) (hts (.fieldLink RX2 20 "VineWallModel" "thrown" "I") (List.mem_of_getElem? (i := 1) rfl)) (fun _ h9 => h9) rfl (by decide +kernel) rfl rfl (Nat.le_of_ble_eq_true rfl) dX2_broken_2 (fun H locs hP hD hS => ?_)
  have hP : va_P (dC, dI) vwCl (gv_M cI am g be si ge cu pl br 0) H := hP
  have hD : va_D A (gv_M cI am g be si ge cu pl br 0) := hD
  refine lv_aload_n hx hb dX2_broken_5 rfl (lv_at hl 0 rfl) ?_
  refine va_get (D := (dC, dI)) (ci := 2) (v := .int br) (C := RX2) (T := TX2) (N := 8) hx hb hts inX2 hown hK hP 0 rfl rfl 6 (by decide) (hts (.fieldLink RX2 70 "VineWallModel" "broken" "I") (List.mem_of_getElem? (i := 2) rfl)) (fun _ h9 => h9) rfl dX2_broken_6 ?_
  exact kr br 0 _ _ _ _ he hP hS dX2_broken_9
