def spJ6_bitCount_0f7a4 (p0 : Int32) : Int32 := gv_b (p0 - (((p0.toUInt32 >>> ((1 : Int32).toUInt32 &&& Int32.toUInt32 31)).toInt32) &&& 1431655765)) (fun y9 => gv_b ((y9 &&& 858993459) + (((y9.toUInt32 >>> ((2 : Int32).toUInt32 &&& Int32.toUInt32 31)).toInt32) &&& 858993459)) (fun y23 => gv_b ((y23 + ((y23.toUInt32 >>> ((4 : Int32).toUInt32 &&& Int32.toUInt32 31)).toInt32)) &&& 252645135) (fun y33 => gv_b (y33 + ((y33.toUInt32 >>> ((8 : Int32).toUInt32 &&& Int32.toUInt32 31)).toInt32)) (fun y40 => gv_b (y40 + ((y40.toUInt32 >>> ((16 : Int32).toUInt32 &&& Int32.toUInt32 31)).toInt32)) (fun y47 => y47 &&& 63)))))
theorem spJ6_bitCount_0f7a4_e (p0 : Int32) : spJ6_bitCount_0f7a4 p0 = gv_b (p0 - (((p0.toUInt32 >>> ((1 : Int32).toUInt32 &&& Int32.toUInt32 31)).toInt32) &&& 1431655765)) (fun y9 => gv_b ((y9 &&& 858993459) + (((y9.toUInt32 >>> ((2 : Int32).toUInt32 &&& Int32.toUInt32 31)).toInt32) &&& 858993459)) (fun y23 => gv_b ((y23 + ((y23.toUInt32 >>> ((4 : Int32).toUInt32 &&& Int32.toUInt32 31)).toInt32)) &&& 252645135) (fun y33 => gv_b (y33 + ((y33.toUInt32 >>> ((8 : Int32).toUInt32 &&& Int32.toUInt32 31)).toInt32)) (fun y40 => gv_b (y40 + ((y40.toUInt32 >>> ((16 : Int32).toUInt32 &&& Int32.toUInt32 31)).toInt32)) (fun y47 => y47 &&& 63))))) := rfl
set_option maxHeartbeats 4000000 in
set_option maxRecDepth 100000 in
theorem kJ6_bitCount_0f7a4 (l : Launch) (dC : Nat → ClassId) (dI : Nat → Nat → Nat) (cI cL : ClassId)   (p0 : Int32) : gv_Mi l yJ6_bitCount_0f7a4 wsJ6_bitCount_0f7a4 0 0 (dC, dI) [(cI, .int), (cL, .long)] [.int p0] ([] : va_W) (fun (r : Int32) (_ : Unit) => r = spJ6_bitCount_0f7a4 p0) (fun (_ : Unit) => ([] : va_W)) := by
  refine gv_ofi (cc := cJ6_bitCount_0f7a4) (maxL := 1) (own := RJ6) (by decide) rfl (Nat.le_of_ble_eq_true rfl) rfl ?_
  intro A p e s m args below meth c Q ls H locs hx hb hml hts hown hP hK hD hN hS hl kr
  have hl : lv_has ls 1 [(0, .int p0)] := hl
  have he := (spJ6_bitCount_0f7a4_e p0).symm
  refine lv_iload_n hx hb dJ6_bitCount_0f7a4_0 rfl (lv_at hl 0 rfl) ?_
  refine lv_iload_n hx hb dJ6_bitCount_0f7a4_1 rfl (lv_at hl 0 rfl) ?_
  refine lv_iconst (v := 1) hx hb dJ6_bitCount_0f7a4_2 (by decide) ?_
  refine lv_iushr (v := (p0.toUInt32 >>> ((1 : Int32).toUInt32 &&& Int32.toUInt32 31)).toInt32) hx hb dJ6_bitCount_0f7a4_3 rfl ?_
  refine lv_ldcw (v := 1431655765) hx hb hown (hts (.constant RJ6 265 (1431655765)) (List.mem_of_getElem? (i := 1) rfl)) dJ6_bitCount_0f7a4_4 ?_
  refine lv_iand hx hb dJ6_bitCount_0f7a4_7 ?_
  refine lv_isub hx hb dJ6_bitCount_0f7a4_8 ?_
  refine lv_topi (fun y9 ey9 => ?_)
  have he := gv_q ey9 he
  refine lv_istore_n (lv' := [(0, .int y9)]) hx hb dJ6_bitCount_0f7a4_9 rfl hl (by decide) rfl (fun ls hl => ?_)
  refine lv_iload_n hx hb dJ6_bitCount_0f7a4_10 rfl (lv_at hl 0 rfl) ?_
  refine lv_ldcw (v := 858993459) hx hb hown (hts (.constant RJ6 266 (858993459)) (List.mem_of_getElem? (i := 2) rfl)) dJ6_bitCount_0f7a4_11 ?_
  refine lv_iand hx hb dJ6_bitCount_0f7a4_14 ?_
  refine lv_iload_n hx hb dJ6_bitCount_0f7a4_15 rfl (lv_at hl 0 rfl) ?_
  refine lv_iconst (v := 2) hx hb dJ6_bitCount_0f7a4_16 (by decide) ?_
  refine lv_iushr (v := (y9.toUInt32 >>> ((2 : Int32).toUInt32 &&& Int32.toUInt32 31)).toInt32) hx hb dJ6_bitCount_0f7a4_17 rfl ?_
  refine lv_ldcw (v := 858993459) hx hb hown (hts (.constant RJ6 266 (858993459)) (List.mem_of_getElem? (i := 2) rfl)) dJ6_bitCount_0f7a4_18 ?_
  refine lv_iand hx hb dJ6_bitCount_0f7a4_21 ?_
  refine lv_iadd hx hb dJ6_bitCount_0f7a4_22 ?_
  refine lv_topi (fun y23 ey23 => ?_)
  have he := gv_q ey23 he
  refine lv_istore_n (lv' := [(0, .int y23)]) hx hb dJ6_bitCount_0f7a4_23 rfl hl (by decide) rfl (fun ls hl => ?_)
  refine lv_iload_n hx hb dJ6_bitCount_0f7a4_24 rfl (lv_at hl 0 rfl) ?_
  refine lv_iload_n hx hb dJ6_bitCount_0f7a4_25 rfl (lv_at hl 0 rfl) ?_
  refine lv_iconst (v := 4) hx hb dJ6_bitCount_0f7a4_26 (by decide) ?_
  refine lv_iushr (v := (y23.toUInt32 >>> ((4 : Int32).toUInt32 &&& Int32.toUInt32 31)).toInt32) hx hb dJ6_bitCount_0f7a4_27 rfl ?_
  refine lv_iadd hx hb dJ6_bitCount_0f7a4_28 ?_
  refine lv_ldcw (v := 252645135) hx hb hown (hts (.constant RJ6 267 (252645135)) (List.mem_of_getElem? (i := 3) rfl)) dJ6_bitCount_0f7a4_29 ?_
  refine lv_iand hx hb dJ6_bitCount_0f7a4_32 ?_
  refine lv_topi (fun y33 ey33 => ?_)
  have he := gv_q ey33 he
  refine lv_istore_n (lv' := [(0, .int y33)]) hx hb dJ6_bitCount_0f7a4_33 rfl hl (by decide) rfl (fun ls hl => ?_)
  refine lv_iload_n hx hb dJ6_bitCount_0f7a4_34 rfl (lv_at hl 0 rfl) ?_
  refine lv_iload_n hx hb dJ6_bitCount_0f7a4_35 rfl (lv_at hl 0 rfl) ?_
  refine lv_bipush (v := 8) hx hb dJ6_bitCount_0f7a4_36 (by decide) ?_
  refine lv_iushr (v := (y33.toUInt32 >>> ((8 : Int32).toUInt32 &&& Int32.toUInt32 31)).toInt32) hx hb dJ6_bitCount_0f7a4_38 rfl ?_
  refine lv_iadd hx hb dJ6_bitCount_0f7a4_39 ?_
  refine lv_topi (fun y40 ey40 => ?_)
  have he := gv_q ey40 he
  refine lv_istore_n (lv' := [(0, .int y40)]) hx hb dJ6_bitCount_0f7a4_40 rfl hl (by decide) rfl (fun ls hl => ?_)
  refine lv_iload_n hx hb dJ6_bitCount_0f7a4_41 rfl (lv_at hl 0 rfl) ?_
  refine lv_iload_n hx hb dJ6_bitCount_0f7a4_42 rfl (lv_at hl 0 rfl) ?_
  refine lv_bipush (v := 16) hx hb dJ6_bitCount_0f7a4_43 (by decide) ?_
  refine lv_iushr (v := (y40.toUInt32 >>> ((16 : Int32).toUInt32 &&& Int32.toUInt32 31)).toInt32) hx hb dJ6_bitCount_0f7a4_45 rfl ?_
  refine lv_iadd hx hb dJ6_bitCount_0f7a4_46 ?_
  refine lv_topi (fun y47 ey47 => ?_)
  have he := gv_q ey47 he
  refine lv_istore_n (lv' := [(0, .int y47)]) hx hb dJ6_bitCount_0f7a4_47 rfl hl (by decide) rfl (fun ls hl => ?_)
  refine lv_iload_n hx hb dJ6_bitCount_0f7a4_48 rfl (lv_at hl 0 rfl) ?_
  refine lv_bipush (v := 63) hx hb dJ6_bitCount_0f7a4_49 (by decide) ?_
  refine lv_iand hx hb dJ6_bitCount_0f7a4_51 ?_
  exact kr (y47 &&& 63) () _ _ _ _ he hP hS dJ6_bitCount_0f7a4_52
def spX1_isCell (p0 : Int32) (p1 : Int32) : Int32 := (if p0 < 0 then 0 else (if 8 ≤ p0 then 0 else (if p1 < 0 then 0 else (if 12 ≤ p1 then 0 else 1))))
theorem spX1_isCell_e (p0 : Int32) (p1 : Int32) : spX1_isCell p0 p1 = (if p0 < 0 then 0 else (if 8 ≤ p0 then 0 else (if p1 < 0 then 0 else (if 12 ≤ p1 then 0 else 1)))) := rfl
set_option maxHeartbeats 4000000 in
set_option maxRecDepth 100000 in
theorem kX1_isCell (l : Launch) (dC : Nat → ClassId) (dI : Nat → Nat → Nat) (cI cL : ClassId)   (p0 : Int32) (p1 : Int32) : gv_Mi l yX1_isCell wsX1_isCell 0 0 (dC, dI) [(cI, .int), (cL, .long)] [.int p0, .int p1] ([] : va_W) (fun (r : Int32) (_ : Unit) => r = spX1_isCell p0 p1) (fun (_ : Unit) => ([] : va_W)) := by
  refine gv_ofz (cc := cX1_isCell) (maxL := 2) (own := RX1) (ty := .boolean) (by decide) rfl (Nat.le_of_ble_eq_true rfl) rfl ?_
  intro A p e s m args below meth c Q ls H locs hx hb hml hts hown hP hK hD hN hS hl kr
  have hl : lv_has ls 2 [(0, .int p0), (1, .int p1)] := hl
  have he := (spX1_isCell_e p0 p1).symm
  refine lv_iload_n hx hb dX1_isCell_0 rfl (lv_at hl 0 rfl) ?_
  refine lv_if_lt (tgt := 24) hx hb dX1_isCell_1 (by decide) (fun cd1 => ?_) (fun cd1 => ?_)
  · have he := gv_t cd1 he
    refine lv_iconst (v := 0) hx hb dX1_isCell_24 (by decide) ?_
    exact kr 0 () _ _ _ _ rfl he hP hS dX1_isCell_25
  · have he := gv_f cd1 he
    refine lv_iload_n hx hb dX1_isCell_4 rfl (lv_at hl 0 rfl) ?_
    refine lv_bipush (v := 8) hx hb dX1_isCell_5 (by decide) ?_
    refine lv_icmp_ge (tgt := 24) hx hb dX1_isCell_7 (by decide) (fun cd7 => ?_) (fun cd7 => ?_)
    · have he := gv_t cd7 he
      refine lv_iconst (v := 0) hx hb dX1_isCell_24 (by decide) ?_
      exact kr 0 () _ _ _ _ rfl he hP hS dX1_isCell_25
    · have he := gv_f cd7 he
      refine lv_iload_n hx hb dX1_isCell_10 rfl (lv_at hl 1 rfl) ?_
      refine lv_if_lt (tgt := 24) hx hb dX1_isCell_11 (by decide) (fun cd11 => ?_) (fun cd11 => ?_)
      · have he := gv_t cd11 he
        refine lv_iconst (v := 0) hx hb dX1_isCell_24 (by decide) ?_
        exact kr 0 () _ _ _ _ rfl he hP hS dX1_isCell_25
      · have he := gv_f cd11 he
        refine lv_iload_n hx hb dX1_isCell_14 rfl (lv_at hl 1 rfl) ?_
        refine lv_bipush (v := 12) hx hb dX1_isCell_15 (by decide) ?_
        refine lv_icmp_ge (tgt := 24) hx hb dX1_isCell_17 (by decide) (fun cd17 => ?_) (fun cd17 => ?_)
        · have he := gv_t cd17 he
          refine lv_iconst (v := 0) hx hb dX1_isCell_24 (by decide) ?_
          exact kr 0 () _ _ _ _ rfl he hP hS dX1_isCell_25
        · have he := gv_f cd17 he
          refine lv_iconst (v := 1) hx hb dX1_isCell_20 (by decide) ?_
          refine lv_goto (tgt := 25) hx hb dX1_isCell_21 (by decide) ?_
          exact kr 1 () _ _ _ _ rfl he hP hS dX1_isCell_25
def spX0_leafRow (f : Nat → Int32) (h : Nat → Int32) (p1 : Int32) : Int32 := (if p1 < 0 then 0 else (if 8 ≤ p1 then 0 else f p1.toNatClampNeg))
theorem spX0_leafRow_e (f : Nat → Int32) (h : Nat → Int32) (p1 : Int32) : spX0_leafRow f h p1 = (if p1 < 0 then 0 else (if 8 ≤ p1 then 0 else f p1.toNatClampNeg)) := rfl
set_option maxHeartbeats 4000000 in
set_option maxRecDepth 100000 in
theorem kX0_leafRow (l : Launch) (dC : Nat → ClassId) (dI : Nat → Nat → Nat) (cI cL : ClassId) (h0 : Nat) (h1 : Nat) (h2 : Nat) (f : Nat → Int32) (h : Nat → Int32) (p1 : Int32) : gv_Mi l yX0_leafRow wsX0_leafRow 0 0 (dC, dI) [(cI, .int), (cL, .long)] [.ref h0, .int p1] (gv_W cI h0 h1 h2 f h) (fun (r : Int32) (_ : Unit) => r = spX0_leafRow f h p1) (fun (_ : Unit) => (gv_W cI h0 h1 h2 f h)) := by
  refine gv_ofi (cc := cX0_leafRow) (maxL := 2) (own := RX0) (by decide) rfl (Nat.le_of_ble_eq_true rfl) rfl ?_
  intro A p e s m args below meth c Q ls H locs hx hb hml hts hown hP hK hD hN hS hl kr
  have inX0 : ∀ w ∈ wsX00, w ∈ wsX0_leafRow := (fun _ h => List.mem_cons_of_mem _ (List.mem_append_right _ h))
  have hl : lv_has ls 2 [(0, .ref h0), (1, .int p1)] := hl
  have he := (spX0_leafRow_e f h p1).symm
  refine lv_iload_n hx hb dX0_leafRow_0 rfl (lv_at hl 1 rfl) ?_
  refine lv_if_lt (tgt := 19) hx hb dX0_leafRow_1 (by decide) (fun cd1 => ?_) (fun cd1 => ?_)
  · have he := gv_t cd1 he
    refine lv_iconst (v := 0) hx hb dX0_leafRow_19 (by decide) ?_
    exact kr 0 () _ _ _ _ he hP hS dX0_leafRow_20
  · have he := gv_f cd1 he
    refine lv_iload_n hx hb dX0_leafRow_4 rfl (lv_at hl 1 rfl) ?_
    refine lv_bipush (v := 8) hx hb dX0_leafRow_5 (by decide) ?_
    refine lv_icmp_ge (tgt := 19) hx hb dX0_leafRow_7 (by decide) (fun cd7 => ?_) (fun cd7 => ?_)
    · have he := gv_t cd7 he
      refine lv_iconst (v := 0) hx hb dX0_leafRow_19 (by decide) ?_
      exact kr 0 () _ _ _ _ he hP hS dX0_leafRow_20
    · have he := gv_f cd7 he
      refine lv_aload_n hx hb dX0_leafRow_10 rfl (lv_at hl 0 rfl) ?_
      refine va_get (D := (dC, dI)) (ci := 0) (v := .ref h1) (C := RX0) (T := TX0) (N := 2) hx hb hts inX0 hown hK hP 0 rfl rfl 0 (by decide) (hts (.fieldLink RX0 9 "VineWall$Wall" "leafRows" "[I") (List.mem_of_getElem? (i := 1) rfl)) (fun _ h9 => h9) rfl dX0_leafRow_11 ?_
      refine lv_iload_n hx hb dX0_leafRow_14 rfl (lv_at hl 1 rfl) ?_
      refine va_iald (cA := cI) hx hb hK hP 1 0 rfl rfl (gv_in8 cd1 (rfl : (8 : Int32) = nI 8) (by decide) cd7) dX0_leafRow_15 ?_
      refine lv_goto (tgt := 20) hx hb dX0_leafRow_16 (by decide) ?_
      exact kr (f p1.toNatClampNeg) () _ _ _ _ he hP hS dX0_leafRow_20
def spX0_hasCutAt (f : Nat → Int32) (h : Nat → Int32) (p1 : Int32) (p2 : Int32) : Int32 := (if p1 < 0 then 0 else (if 8 ≤ p1 then 0 else (if (((h p1.toNatClampNeg) >>> (p2 &&& 31)) &&& 1) = 1 then 1 else 0)))
theorem spX0_hasCutAt_e (f : Nat → Int32) (h : Nat → Int32) (p1 : Int32) (p2 : Int32) : spX0_hasCutAt f h p1 p2 = (if p1 < 0 then 0 else (if 8 ≤ p1 then 0 else (if (((h p1.toNatClampNeg) >>> (p2 &&& 31)) &&& 1) = 1 then 1 else 0))) := rfl
set_option maxHeartbeats 4000000 in
set_option maxRecDepth 100000 in
theorem kX0_hasCutAt (l : Launch) (dC : Nat → ClassId) (dI : Nat → Nat → Nat) (cI cL : ClassId) (h0 : Nat) (h1 : Nat) (h2 : Nat) (f : Nat → Int32) (h : Nat → Int32) (p1 : Int32) (p2 : Int32) : gv_Mi l yX0_hasCutAt wsX0_hasCutAt 0 0 (dC, dI) [(cI, .int), (cL, .long)] [.ref h0, .int p1, .int p2] (gv_W cI h0 h1 h2 f h) (fun (r : Int32) (_ : Unit) => r = spX0_hasCutAt f h p1 p2) (fun (_ : Unit) => (gv_W cI h0 h1 h2 f h)) := by
  refine gv_ofz (cc := cX0_hasCutAt) (maxL := 3) (own := RX0) (ty := .boolean) (by decide) rfl (Nat.le_of_ble_eq_true rfl) rfl ?_
  intro A p e s m args below meth c Q ls H locs hx hb hml hts hown hP hK hD hN hS hl kr
  have inX0 : ∀ w ∈ wsX00, w ∈ wsX0_hasCutAt := (fun _ h => List.mem_cons_of_mem _ (List.mem_append_right _ h))
  have hl : lv_has ls 3 [(0, .ref h0), (1, .int p1), (2, .int p2)] := hl
  have he := (spX0_hasCutAt_e f h p1 p2).symm
  refine lv_iload_n hx hb dX0_hasCutAt_0 rfl (lv_at hl 1 rfl) ?_
  refine lv_if_lt (tgt := 28) hx hb dX0_hasCutAt_1 (by decide) (fun cd1 => ?_) (fun cd1 => ?_)
  · have he := gv_t cd1 he
    refine lv_iconst (v := 0) hx hb dX0_hasCutAt_28 (by decide) ?_
    exact kr 0 () _ _ _ _ rfl he hP hS dX0_hasCutAt_29
  · have he := gv_f cd1 he
    refine lv_iload_n hx hb dX0_hasCutAt_4 rfl (lv_at hl 1 rfl) ?_
    refine lv_bipush (v := 8) hx hb dX0_hasCutAt_5 (by decide) ?_
    refine lv_icmp_ge (tgt := 28) hx hb dX0_hasCutAt_7 (by decide) (fun cd7 => ?_) (fun cd7 => ?_)
    · have he := gv_t cd7 he
      refine lv_iconst (v := 0) hx hb dX0_hasCutAt_28 (by decide) ?_
      exact kr 0 () _ _ _ _ rfl he hP hS dX0_hasCutAt_29
    · have he := gv_f cd7 he
      refine lv_aload_n hx hb dX0_hasCutAt_10 rfl (lv_at hl 0 rfl) ?_
      refine va_get (D := (dC, dI)) (ci := 0) (v := .ref h2) (C := RX0) (T := TX0) (N := 2) hx hb hts inX0 hown hK hP 0 rfl rfl 1 (by decide) (hts (.fieldLink RX0 15 "VineWall$Wall" "cutRows" "[I") (List.mem_of_getElem? (i := 1) rfl)) (fun _ h9 => h9) rfl dX0_hasCutAt_11 ?_
      refine lv_iload_n hx hb dX0_hasCutAt_14 rfl (lv_at hl 1 rfl) ?_
      refine va_iald (cA := cI) hx hb hK hP 2 0 rfl rfl (gv_in8 cd1 (rfl : (8 : Int32) = nI 8) (by decide) cd7) dX0_hasCutAt_15 ?_
      refine lv_iload_n hx hb dX0_hasCutAt_16 rfl (lv_at hl 2 rfl) ?_
      refine lv_ishr hx hb dX0_hasCutAt_17 ?_
      refine lv_iconst (v := 1) hx hb dX0_hasCutAt_18 (by decide) ?_
      refine lv_iand hx hb dX0_hasCutAt_19 ?_
      refine lv_iconst (v := 1) hx hb dX0_hasCutAt_20 (by decide) ?_
      refine lv_icmp_ne (tgt := 28) hx hb dX0_hasCutAt_21 (by decide) (fun cd21 => ?_) (fun cd21 => ?_)
      · have he := gv_f cd21 he
        refine lv_iconst (v := 0) hx hb dX0_hasCutAt_28 (by decide) ?_
        exact kr 0 () _ _ _ _ rfl he hP hS dX0_hasCutAt_29
      · have he := gv_t cd21 he
        refine lv_iconst (v := 1) hx hb dX0_hasCutAt_24 (by decide) ?_
        refine lv_goto (tgt := 29) hx hb dX0_hasCutAt_25 (by decide) ?_
        exact kr 1 () _ _ _ _ rfl he hP hS dX0_hasCutAt_29
def spX0_hasLeafAt (f : Nat → Int32) (h : Nat → Int32) (p1 : Int32) (p2 : Int32) : Int32 := gv_b (spX0_leafRow f h p1) (fun q2 => (if ((q2 >>> (p2 &&& 31)) &&& 1) = 1 then 1 else 0))
theorem spX0_hasLeafAt_e (f : Nat → Int32) (h : Nat → Int32) (p1 : Int32) (p2 : Int32) : spX0_hasLeafAt f h p1 p2 = gv_b (spX0_leafRow f h p1) (fun q2 => (if ((q2 >>> (p2 &&& 31)) &&& 1) = 1 then 1 else 0)) := rfl
set_option maxHeartbeats 4000000 in
set_option maxRecDepth 100000 in
theorem kX0_hasLeafAt (l : Launch) (dC : Nat → ClassId) (dI : Nat → Nat → Nat) (cI cL : ClassId) (h0 : Nat) (h1 : Nat) (h2 : Nat) (f : Nat → Int32) (h : Nat → Int32) (p1 : Int32) (p2 : Int32) : gv_Mi l yX0_hasLeafAt wsX0_hasLeafAt 1 21 (dC, dI) [(cI, .int), (cL, .long)] [.ref h0, .int p1, .int p2] (gv_W cI h0 h1 h2 f h) (fun (r : Int32) (_ : Unit) => r = spX0_hasLeafAt f h p1 p2) (fun (_ : Unit) => (gv_W cI h0 h1 h2 f h)) := by
  refine gv_ofz (cc := cX0_hasLeafAt) (maxL := 3) (own := RX0) (ty := .boolean) (by decide) rfl (Nat.le_of_ble_eq_true rfl) rfl ?_
  intro A p e s m args below meth c Q ls H locs hx hb hml hts hown hP hK hD hN hS hl kr
  have inX0 : ∀ w ∈ wsX00, w ∈ wsX0_hasLeafAt := (fun _ h => List.mem_cons_of_mem _ (List.mem_append_right _ h))
  have hl : lv_has ls 3 [(0, .ref h0), (1, .int p1), (2, .int p2)] := hl
  have he := (spX0_hasLeafAt_e f h p1 p2).symm
  refine lv_aload_n hx hb dX0_hasLeafAt_0 rfl (lv_at hl 0 rfl) ?_
  refine lv_iload_n hx hb dX0_hasLeafAt_1 rfl (lv_at hl 1 rfl) ?_
  have hPc : va_P (dC, dI) vwCl (gv_W cI h0 h1 h2 f h) H := gv_sub [0, 1, 2] hP rfl
  have hDc : va_D (gv_in (gv_W cI h0 h1 h2 f h)) (gv_W cI h0 h1 h2 f h) := gv_D hD [0, 1, 2] (by decide) rfl
  refine gv_ki (wf := (fun (_ : Unit) => (gv_W cI h0 h1 h2 f h))) (wc := (gv_W cI h0 h1 h2 f h)) [0, 1, 2] (fun _ => rfl) hP hD hS rfl rfl (va_runV (As := [.int p1]) (rest := []) ⟨hx, hb, hml, hown, hts⟩ (kX0_leafRow l dC dI cI cL h0 h1 h2 f h p1 (gv_in (gv_W cI h0 h1 h2 f h))) (cwV (rm := gv_R 0 0) 1 hts gX0_hasLeafAt_X0_leafRow rfl rfl rfl (by decide +kernel) ⟨Nat.le_of_ble_eq_true rfl, Nat.le_of_ble_eq_true rfl⟩) (gv_preV (ci := 0) hK hPc hDc hN rfl rfl) rfl rfl hl.1 rfl (lv_room (Nat.le_of_ble_eq_true rfl)) dX0_hasLeafAt_2 ⟨Nat.zero_le _, Nat.zero_le _⟩) (fun q2 u H locs hw hP hD hS => ?_)
  have he := gv_q hw he
  have hP : va_P (dC, dI) vwCl (gv_W cI h0 h1 h2 f h) H := hP
  have hD : va_D A (gv_W cI h0 h1 h2 f h) := hD
  refine lv_iload_n hx hb dX0_hasLeafAt_5 rfl (lv_at hl 2 rfl) ?_
  refine lv_ishr hx hb dX0_hasLeafAt_6 ?_
  refine lv_iconst (v := 1) hx hb dX0_hasLeafAt_7 (by decide) ?_
  refine lv_iand hx hb dX0_hasLeafAt_8 ?_
  refine lv_iconst (v := 1) hx hb dX0_hasLeafAt_9 (by decide) ?_
  refine lv_icmp_ne (tgt := 17) hx hb dX0_hasLeafAt_10 (by decide) (fun cd10 => ?_) (fun cd10 => ?_)
  · have he := gv_f cd10 he
    refine lv_iconst (v := 0) hx hb dX0_hasLeafAt_17 (by decide) ?_
    exact kr 0 () _ _ _ _ rfl he hP hS dX0_hasLeafAt_18
  · have he := gv_t cd10 he
    refine lv_iconst (v := 1) hx hb dX0_hasLeafAt_13 (by decide) ?_
    refine lv_goto (tgt := 18) hx hb dX0_hasLeafAt_14 (by decide) ?_
    exact kr 1 () _ _ _ _ rfl he hP hS dX0_hasLeafAt_18
def spX0_isBareAt (f : Nat → Int32) (h : Nat → Int32) (p1 : Int32) (p2 : Int32) : Int32 := gv_b (spX0_hasLeafAt f h p1 p2) (fun q3 => (if q3 = 0 then gv_b (spX0_hasCutAt f h p1 p2) (fun q12 => (if q12 = 0 then 1 else 0)) else 0))
theorem spX0_isBareAt_e (f : Nat → Int32) (h : Nat → Int32) (p1 : Int32) (p2 : Int32) : spX0_isBareAt f h p1 p2 = gv_b (spX0_hasLeafAt f h p1 p2) (fun q3 => (if q3 = 0 then gv_b (spX0_hasCutAt f h p1 p2) (fun q12 => (if q12 = 0 then 1 else 0)) else 0)) := rfl
set_option maxHeartbeats 4000000 in
set_option maxRecDepth 100000 in
theorem kX0_isBareAt (l : Launch) (dC : Nat → ClassId) (dI : Nat → Nat → Nat) (cI cL : ClassId) (h0 : Nat) (h1 : Nat) (h2 : Nat) (f : Nat → Int32) (h : Nat → Int32) (p1 : Int32) (p2 : Int32) : gv_Mi l yX0_isBareAt wsX0_isBareAt 2 43 (dC, dI) [(cI, .int), (cL, .long)] [.ref h0, .int p1, .int p2] (gv_W cI h0 h1 h2 f h) (fun (r : Int32) (_ : Unit) => r = spX0_isBareAt f h p1 p2) (fun (_ : Unit) => (gv_W cI h0 h1 h2 f h)) := by
  refine gv_ofz (cc := cX0_isBareAt) (maxL := 3) (own := RX0) (ty := .boolean) (by decide) rfl (Nat.le_of_ble_eq_true rfl) rfl ?_
  intro A p e s m args below meth c Q ls H locs hx hb hml hts hown hP hK hD hN hS hl kr
  have inX0 : ∀ w ∈ wsX00, w ∈ wsX0_isBareAt := (fun _ h => List.mem_cons_of_mem _ (List.mem_append_right _ h))
  have hl : lv_has ls 3 [(0, .ref h0), (1, .int p1), (2, .int p2)] := hl
  have he := (spX0_isBareAt_e f h p1 p2).symm
  refine lv_aload_n hx hb dX0_isBareAt_0 rfl (lv_at hl 0 rfl) ?_
  refine lv_iload_n hx hb dX0_isBareAt_1 rfl (lv_at hl 1 rfl) ?_
  refine lv_iload_n hx hb dX0_isBareAt_2 rfl (lv_at hl 2 rfl) ?_
  have hPc : va_P (dC, dI) vwCl (gv_W cI h0 h1 h2 f h) H := gv_sub [0, 1, 2] hP rfl
  have hDc : va_D (gv_in (gv_W cI h0 h1 h2 f h)) (gv_W cI h0 h1 h2 f h) := gv_D hD [0, 1, 2] (by decide) rfl
  refine gv_ki (wf := (fun (_ : Unit) => (gv_W cI h0 h1 h2 f h))) (wc := (gv_W cI h0 h1 h2 f h)) [0, 1, 2] (fun _ => rfl) hP hD hS rfl rfl (va_runV (As := [.int p1, .int p2]) (rest := []) ⟨hx, hb, hml, hown, hts⟩ (kX0_hasLeafAt l dC dI cI cL h0 h1 h2 f h p1 p2 (gv_in (gv_W cI h0 h1 h2 f h))) (cwV (rm := gv_R 1 21) 2 hts gX0_isBareAt_X0_hasLeafAt rfl rfl rfl (by decide +kernel) ⟨Nat.le_of_ble_eq_true rfl, Nat.le_of_ble_eq_true rfl⟩) (gv_preV (ci := 0) hK hPc hDc hN rfl rfl) rfl rfl hl.1 rfl (lv_room (Nat.le_of_ble_eq_true rfl)) dX0_isBareAt_3 ⟨Nat.zero_le _, Nat.zero_le _⟩) (fun q3 u H locs hw hP hD hS => ?_)
  have he := gv_q hw he
  have hP : va_P (dC, dI) vwCl (gv_W cI h0 h1 h2 f h) H := hP
  have hD : va_D A (gv_W cI h0 h1 h2 f h) := hD
  refine lv_if_ne (tgt := 22) hx hb dX0_isBareAt_6 (by decide) (fun cd6 => ?_) (fun cd6 => ?_)
  · have he := gv_f cd6 he
    refine lv_iconst (v := 0) hx hb dX0_isBareAt_22 (by decide) ?_
    exact kr 0 () _ _ _ _ rfl he hP hS dX0_isBareAt_23
  · have he := gv_t cd6 he
    refine lv_aload_n hx hb dX0_isBareAt_9 rfl (lv_at hl 0 rfl) ?_
    refine lv_iload_n hx hb dX0_isBareAt_10 rfl (lv_at hl 1 rfl) ?_
    refine lv_iload_n hx hb dX0_isBareAt_11 rfl (lv_at hl 2 rfl) ?_
    have hPc : va_P (dC, dI) vwCl (gv_W cI h0 h1 h2 f h) H := gv_sub [0, 1, 2] hP rfl
    have hDc : va_D (gv_in (gv_W cI h0 h1 h2 f h)) (gv_W cI h0 h1 h2 f h) := gv_D hD [0, 1, 2] (by decide) rfl
    refine gv_ki (wf := (fun (_ : Unit) => (gv_W cI h0 h1 h2 f h))) (wc := (gv_W cI h0 h1 h2 f h)) [0, 1, 2] (fun _ => rfl) hP hD hS rfl rfl (va_runV (As := [.int p1, .int p2]) (rest := []) ⟨hx, hb, hml, hown, hts⟩ (kX0_hasCutAt l dC dI cI cL h0 h1 h2 f h p1 p2 (gv_in (gv_W cI h0 h1 h2 f h))) (cwV (rm := gv_R 0 0) 2 hts gX0_isBareAt_X0_hasCutAt rfl rfl rfl (by decide +kernel) ⟨Nat.le_of_ble_eq_true rfl, Nat.le_of_ble_eq_true rfl⟩) (gv_preV (ci := 0) hK hPc hDc hN rfl rfl) rfl rfl hl.1 rfl (lv_room (Nat.le_of_ble_eq_true rfl)) dX0_isBareAt_12 ⟨Nat.zero_le _, Nat.zero_le _⟩) (fun q12 u H locs hw hP hD hS => ?_)
    have he := gv_q hw he
    have hP : va_P (dC, dI) vwCl (gv_W cI h0 h1 h2 f h) H := hP
    have hD : va_D A (gv_W cI h0 h1 h2 f h) := hD
    refine lv_if_ne (tgt := 22) hx hb dX0_isBareAt_15 (by decide) (fun cd15 => ?_) (fun cd15 => ?_)
    · have he := gv_f cd15 he
      refine lv_iconst (v := 0) hx hb dX0_isBareAt_22 (by decide) ?_
      exact kr 0 () _ _ _ _ rfl he hP hS dX0_isBareAt_23
    · have he := gv_t cd15 he
      refine lv_iconst (v := 1) hx hb dX0_isBareAt_18 (by decide) ?_
      refine lv_goto (tgt := 23) hx hb dX0_isBareAt_19 (by decide) ?_
      exact kr 1 () _ _ _ _ rfl he hP hS dX0_isBareAt_23
def spX0_countHolders (p0 : Int32) : Int32 := gv_b (spJ6_bitCount_0f7a4 (p0 &&& 7)) (fun q4 => q4)
theorem spX0_countHolders_e (p0 : Int32) : spX0_countHolders p0 = gv_b (spJ6_bitCount_0f7a4 (p0 &&& 7)) (fun q4 => q4) := rfl
set_option maxHeartbeats 4000000 in
set_option maxRecDepth 100000 in
theorem kX0_countHolders (l : Launch) (dC : Nat → ClassId) (dI : Nat → Nat → Nat) (cI cL : ClassId)   (p0 : Int32) : gv_Mi l yX0_countHolders wsX0_countHolders 1 20 (dC, dI) [(cI, .int), (cL, .long)] [.int p0] ([] : va_W) (fun (r : Int32) (_ : Unit) => r = spX0_countHolders p0) (fun (_ : Unit) => ([] : va_W)) := by
  refine gv_ofi (cc := cX0_countHolders) (maxL := 1) (own := RX0) (by decide) rfl (Nat.le_of_ble_eq_true rfl) rfl ?_
  intro A p e s m args below meth c Q ls H locs hx hb hml hts hown hP hK hD hN hS hl kr
  have hl : lv_has ls 1 [(0, .int p0)] := hl
  have he := (spX0_countHolders_e p0).symm
  refine lv_iload_n hx hb dX0_countHolders_0 rfl (lv_at hl 0 rfl) ?_
  refine lv_bipush (v := 7) hx hb dX0_countHolders_1 (by decide) ?_
  refine lv_iand hx hb dX0_countHolders_3 ?_
  have hPc : va_P (dC, dI) vwCl ([] : va_W) H := gv_P0
  have hDc : va_D (gv_in ([] : va_W)) ([] : va_W) := gv_D0
  refine gv_ki (wf := (fun (_ : Unit) => ([] : va_W))) (wc := ([] : va_W)) [] (fun _ => rfl) hP hD hS rfl rfl (va_runS (As := [.int (p0 &&& 7)]) (rest := []) ⟨hx, hb, hml, hown, hts⟩ (kJ6_bitCount_0f7a4 l dC dI cI cL (p0 &&& 7) (gv_in ([] : va_W))) (va_cwS (rm := gv_R 0 0) 1 hts gX0_countHolders_J6_bitCount_0f7a4 rfl rfl rfl (by decide +kernel) ⟨Nat.le_of_ble_eq_true rfl, Nat.le_of_ble_eq_true rfl⟩) (gv_preS hK hPc hDc hN) rfl rfl hl.1 rfl (lv_room (Nat.le_of_ble_eq_true rfl)) dX0_countHolders_4 ⟨Nat.zero_le _, Nat.zero_le _⟩) (fun q4 u H locs hw hP hD hS => ?_)
  have he := gv_q hw he
  have hP : va_P (dC, dI) vwCl ([] : va_W) H := hP
  have hD : va_D A ([] : va_W) := hD
  exact kr q4 () _ _ _ _ he hP hS dX0_countHolders_7
def spX0_countNeighbours (p0 : Int32) (p1 : Int32) (p2 : Int32) : Int32 := gv_b (spJ6_bitCount_0f7a4 (p0 &&& 7)) (fun q4 => gv_b (spJ6_bitCount_0f7a4 (p1 &&& 5)) (fun q10 => gv_b (spJ6_bitCount_0f7a4 (p2 &&& 7)) (fun q18 => (q4 + q10) + q18)))
theorem spX0_countNeighbours_e (p0 : Int32) (p1 : Int32) (p2 : Int32) : spX0_countNeighbours p0 p1 p2 = gv_b (spJ6_bitCount_0f7a4 (p0 &&& 7)) (fun q4 => gv_b (spJ6_bitCount_0f7a4 (p1 &&& 5)) (fun q10 => gv_b (spJ6_bitCount_0f7a4 (p2 &&& 7)) (fun q18 => (q4 + q10) + q18))) := rfl
set_option maxHeartbeats 4000000 in
set_option maxRecDepth 100000 in
theorem kX0_countNeighbours (l : Launch) (dC : Nat → ClassId) (dI : Nat → Nat → Nat) (cI cL : ClassId)   (p0 : Int32) (p1 : Int32) (p2 : Int32) : gv_Mi l yX0_countNeighbours wsX0_countNeighbours 1 20 (dC, dI) [(cI, .int), (cL, .long)] [.int p0, .int p1, .int p2] ([] : va_W) (fun (r : Int32) (_ : Unit) => r = spX0_countNeighbours p0 p1 p2) (fun (_ : Unit) => ([] : va_W)) := by
  refine gv_ofi (cc := cX0_countNeighbours) (maxL := 3) (own := RX0) (by decide) rfl (Nat.le_of_ble_eq_true rfl) rfl ?_
  intro A p e s m args below meth c Q ls H locs hx hb hml hts hown hP hK hD hN hS hl kr
  have hl : lv_has ls 3 [(0, .int p0), (1, .int p1), (2, .int p2)] := hl
  have he := (spX0_countNeighbours_e p0 p1 p2).symm
  refine lv_iload_n hx hb dX0_countNeighbours_0 rfl (lv_at hl 0 rfl) ?_
  refine lv_bipush (v := 7) hx hb dX0_countNeighbours_1 (by decide) ?_
  refine lv_iand hx hb dX0_countNeighbours_3 ?_
  have hPc : va_P (dC, dI) vwCl ([] : va_W) H := gv_P0
  have hDc : va_D (gv_in ([] : va_W)) ([] : va_W) := gv_D0
  refine gv_ki (wf := (fun (_ : Unit) => ([] : va_W))) (wc := ([] : va_W)) [] (fun _ => rfl) hP hD hS rfl rfl (va_runS (As := [.int (p0 &&& 7)]) (rest := []) ⟨hx, hb, hml, hown, hts⟩ (kJ6_bitCount_0f7a4 l dC dI cI cL (p0 &&& 7) (gv_in ([] : va_W))) (va_cwS (rm := gv_R 0 0) 1 hts gX0_countNeighbours_J6_bitCount_0f7a4 rfl rfl rfl (by decide +kernel) ⟨Nat.le_of_ble_eq_true rfl, Nat.le_of_ble_eq_true rfl⟩) (gv_preS hK hPc hDc hN) rfl rfl hl.1 rfl (lv_room (Nat.le_of_ble_eq_true rfl)) dX0_countNeighbours_4 ⟨Nat.zero_le _, Nat.zero_le _⟩) (fun q4 u H locs hw hP hD hS => ?_)
  have he := gv_q hw he
  have hP : va_P (dC, dI) vwCl ([] : va_W) H := hP
  have hD : va_D A ([] : va_W) := hD
  refine lv_iload_n hx hb dX0_countNeighbours_7 rfl (lv_at hl 1 rfl) ?_
  refine lv_iconst (v := 5) hx hb dX0_countNeighbours_8 (by decide) ?_
  refine lv_iand hx hb dX0_countNeighbours_9 ?_
  have hPc : va_P (dC, dI) vwCl ([] : va_W) H := gv_P0
  have hDc : va_D (gv_in ([] : va_W)) ([] : va_W) := gv_D0
  refine gv_ki (wf := (fun (_ : Unit) => ([] : va_W))) (wc := ([] : va_W)) [] (fun _ => rfl) hP hD hS rfl rfl (va_runS (As := [.int (p1 &&& 5)]) (rest := [.int q4]) ⟨hx, hb, hml, hown, hts⟩ (kJ6_bitCount_0f7a4 l dC dI cI cL (p1 &&& 5) (gv_in ([] : va_W))) (va_cwS (rm := gv_R 0 0) 1 hts gX0_countNeighbours_J6_bitCount_0f7a4 rfl rfl rfl (by decide +kernel) ⟨Nat.le_of_ble_eq_true rfl, Nat.le_of_ble_eq_true rfl⟩) (gv_preS hK hPc hDc hN) rfl rfl hl.1 rfl (lv_room (Nat.le_of_ble_eq_true rfl)) dX0_countNeighbours_10 ⟨Nat.zero_le _, Nat.zero_le _⟩) (fun q10 u H locs hw hP hD hS => ?_)
  have he := gv_q hw he
  have hP : va_P (dC, dI) vwCl ([] : va_W) H := hP
  have hD : va_D A ([] : va_W) := hD
  refine lv_iadd hx hb dX0_countNeighbours_13 ?_
  refine lv_iload_n hx hb dX0_countNeighbours_14 rfl (lv_at hl 2 rfl) ?_
  refine lv_bipush (v := 7) hx hb dX0_countNeighbours_15 (by decide) ?_
  refine lv_iand hx hb dX0_countNeighbours_17 ?_
  have hPc : va_P (dC, dI) vwCl ([] : va_W) H := gv_P0
  have hDc : va_D (gv_in ([] : va_W)) ([] : va_W) := gv_D0
  refine gv_ki (wf := (fun (_ : Unit) => ([] : va_W))) (wc := ([] : va_W)) [] (fun _ => rfl) hP hD hS rfl rfl (va_runS (As := [.int (p2 &&& 7)]) (rest := [.int (q4 + q10)]) ⟨hx, hb, hml, hown, hts⟩ (kJ6_bitCount_0f7a4 l dC dI cI cL (p2 &&& 7) (gv_in ([] : va_W))) (va_cwS (rm := gv_R 0 0) 1 hts gX0_countNeighbours_J6_bitCount_0f7a4 rfl rfl rfl (by decide +kernel) ⟨Nat.le_of_ble_eq_true rfl, Nat.le_of_ble_eq_true rfl⟩) (gv_preS hK hPc hDc hN) rfl rfl hl.1 rfl (lv_room (Nat.le_of_ble_eq_true rfl)) dX0_countNeighbours_18 ⟨Nat.zero_le _, Nat.zero_le _⟩) (fun q18 u H locs hw hP hD hS => ?_)
  have he := gv_q hw he
  have hP : va_P (dC, dI) vwCl ([] : va_W) H := hP
  have hD : va_D A ([] : va_W) := hD
  refine lv_iadd hx hb dX0_countNeighbours_21 ?_
  exact kr ((q4 + q10) + q18) () _ _ _ _ he hP hS dX0_countNeighbours_22
def spX0_leafRowAsSeen (f : Nat → Int32) (h : Nat → Int32) (p1 : Int32) (p2 : Int32) : Int32 := gv_b (spX0_leafRow f h p1) (fun q2 => (if p2 = 1 then gv_b ((q2 <<< ((1 : Int32) &&& 31)) ||| (((q2 >>> ((11 : Int32) &&& 31)) &&& 1) ||| ((q2 &&& 1) <<< ((13 : Int32) &&& 31)))) (fun y40 => y40) else (if p2 = 2 then gv_b ((q2 <<< ((1 : Int32) &&& 31)) ||| ((q2 &&& 1) ||| (((q2 >>> ((11 : Int32) &&& 31)) &&& 1) <<< ((13 : Int32) &&& 31)))) (fun y61 => y61) else q2 <<< ((1 : Int32) &&& 31))))
theorem spX0_leafRowAsSeen_e (f : Nat → Int32) (h : Nat → Int32) (p1 : Int32) (p2 : Int32) : spX0_leafRowAsSeen f h p1 p2 = gv_b (spX0_leafRow f h p1) (fun q2 => (if p2 = 1 then gv_b ((q2 <<< ((1 : Int32) &&& 31)) ||| (((q2 >>> ((11 : Int32) &&& 31)) &&& 1) ||| ((q2 &&& 1) <<< ((13 : Int32) &&& 31)))) (fun y40 => y40) else (if p2 = 2 then gv_b ((q2 <<< ((1 : Int32) &&& 31)) ||| ((q2 &&& 1) ||| (((q2 >>> ((11 : Int32) &&& 31)) &&& 1) <<< ((13 : Int32) &&& 31)))) (fun y61 => y61) else q2 <<< ((1 : Int32) &&& 31)))) := rfl
set_option maxHeartbeats 4000000 in
set_option maxRecDepth 100000 in
theorem kX0_leafRowAsSeen (l : Launch) (dC : Nat → ClassId) (dI : Nat → Nat → Nat) (cI cL : ClassId) (h0 : Nat) (h1 : Nat) (h2 : Nat) (f : Nat → Int32) (h : Nat → Int32) (p1 : Int32) (p2 : Int32) : gv_Mi l yX0_leafRowAsSeen wsX0_leafRowAsSeen 1 21 (dC, dI) [(cI, .int), (cL, .long)] [.ref h0, .int p1, .int p2] (gv_W cI h0 h1 h2 f h) (fun (r : Int32) (_ : Unit) => r = spX0_leafRowAsSeen f h p1 p2) (fun (_ : Unit) => (gv_W cI h0 h1 h2 f h)) := by
  refine gv_ofi (cc := cX0_leafRowAsSeen) (maxL := 7) (own := RX0) (by decide) rfl (Nat.le_of_ble_eq_true rfl) rfl ?_
  intro A p e s m args below meth c Q ls H locs hx hb hml hts hown hP hK hD hN hS hl kr
  have inX0 : ∀ w ∈ wsX00, w ∈ wsX0_leafRowAsSeen := (fun _ h => List.mem_cons_of_mem _ (List.mem_append_right _ h))
  have hl : lv_has ls 7 [(0, .ref h0), (1, .int p1), (2, .int p2)] := hl
  have he := (spX0_leafRowAsSeen_e f h p1 p2).symm
  refine lv_aload_n hx hb dX0_leafRowAsSeen_0 rfl (lv_at hl 0 rfl) ?_
  refine lv_iload_n hx hb dX0_leafRowAsSeen_1 rfl (lv_at hl 1 rfl) ?_
  have hPc : va_P (dC, dI) vwCl (gv_W cI h0 h1 h2 f h) H := gv_sub [0, 1, 2] hP rfl
  have hDc : va_D (gv_in (gv_W cI h0 h1 h2 f h)) (gv_W cI h0 h1 h2 f h) := gv_D hD [0, 1, 2] (by decide) rfl
  refine gv_ki (wf := (fun (_ : Unit) => (gv_W cI h0 h1 h2 f h))) (wc := (gv_W cI h0 h1 h2 f h)) [0, 1, 2] (fun _ => rfl) hP hD hS rfl rfl (va_runV (As := [.int p1]) (rest := []) ⟨hx, hb, hml, hown, hts⟩ (kX0_leafRow l dC dI cI cL h0 h1 h2 f h p1 (gv_in (gv_W cI h0 h1 h2 f h))) (cwV (rm := gv_R 0 0) 1 hts gX0_leafRowAsSeen_X0_leafRow rfl rfl rfl (by decide +kernel) ⟨Nat.le_of_ble_eq_true rfl, Nat.le_of_ble_eq_true rfl⟩) (gv_preV (ci := 0) hK hPc hDc hN rfl rfl) rfl rfl hl.1 rfl (lv_room (Nat.le_of_ble_eq_true rfl)) dX0_leafRowAsSeen_2 ⟨Nat.zero_le _, Nat.zero_le _⟩) (fun q2 u H locs hw hP hD hS => ?_)
  have he := gv_q hw he
  have hP : va_P (dC, dI) vwCl (gv_W cI h0 h1 h2 f h) H := hP
  have hD : va_D A (gv_W cI h0 h1 h2 f h) := hD
  refine lv_istore_n (lv' := [(3, .int q2), (0, .ref h0), (1, .int p1), (2, .int p2)]) hx hb dX0_leafRowAsSeen_5 rfl hl (by decide) rfl (fun ls hl => ?_)
  refine lv_iload_n hx hb dX0_leafRowAsSeen_6 rfl (lv_at hl 0 rfl) ?_
  refine lv_iconst (v := 1) hx hb dX0_leafRowAsSeen_7 (by decide) ?_
  refine lv_iand hx hb dX0_leafRowAsSeen_8 ?_
  refine lv_istore (lv' := [(4, .int (q2 &&& 1)), (3, .int q2), (0, .ref h0), (1, .int p1), (2, .int p2)]) hx hb dX0_leafRowAsSeen_9 hl (by decide) rfl (fun ls hl => ?_)
  refine lv_iload_n hx hb dX0_leafRowAsSeen_11 rfl (lv_at hl 1 rfl) ?_
  refine lv_bipush (v := 11) hx hb dX0_leafRowAsSeen_12 (by decide) ?_
  refine lv_ishr hx hb dX0_leafRowAsSeen_14 ?_
  refine lv_iconst (v := 1) hx hb dX0_leafRowAsSeen_15 (by decide) ?_
  refine lv_iand hx hb dX0_leafRowAsSeen_16 ?_
  refine lv_istore (lv' := [(5, .int ((q2 >>> ((11 : Int32) &&& 31)) &&& 1)), (4, .int (q2 &&& 1)), (3, .int q2), (0, .ref h0), (1, .int p1), (2, .int p2)]) hx hb dX0_leafRowAsSeen_17 hl (by decide) rfl (fun ls hl => ?_)
  refine lv_iload_n hx hb dX0_leafRowAsSeen_19 rfl (lv_at hl 2 rfl) ?_
  refine lv_iconst (v := 1) hx hb dX0_leafRowAsSeen_20 (by decide) ?_
  refine lv_ishl hx hb dX0_leafRowAsSeen_21 ?_
  refine lv_istore (lv' := [(6, .int (q2 <<< ((1 : Int32) &&& 31))), (5, .int ((q2 >>> ((11 : Int32) &&& 31)) &&& 1)), (4, .int (q2 &&& 1)), (3, .int q2), (0, .ref h0), (1, .int p1), (2, .int p2)]) hx hb dX0_leafRowAsSeen_22 hl (by decide) rfl (fun ls hl => ?_)
  refine lv_iload_n hx hb dX0_leafRowAsSeen_24 rfl (lv_at hl 6 rfl) ?_
  refine lv_iconst (v := 1) hx hb dX0_leafRowAsSeen_25 (by decide) ?_
  refine lv_icmp_ne (tgt := 45) hx hb dX0_leafRowAsSeen_26 (by decide) (fun cd26 => ?_) (fun cd26 => ?_)
  · have he := gv_f cd26 he
    refine lv_iload_n hx hb dX0_leafRowAsSeen_45 rfl (lv_at hl 6 rfl) ?_
    refine lv_iconst (v := 2) hx hb dX0_leafRowAsSeen_46 (by decide) ?_
    refine lv_icmp_ne (tgt := 63) hx hb dX0_leafRowAsSeen_47 (by decide) (fun cd47 => ?_) (fun cd47 => ?_)
    · have he := gv_f cd47 he
      refine lv_iload hx hb dX0_leafRowAsSeen_63 (lv_at hl 0 rfl) ?_
      exact kr (q2 <<< ((1 : Int32) &&& 31)) () _ _ _ _ he hP hS dX0_leafRowAsSeen_65
    · have he := gv_t cd47 he
      refine lv_iload hx hb dX0_leafRowAsSeen_50 (lv_at hl 0 rfl) ?_
      refine lv_iload hx hb dX0_leafRowAsSeen_52 (lv_at hl 2 rfl) ?_
      refine lv_iload hx hb dX0_leafRowAsSeen_54 (lv_at hl 1 rfl) ?_
      refine lv_bipush (v := 13) hx hb dX0_leafRowAsSeen_56 (by decide) ?_
      refine lv_ishl hx hb dX0_leafRowAsSeen_58 ?_
      refine lv_ior hx hb dX0_leafRowAsSeen_59 ?_
      refine lv_ior hx hb dX0_leafRowAsSeen_60 ?_
      refine lv_topi (fun y61 ey61 => ?_)
      have he := gv_q ey61 he
      refine lv_istore (lv' := [(6, .int y61), (5, .int ((q2 >>> ((11 : Int32) &&& 31)) &&& 1)), (4, .int (q2 &&& 1)), (3, .int q2), (0, .ref h0), (1, .int p1), (2, .int p2)]) hx hb dX0_leafRowAsSeen_61 hl (by decide) rfl (fun ls hl => ?_)
      refine lv_iload hx hb dX0_leafRowAsSeen_63 (lv_at hl 0 rfl) ?_
      exact kr y61 () _ _ _ _ he hP hS dX0_leafRowAsSeen_65
  · have he := gv_t cd26 he
    refine lv_iload hx hb dX0_leafRowAsSeen_29 (lv_at hl 0 rfl) ?_
    refine lv_iload hx hb dX0_leafRowAsSeen_31 (lv_at hl 1 rfl) ?_
    refine lv_iload hx hb dX0_leafRowAsSeen_33 (lv_at hl 2 rfl) ?_
    refine lv_bipush (v := 13) hx hb dX0_leafRowAsSeen_35 (by decide) ?_
    refine lv_ishl hx hb dX0_leafRowAsSeen_37 ?_
    refine lv_ior hx hb dX0_leafRowAsSeen_38 ?_
    refine lv_ior hx hb dX0_leafRowAsSeen_39 ?_
    refine lv_topi (fun y40 ey40 => ?_)
    have he := gv_q ey40 he
    refine lv_istore (lv' := [(6, .int y40), (5, .int ((q2 >>> ((11 : Int32) &&& 31)) &&& 1)), (4, .int (q2 &&& 1)), (3, .int q2), (0, .ref h0), (1, .int p1), (2, .int p2)]) hx hb dX0_leafRowAsSeen_40 hl (by decide) rfl (fun ls hl => ?_)
    refine lv_goto (tgt := 63) hx hb dX0_leafRowAsSeen_42 (by decide) ?_
    refine lv_iload hx hb dX0_leafRowAsSeen_63 (lv_at hl 0 rfl) ?_
    exact kr y40 () _ _ _ _ he hP hS dX0_leafRowAsSeen_65
def spX0_holdersAt (f : Nat → Int32) (h : Nat → Int32) (p1 : Int32) (p2 : Int32) (p3 : Int32) : Int32 := gv_b (spX0_leafRowAsSeen f h (p1 - 1) p3) (fun q5 => gv_b (spX0_countHolders (q5 >>> (p2 &&& 31))) (fun q10 => q10))
theorem spX0_holdersAt_e (f : Nat → Int32) (h : Nat → Int32) (p1 : Int32) (p2 : Int32) (p3 : Int32) : spX0_holdersAt f h p1 p2 p3 = gv_b (spX0_leafRowAsSeen f h (p1 - 1) p3) (fun q5 => gv_b (spX0_countHolders (q5 >>> (p2 &&& 31))) (fun q10 => q10)) := rfl
set_option maxHeartbeats 4000000 in
set_option maxRecDepth 100000 in
theorem kX0_holdersAt (l : Launch) (dC : Nat → ClassId) (dI : Nat → Nat → Nat) (cI cL : ClassId) (h0 : Nat) (h1 : Nat) (h2 : Nat) (f : Nat → Int32) (h : Nat → Int32) (p1 : Int32) (p2 : Int32) (p3 : Int32) : gv_Mi l yX0_holdersAt wsX0_holdersAt 2 47 (dC, dI) [(cI, .int), (cL, .long)] [.ref h0, .int p1, .int p2, .int p3] (gv_W cI h0 h1 h2 f h) (fun (r : Int32) (_ : Unit) => r = spX0_holdersAt f h p1 p2 p3) (fun (_ : Unit) => (gv_W cI h0 h1 h2 f h)) := by
  refine gv_ofi (cc := cX0_holdersAt) (maxL := 4) (own := RX0) (by decide) rfl (Nat.le_of_ble_eq_true rfl) rfl ?_
  intro A p e s m args below meth c Q ls H locs hx hb hml hts hown hP hK hD hN hS hl kr
  have inX0 : ∀ w ∈ wsX00, w ∈ wsX0_holdersAt := (fun _ h => List.mem_cons_of_mem _ (List.mem_append_right _ h))
  have hl : lv_has ls 4 [(0, .ref h0), (1, .int p1), (2, .int p2), (3, .int p3)] := hl
  have he := (spX0_holdersAt_e f h p1 p2 p3).symm
  refine lv_aload_n hx hb dX0_holdersAt_0 rfl (lv_at hl 0 rfl) ?_
  refine lv_iload_n hx hb dX0_holdersAt_1 rfl (lv_at hl 1 rfl) ?_
  refine lv_iconst (v := 1) hx hb dX0_holdersAt_2 (by decide) ?_
  refine lv_isub hx hb dX0_holdersAt_3 ?_
  refine lv_iload_n hx hb dX0_holdersAt_4 rfl (lv_at hl 3 rfl) ?_
  have hPc : va_P (dC, dI) vwCl (gv_W cI h0 h1 h2 f h) H := gv_sub [0, 1, 2] hP rfl
  have hDc : va_D (gv_in (gv_W cI h0 h1 h2 f h)) (gv_W cI h0 h1 h2 f h) := gv_D hD [0, 1, 2] (by decide) rfl
  refine gv_ki (wf := (fun (_ : Unit) => (gv_W cI h0 h1 h2 f h))) (wc := (gv_W cI h0 h1 h2 f h)) [0, 1, 2] (fun _ => rfl) hP hD hS rfl rfl (va_runV (As := [.int (p1 - 1), .int p3]) (rest := []) ⟨hx, hb, hml, hown, hts⟩ (kX0_leafRowAsSeen l dC dI cI cL h0 h1 h2 f h (p1 - 1) p3 (gv_in (gv_W cI h0 h1 h2 f h))) (cwV (rm := gv_R 1 21) 2 hts gX0_holdersAt_X0_leafRowAsSeen rfl rfl rfl (by decide +kernel) ⟨Nat.le_of_ble_eq_true rfl, Nat.le_of_ble_eq_true rfl⟩) (gv_preV (ci := 0) hK hPc hDc hN rfl rfl) rfl rfl hl.1 rfl (lv_room (Nat.le_of_ble_eq_true rfl)) dX0_holdersAt_5 ⟨Nat.zero_le _, Nat.zero_le _⟩) (fun q5 u H locs hw hP hD hS => ?_)
  have he := gv_q hw he
  have hP : va_P (dC, dI) vwCl (gv_W cI h0 h1 h2 f h) H := hP
  have hD : va_D A (gv_W cI h0 h1 h2 f h) := hD
  refine lv_iload_n hx hb dX0_holdersAt_8 rfl (lv_at hl 2 rfl) ?_
  refine lv_ishr hx hb dX0_holdersAt_9 ?_
  have hPc : va_P (dC, dI) vwCl ([] : va_W) H := gv_P0
  have hDc : va_D (gv_in ([] : va_W)) ([] : va_W) := gv_D0
  refine gv_ki (wf := (fun (_ : Unit) => ([] : va_W))) (wc := ([] : va_W)) [] (fun _ => rfl) hP hD hS rfl rfl (va_runS (As := [.int (q5 >>> (p2 &&& 31))]) (rest := []) ⟨hx, hb, hml, hown, hts⟩ (kX0_countHolders l dC dI cI cL (q5 >>> (p2 &&& 31)) (gv_in ([] : va_W))) (va_cwS (rm := gv_R 1 20) 1 hts gX0_holdersAt_X0_countHolders rfl rfl rfl (by decide +kernel) ⟨Nat.le_of_ble_eq_true rfl, Nat.le_of_ble_eq_true rfl⟩) (gv_preS hK hPc hDc hN) rfl rfl hl.1 rfl (lv_room (Nat.le_of_ble_eq_true rfl)) dX0_holdersAt_10 ⟨Nat.zero_le _, Nat.zero_le _⟩) (fun q10 u H locs hw hP hD hS => ?_)
  have he := gv_q hw he
  have hP : va_P (dC, dI) vwCl (gv_W cI h0 h1 h2 f h) H := hP
  have hD : va_D A (gv_W cI h0 h1 h2 f h) := hD
  exact kr q10 () _ _ _ _ he hP hS dX0_holdersAt_13
def spX0_neighboursAt (f : Nat → Int32) (h : Nat → Int32) (p1 : Int32) (p2 : Int32) (p3 : Int32) : Int32 := gv_b (spX0_leafRowAsSeen f h (p1 - 1) p3) (fun q5 => gv_b (spX0_leafRowAsSeen f h p1 p3) (fun q13 => gv_b (spX0_leafRowAsSeen f h (p1 + 1) p3) (fun q23 => gv_b (spX0_countNeighbours (q5 >>> (p2 &&& 31)) (q13 >>> (p2 &&& 31)) (q23 >>> (p2 &&& 31))) (fun q28 => q28))))
theorem spX0_neighboursAt_e (f : Nat → Int32) (h : Nat → Int32) (p1 : Int32) (p2 : Int32) (p3 : Int32) : spX0_neighboursAt f h p1 p2 p3 = gv_b (spX0_leafRowAsSeen f h (p1 - 1) p3) (fun q5 => gv_b (spX0_leafRowAsSeen f h p1 p3) (fun q13 => gv_b (spX0_leafRowAsSeen f h (p1 + 1) p3) (fun q23 => gv_b (spX0_countNeighbours (q5 >>> (p2 &&& 31)) (q13 >>> (p2 &&& 31)) (q23 >>> (p2 &&& 31))) (fun q28 => q28)))) := rfl
set_option maxHeartbeats 4000000 in
set_option maxRecDepth 100000 in
theorem kX0_neighboursAt (l : Launch) (dC : Nat → ClassId) (dI : Nat → Nat → Nat) (cI cL : ClassId) (h0 : Nat) (h1 : Nat) (h2 : Nat) (f : Nat → Int32) (h : Nat → Int32) (p1 : Int32) (p2 : Int32) (p3 : Int32) : gv_Mi l yX0_neighboursAt wsX0_neighboursAt 2 47 (dC, dI) [(cI, .int), (cL, .long)] [.ref h0, .int p1, .int p2, .int p3] (gv_W cI h0 h1 h2 f h) (fun (r : Int32) (_ : Unit) => r = spX0_neighboursAt f h p1 p2 p3) (fun (_ : Unit) => (gv_W cI h0 h1 h2 f h)) := by
  refine gv_ofi (cc := cX0_neighboursAt) (maxL := 4) (own := RX0) (by decide) rfl (Nat.le_of_ble_eq_true rfl) rfl ?_
  intro A p e s m args below meth c Q ls H locs hx hb hml hts hown hP hK hD hN hS hl kr
  have inX0 : ∀ w ∈ wsX00, w ∈ wsX0_neighboursAt := (fun _ h => List.mem_cons_of_mem _ (List.mem_append_right _ h))
  have hl : lv_has ls 4 [(0, .ref h0), (1, .int p1), (2, .int p2), (3, .int p3)] := hl
  have he := (spX0_neighboursAt_e f h p1 p2 p3).symm
  refine lv_aload_n hx hb dX0_neighboursAt_0 rfl (lv_at hl 0 rfl) ?_
  refine lv_iload_n hx hb dX0_neighboursAt_1 rfl (lv_at hl 1 rfl) ?_
  refine lv_iconst (v := 1) hx hb dX0_neighboursAt_2 (by decide) ?_
  refine lv_isub hx hb dX0_neighboursAt_3 ?_
  refine lv_iload_n hx hb dX0_neighboursAt_4 rfl (lv_at hl 3 rfl) ?_
  have hPc : va_P (dC, dI) vwCl (gv_W cI h0 h1 h2 f h) H := gv_sub [0, 1, 2] hP rfl
  have hDc : va_D (gv_in (gv_W cI h0 h1 h2 f h)) (gv_W cI h0 h1 h2 f h) := gv_D hD [0, 1, 2] (by decide) rfl
  refine gv_ki (wf := (fun (_ : Unit) => (gv_W cI h0 h1 h2 f h))) (wc := (gv_W cI h0 h1 h2 f h)) [0, 1, 2] (fun _ => rfl) hP hD hS rfl rfl (va_runV (As := [.int (p1 - 1), .int p3]) (rest := []) ⟨hx, hb, hml, hown, hts⟩ (kX0_leafRowAsSeen l dC dI cI cL h0 h1 h2 f h (p1 - 1) p3 (gv_in (gv_W cI h0 h1 h2 f h))) (cwV (rm := gv_R 1 21) 2 hts gX0_neighboursAt_X0_leafRowAsSeen rfl rfl rfl (by decide +kernel) ⟨Nat.le_of_ble_eq_true rfl, Nat.le_of_ble_eq_true rfl⟩) (gv_preV (ci := 0) hK hPc hDc hN rfl rfl) rfl rfl hl.1 rfl (lv_room (Nat.le_of_ble_eq_true rfl)) dX0_neighboursAt_5 ⟨Nat.zero_le _, Nat.zero_le _⟩) (fun q5 u H locs hw hP hD hS => ?_)
  have he := gv_q hw he
  have hP : va_P (dC, dI) vwCl (gv_W cI h0 h1 h2 f h) H := hP
  have hD : va_D A (gv_W cI h0 h1 h2 f h) := hD
  refine lv_iload_n hx hb dX0_neighboursAt_8 rfl (lv_at hl 2 rfl) ?_
  refine lv_ishr hx hb dX0_neighboursAt_9 ?_
  refine lv_aload_n hx hb dX0_neighboursAt_10 rfl (lv_at hl 0 rfl) ?_
  refine lv_iload_n hx hb dX0_neighboursAt_11 rfl (lv_at hl 1 rfl) ?_
  refine lv_iload_n hx hb dX0_neighboursAt_12 rfl (lv_at hl 3 rfl) ?_
  have hPc : va_P (dC, dI) vwCl (gv_W cI h0 h1 h2 f h) H := gv_sub [0, 1, 2] hP rfl
  have hDc : va_D (gv_in (gv_W cI h0 h1 h2 f h)) (gv_W cI h0 h1 h2 f h) := gv_D hD [0, 1, 2] (by decide) rfl
  refine gv_ki (wf := (fun (_ : Unit) => (gv_W cI h0 h1 h2 f h))) (wc := (gv_W cI h0 h1 h2 f h)) [0, 1, 2] (fun _ => rfl) hP hD hS rfl rfl (va_runV (As := [.int p1, .int p3]) (rest := [.int (q5 >>> (p2 &&& 31))]) ⟨hx, hb, hml, hown, hts⟩ (kX0_leafRowAsSeen l dC dI cI cL h0 h1 h2 f h p1 p3 (gv_in (gv_W cI h0 h1 h2 f h))) (cwV (rm := gv_R 1 21) 2 hts gX0_neighboursAt_X0_leafRowAsSeen rfl rfl rfl (by decide +kernel) ⟨Nat.le_of_ble_eq_true rfl, Nat.le_of_ble_eq_true rfl⟩) (gv_preV (ci := 0) hK hPc hDc hN rfl rfl) rfl rfl hl.1 rfl (lv_room (Nat.le_of_ble_eq_true rfl)) dX0_neighboursAt_13 ⟨Nat.zero_le _, Nat.zero_le _⟩) (fun q13 u H locs hw hP hD hS => ?_)
  have he := gv_q hw he
  have hP : va_P (dC, dI) vwCl (gv_W cI h0 h1 h2 f h) H := hP
  have hD : va_D A (gv_W cI h0 h1 h2 f h) := hD
  refine lv_iload_n hx hb dX0_neighboursAt_16 rfl (lv_at hl 2 rfl) ?_
  refine lv_ishr hx hb dX0_neighboursAt_17 ?_
  refine lv_aload_n hx hb dX0_neighboursAt_18 rfl (lv_at hl 0 rfl) ?_
  refine lv_iload_n hx hb dX0_neighboursAt_19 rfl (lv_at hl 1 rfl) ?_
  refine lv_iconst (v := 1) hx hb dX0_neighboursAt_20 (by decide) ?_
  refine lv_iadd hx hb dX0_neighboursAt_21 ?_
  refine lv_iload_n hx hb dX0_neighboursAt_22 rfl (lv_at hl 3 rfl) ?_
  have hPc : va_P (dC, dI) vwCl (gv_W cI h0 h1 h2 f h) H := gv_sub [0, 1, 2] hP rfl
  have hDc : va_D (gv_in (gv_W cI h0 h1 h2 f h)) (gv_W cI h0 h1 h2 f h) := gv_D hD [0, 1, 2] (by decide) rfl
  refine gv_ki (wf := (fun (_ : Unit) => (gv_W cI h0 h1 h2 f h))) (wc := (gv_W cI h0 h1 h2 f h)) [0, 1, 2] (fun _ => rfl) hP hD hS rfl rfl (va_runV (As := [.int (p1 + 1), .int p3]) (rest := [.int (q13 >>> (p2 &&& 31)), .int (q5 >>> (p2 &&& 31))]) ⟨hx, hb, hml, hown, hts⟩ (kX0_leafRowAsSeen l dC dI cI cL h0 h1 h2 f h (p1 + 1) p3 (gv_in (gv_W cI h0 h1 h2 f h))) (cwV (rm := gv_R 1 21) 2 hts gX0_neighboursAt_X0_leafRowAsSeen rfl rfl rfl (by decide +kernel) ⟨Nat.le_of_ble_eq_true rfl, Nat.le_of_ble_eq_true rfl⟩) (gv_preV (ci := 0) hK hPc hDc hN rfl rfl) rfl rfl hl.1 rfl (lv_room (Nat.le_of_ble_eq_true rfl)) dX0_neighboursAt_23 ⟨Nat.zero_le _, Nat.zero_le _⟩) (fun q23 u H locs hw hP hD hS => ?_)
  have he := gv_q hw he
  have hP : va_P (dC, dI) vwCl (gv_W cI h0 h1 h2 f h) H := hP
  have hD : va_D A (gv_W cI h0 h1 h2 f h) := hD
  refine lv_iload_n hx hb dX0_neighboursAt_26 rfl (lv_at hl 2 rfl) ?_
  refine lv_ishr hx hb dX0_neighboursAt_27 ?_
  have hPc : va_P (dC, dI) vwCl ([] : va_W) H := gv_P0
  have hDc : va_D (gv_in ([] : va_W)) ([] : va_W) := gv_D0
  refine gv_ki (wf := (fun (_ : Unit) => ([] : va_W))) (wc := ([] : va_W)) [] (fun _ => rfl) hP hD hS rfl rfl (va_runS (As := [.int (q5 >>> (p2 &&& 31)), .int (q13 >>> (p2 &&& 31)), .int (q23 >>> (p2 &&& 31))]) (rest := []) ⟨hx, hb, hml, hown, hts⟩ (kX0_countNeighbours l dC dI cI cL (q5 >>> (p2 &&& 31)) (q13 >>> (p2 &&& 31)) (q23 >>> (p2 &&& 31)) (gv_in ([] : va_W))) (va_cwS (rm := gv_R 1 20) 3 hts gX0_neighboursAt_X0_countNeighbours rfl rfl rfl (by decide +kernel) ⟨Nat.le_of_ble_eq_true rfl, Nat.le_of_ble_eq_true rfl⟩) (gv_preS hK hPc hDc hN) rfl rfl hl.1 rfl (lv_room (Nat.le_of_ble_eq_true rfl)) dX0_neighboursAt_28 ⟨Nat.zero_le _, Nat.zero_le _⟩) (fun q28 u H locs hw hP hD hS => ?_)
  have he := gv_q hw he
  have hP : va_P (dC, dI) vwCl (gv_W cI h0 h1 h2 f h) H := hP
  have hD : va_D A (gv_W cI h0 h1 h2 f h) := hD
  exact kr q28 () _ _ _ _ he hP hS dX0_neighboursAt_31
