def spX2_isColumn (p0 : Int32) : Int32 := (if p0 < 0 then 0 else (if 12 ≤ p0 then 0 else 1))
theorem spX2_isColumn_e (p0 : Int32) : spX2_isColumn p0 = (if p0 < 0 then 0 else (if 12 ≤ p0 then 0 else 1)) := rfl
set_option maxHeartbeats 4000000 in
set_option maxRecDepth 100000 in
theorem kX2_isColumn (l : Launch) (dC : Nat → ClassId) (dI : Nat → Nat → Nat) (cI cL : ClassId)   (p0 : Int32) : gv_Mi l yX2_isColumn wsX2_isColumn 0 0 (dC, dI) [(cI, .int), (cL, .long)] [.int p0] ([] : va_W) (fun (r : Int32) (_ : Unit) => r = spX2_isColumn p0) (fun (_ : Unit) => ([] : va_W)) := by
  refine gv_ofz (cc := cX2_isColumn) (maxL := 1) (own := RX2) (ty := .boolean) (by decide) rfl (Nat.le_of_ble_eq_true rfl) rfl ?_
  intro A p e s m args below meth c Q ls H locs hx hb hml hts hown hP hK hD hN hS hl kr
  have hl : lv_has ls 1 [(0, .int p0)] := hl
  have he := (spX2_isColumn_e p0).symm
  refine lv_iload_n hx hb dX2_isColumn_0 rfl (lv_at hl 0 rfl) ?_
  refine lv_if_lt (tgt := 14) hx hb dX2_isColumn_1 (by decide) (fun cd1 => ?_) (fun cd1 => ?_)
  · have he := gv_t cd1 he
    refine lv_iconst (v := 0) hx hb dX2_isColumn_14 (by decide) ?_
    exact kr 0 () _ _ _ _ rfl he hP hS dX2_isColumn_15
  · have he := gv_f cd1 he
    refine lv_iload_n hx hb dX2_isColumn_4 rfl (lv_at hl 0 rfl) ?_
    refine lv_bipush (v := 12) hx hb dX2_isColumn_5 (by decide) ?_
    refine lv_icmp_ge (tgt := 14) hx hb dX2_isColumn_7 (by decide) (fun cd7 => ?_) (fun cd7 => ?_)
    · have he := gv_t cd7 he
      refine lv_iconst (v := 0) hx hb dX2_isColumn_14 (by decide) ?_
      exact kr 0 () _ _ _ _ rfl he hP hS dX2_isColumn_15
    · have he := gv_f cd7 he
      refine lv_iconst (v := 1) hx hb dX2_isColumn_10 (by decide) ?_
      refine lv_goto (tgt := 15) hx hb dX2_isColumn_11 (by decide) ?_
      exact kr 1 () _ _ _ _ rfl he hP hS dX2_isColumn_15
def spX2_isCell (p0 : Int32) (p1 : Int32) : Int32 := (if p0 < 0 then 0 else (if 8 ≤ p0 then 0 else gv_b (spX2_isColumn p1) (fun q11 => (if q11 = 0 then 0 else 1))))
theorem spX2_isCell_e (p0 : Int32) (p1 : Int32) : spX2_isCell p0 p1 = (if p0 < 0 then 0 else (if 8 ≤ p0 then 0 else gv_b (spX2_isColumn p1) (fun q11 => (if q11 = 0 then 0 else 1)))) := rfl
set_option maxHeartbeats 4000000 in
set_option maxRecDepth 100000 in
theorem kX2_isCell (l : Launch) (dC : Nat → ClassId) (dI : Nat → Nat → Nat) (cI cL : ClassId)   (p0 : Int32) (p1 : Int32) : gv_Mi l yX2_isCell wsX2_isCell 1 20 (dC, dI) [(cI, .int), (cL, .long)] [.int p0, .int p1] ([] : va_W) (fun (r : Int32) (_ : Unit) => r = spX2_isCell p0 p1) (fun (_ : Unit) => ([] : va_W)) := by
  refine gv_ofz (cc := cX2_isCell) (maxL := 2) (own := RX2) (ty := .boolean) (by decide) rfl (Nat.le_of_ble_eq_true rfl) rfl ?_
  intro A p e s m args below meth c Q ls H locs hx hb hml hts hown hP hK hD hN hS hl kr
  have hl : lv_has ls 2 [(0, .int p0), (1, .int p1)] := hl
  have he := (spX2_isCell_e p0 p1).symm
  refine lv_iload_n hx hb dX2_isCell_0 rfl (lv_at hl 0 rfl) ?_
  refine lv_if_lt (tgt := 21) hx hb dX2_isCell_1 (by decide) (fun cd1 => ?_) (fun cd1 => ?_)
  · have he := gv_t cd1 he
    refine lv_iconst (v := 0) hx hb dX2_isCell_21 (by decide) ?_
    exact kr 0 () _ _ _ _ rfl he hP hS dX2_isCell_22
  · have he := gv_f cd1 he
    refine lv_iload_n hx hb dX2_isCell_4 rfl (lv_at hl 0 rfl) ?_
    refine lv_bipush (v := 8) hx hb dX2_isCell_5 (by decide) ?_
    refine lv_icmp_ge (tgt := 21) hx hb dX2_isCell_7 (by decide) (fun cd7 => ?_) (fun cd7 => ?_)
    · have he := gv_t cd7 he
      refine lv_iconst (v := 0) hx hb dX2_isCell_21 (by decide) ?_
      exact kr 0 () _ _ _ _ rfl he hP hS dX2_isCell_22
    · have he := gv_f cd7 he
      refine lv_iload_n hx hb dX2_isCell_10 rfl (lv_at hl 1 rfl) ?_
      have hPc : va_P (dC, dI) vwCl ([] : va_W) H := gv_P0
      have hDc : va_D (gv_in ([] : va_W)) ([] : va_W) := gv_D0
      refine gv_ki (wf := (fun (_ : Unit) => ([] : va_W))) (wc := ([] : va_W)) [] (fun _ => rfl) hP hD hS rfl rfl (va_runS (As := [.int p1]) (rest := []) ⟨hx, hb, hml, hown, hts⟩ (kX2_isColumn l dC dI cI cL p1 (gv_in ([] : va_W))) (va_cwS (rm := gv_R 0 0) 1 hts gX2_isCell_X2_isColumn rfl rfl rfl (by decide +kernel) ⟨Nat.le_of_ble_eq_true rfl, Nat.le_of_ble_eq_true rfl⟩) (gv_preS hK hPc hDc hN) rfl rfl hl.1 rfl (lv_room (Nat.le_of_ble_eq_true rfl)) dX2_isCell_11 ⟨Nat.zero_le _, Nat.zero_le _⟩) (fun q11 u H locs hw hP hD hS => ?_)
      have he := gv_q hw he
      have hP : va_P (dC, dI) vwCl ([] : va_W) H := hP
      have hD : va_D A ([] : va_W) := hD
      refine lv_if_eq (tgt := 21) hx hb dX2_isCell_14 (by decide) (fun cd14 => ?_) (fun cd14 => ?_)
      · have he := gv_t cd14 he
        refine lv_iconst (v := 0) hx hb dX2_isCell_21 (by decide) ?_
        exact kr 0 () _ _ _ _ rfl he hP hS dX2_isCell_22
      · have he := gv_f cd14 he
        refine lv_iconst (v := 1) hx hb dX2_isCell_17 (by decide) ?_
        refine lv_goto (tgt := 22) hx hb dX2_isCell_18 (by decide) ?_
        exact kr 1 () _ _ _ _ rfl he hP hS dX2_isCell_22
