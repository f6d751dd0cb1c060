theorem gx_b53 : ∀ w ∈ (vx_atS RX1 53 gE_A gE_n).filter (fun w => !goodWord w), w ∈ gx_ws := by decide +kernel
theorem gx_b60 : ∀ w ∈ (vx_atS RX1 60 gE_S gE_n).filter (fun w => !goodWord w), w ∈ gx_ws := by decide +kernel
theorem gx_b154 : ∀ w ∈ (vx_atS RX1 154 gE_I gE_n).filter (fun w => !goodWord w), w ∈ gx_ws := by decide +kernel
theorem gx_o53 : ∀ w ∈ Cond.classLink RX1 49 gE_A :: Cond.initialized gE_A :: vx_atS RX1 53 gE_A gE_n, vx_ot w = true := by decide +kernel
theorem gx_o60 : ∀ w ∈ Cond.classLink RX1 56 gE_S :: Cond.initialized gE_S :: vx_atS RX1 60 gE_S gE_n, vx_ot w = true := by decide +kernel
theorem gx_o154 : ∀ w ∈ Cond.classLink RX1 150 gE_I :: Cond.initialized gE_I :: vx_atS RX1 154 gE_I gE_n, vx_ot w = true := by decide +kernel

def spX1_requireColumn (p0 : Int32) : String ⊕ (Unit) := (if p0 < 0 then .inl gE_I else (if p0 < 12 then .inr () else .inl gE_I))
theorem spX1_requireColumn_e (p0 : Int32) : spX1_requireColumn p0 = (if p0 < 0 then .inl gE_I else (if p0 < 12 then .inr () else .inl gE_I)) := rfl
set_option maxHeartbeats 4000000 in
set_option maxRecDepth 100000 in
theorem kX1_requireColumn (l : Launch) (hst : l.stackTraces = false) (dC : Nat → ClassId) (dI : Nat → Nat → Nat) (cI cL : ClassId)   (p0 : Int32) : gx_Mv l yX1_requireColumn wsX1_requireColumn 6 1 82 (dC, dI) [(cI, .int), (cL, .long)] [.int p0] ([] : va_W) (fun (u : Unit) => .inr u = spX1_requireColumn p0) (fun (_ : Unit) => ([] : va_W)) (fun E => .inl E = spX1_requireColumn p0 ∧ E ∈ [gE_I]) := by
  refine gx_ofv (cc := cX1_requireColumn) (maxL := 1) hst (Nat.le_of_ble_eq_true rfl) (Nat.le_of_ble_eq_true rfl) (by decide) rfl (Nat.le_of_ble_eq_true rfl) rfl ?_
  intro A p e s m args below meth c Q ls H locs hx hb hml hts hown hP hK hD hN hX hS hl kr kt ko
  have hl : lv_has ls 1 [(0, .int p0)] := hl
  have he := (spX1_requireColumn_e p0).symm
  refine lv_iload_n hx hb dX1_requireColumn_0 rfl (lv_at hl 0 rfl) ?_
  refine lv_if_lt (tgt := 10) hx hb dX1_requireColumn_1 (by decide) (fun cd1 => ?_) (fun cd1 => ?_)
  · have he := gv_t cd1 he
    exact kt gE_I 150 152 154 "there is no such column" _ _ _ _ _ _ ⟨he, List.mem_cons_self⟩ hP hS (hl.1.trans hml.symm) (Nat.le_of_ble_eq_true rfl) (Nat.le_of_ble_eq_true rfl) (by decide) (hts (.classLink RX1 150 "java/lang/IndexOutOfBoundsException") (List.mem_of_getElem? (i := 1) rfl)) (hts (.initialized "java/lang/IndexOutOfBoundsException") (List.mem_of_getElem? (i := 2) rfl)) (by decide) (fun w h => hts w (List.mem_cons_of_mem _ (List.mem_append_right _ h))) gx_b154 gx_o154 dX1_requireColumn_10 dX1_requireColumn_13 dX1_requireColumn_14 dX1_requireColumn_16 dX1_requireColumn_19
  · have he := gv_f cd1 he
    refine lv_iload_n hx hb dX1_requireColumn_4 rfl (lv_at hl 0 rfl) ?_
    refine lv_bipush (v := 12) hx hb dX1_requireColumn_5 (by decide) ?_
    refine lv_icmp_lt (tgt := 20) hx hb dX1_requireColumn_7 (by decide) (fun cd7 => ?_) (fun cd7 => ?_)
    · have he := gv_t cd7 he
      exact kr () _ _ _ _ _ _ (Nat.le_of_ble_eq_true rfl) (Nat.le_of_ble_eq_true rfl) he hP hS dX1_requireColumn_20
    · have he := gv_f cd7 he
      exact kt gE_I 150 152 154 "there is no such column" _ _ _ _ _ _ ⟨he, List.mem_cons_self⟩ hP hS (hl.1.trans hml.symm) (Nat.le_of_ble_eq_true rfl) (Nat.le_of_ble_eq_true rfl) (by decide) (hts (.classLink RX1 150 "java/lang/IndexOutOfBoundsException") (List.mem_of_getElem? (i := 1) rfl)) (hts (.initialized "java/lang/IndexOutOfBoundsException") (List.mem_of_getElem? (i := 2) rfl)) (by decide) (fun w h => hts w (List.mem_cons_of_mem _ (List.mem_append_right _ h))) gx_b154 gx_o154 dX1_requireColumn_10 dX1_requireColumn_13 dX1_requireColumn_14 dX1_requireColumn_16 dX1_requireColumn_19
def spX1_requireCell (p0 : Int32) (p1 : Int32) : String ⊕ (Unit) := gv_b (spX1_isCell p0 p1) (fun q2 => (if q2 = 0 then .inl gE_I else .inr ()))
theorem spX1_requireCell_e (p0 : Int32) (p1 : Int32) : spX1_requireCell p0 p1 = gv_b (spX1_isCell p0 p1) (fun q2 => (if q2 = 0 then .inl gE_I else .inr ())) := rfl
set_option maxHeartbeats 4000000 in
set_option maxRecDepth 100000 in
theorem kX1_requireCell (l : Launch) (hst : l.stackTraces = false) (dC : Nat → ClassId) (dI : Nat → Nat → Nat) (cI cL : ClassId)   (p0 : Int32) (p1 : Int32) : gx_Mv l yX1_requireCell wsX1_requireCell 6 1 82 (dC, dI) [(cI, .int), (cL, .long)] [.int p0, .int p1] ([] : va_W) (fun (u : Unit) => .inr u = spX1_requireCell p0 p1) (fun (_ : Unit) => ([] : va_W)) (fun E => .inl E = spX1_requireCell p0 p1 ∧ E ∈ [gE_I]) := by
  refine gx_ofv (cc := cX1_requireCell) (maxL := 2) hst (Nat.le_of_ble_eq_true rfl) (Nat.le_of_ble_eq_true rfl) (by decide) rfl (Nat.le_of_ble_eq_true rfl) rfl ?_
  intro A p e s m args below meth c Q ls H locs hx hb hml hts hown hP hK hD hN hX hS hl kr kt ko
  have hl : lv_has ls 2 [(0, .int p0), (1, .int p1)] := hl
  have he := (spX1_requireCell_e p0 p1).symm
  refine lv_iload_n hx hb dX1_requireCell_0 rfl (lv_at hl 0 rfl) ?_
  refine lv_iload_n hx hb dX1_requireCell_1 rfl (lv_at hl 1 rfl) ?_
  have hPc : va_P (dC, dI) vwCl ([] : va_W) H := gv_P0
  have hDc : va_D (gv_in ([] : va_W)) ([] : va_W) := gv_D0
  refine gv_ki (wf := (fun (_ : Unit) => ([] : va_W))) (wc := ([] : va_W)) [] (fun _ => rfl) hP hD hS rfl rfl (va_runS (As := [.int p0, .int p1]) (rest := []) ⟨hx, hb, hml, hown, hts⟩ (kX1_isCell l dC dI cI cL p0 p1 (gv_in ([] : va_W))) (va_cwS (rm := gv_R 0 0) 2 hts gX1_requireCell_X1_isCell rfl rfl rfl (by decide +kernel) ⟨Nat.le_of_ble_eq_true rfl, Nat.le_of_ble_eq_true rfl⟩) (gv_preS hK hPc hDc hN) rfl rfl hl.1 rfl (lv_room (Nat.le_of_ble_eq_true rfl)) dX1_requireCell_2 ⟨Nat.le_of_ble_eq_true rfl, Nat.le_of_ble_eq_true rfl⟩) (fun q2 u H locs hw hP hD hS => ?_)
  have he := gv_q hw he
  have hP : va_P (dC, dI) vwCl ([] : va_W) H := hP
  have hD : va_D A ([] : va_W) := hD
  refine lv_if_ne (tgt := 18) hx hb dX1_requireCell_5 (by decide) (fun cd5 => ?_) (fun cd5 => ?_)
  · have he := gv_f cd5 he
    exact kr () _ _ _ _ _ _ (Nat.le_of_ble_eq_true rfl) (Nat.le_of_ble_eq_true rfl) he hP hS dX1_requireCell_18
  · have he := gv_t cd5 he
    exact kt gE_I 150 158 154 "there is no such cell" _ _ _ _ _ _ ⟨he, List.mem_cons_self⟩ hP hS (hl.1.trans hml.symm) (Nat.le_of_ble_eq_true rfl) (Nat.le_of_ble_eq_true rfl) (by decide) (hts (.classLink RX1 150 "java/lang/IndexOutOfBoundsException") (List.mem_of_getElem? (i := 1) rfl)) (hts (.initialized "java/lang/IndexOutOfBoundsException") (List.mem_of_getElem? (i := 2) rfl)) (by decide) (fun w h => hts w (List.mem_cons_of_mem _ (List.mem_append_right _ h))) gx_b154 gx_o154 dX1_requireCell_8 dX1_requireCell_11 dX1_requireCell_12 dX1_requireCell_14 dX1_requireCell_17
