def spX1_requireColumn (w0 : Nat) : Unit := ()
theorem spX1_requireColumn_e (w0 : Nat) : spX1_requireColumn w0 = () := rfl
set_option maxHeartbeats 4000000 in
set_option maxRecDepth 100000 in
theorem kX1_requireColumn (l : Launch) (dC : Nat → ClassId) (dI : Nat → Nat → Nat) (cI cL : ClassId)   (p0 : Int32) (w0 : Nat) (hw0 : p0 = nI w0) (hy0 : w0 < 12) : gv_Mv l yX1_requireColumn wsX1_requireColumn 0 0 (dC, dI) [(cI, .int), (cL, .long)] [.int p0] ([] : va_W) (fun (_ : Unit) => True) (fun (_ : Unit) => ([] : va_W)) := by
  subst hw0
  refine gv_ofv (cc := cX1_requireColumn) (maxL := 1) (own := RX1) (by decide) rfl (Nat.le_of_ble_eq_true rfl) rfl ?_
  intro A p e s m args below meth c Q ls H locs hx hb hml hts hown hP hK hD hN hS hl kr
  have hl : lv_has ls 1 [(0, .int (nI w0))] := hl
  have he := (spX1_requireColumn_e w0).symm
  refine lv_iload_n hx hb dX1_requireColumn_0 rfl (lv_at hl 0 rfl) ?_
  refine lv_if_lt (tgt := 10) hx hb dX1_requireColumn_1 (by decide) (fun c => absurd c (nI_pos (by omega))) (fun _ => ?_)
  refine lv_iload_n hx hb dX1_requireColumn_4 rfl (lv_at hl 0 rfl) ?_
  refine lv_bipush (v := 12) hx hb dX1_requireColumn_5 (by decide) ?_
  refine lv_icmp_lt (tgt := 20) hx hb dX1_requireColumn_7 (by decide) (fun _ => ?_) (fun c => absurd (nI_lt (b := 12) hy0 (by decide)) c)
  exact kr () _ _ _ _ trivial hP hS dX1_requireColumn_20
def spX1_requireCell (w0 : Nat) (w1 : Nat) : Unit := gv_b (spX1_isCell (nI w0) (nI w1)) (fun q2 => ())
theorem spX1_requireCell_e (w0 : Nat) (w1 : Nat) : spX1_requireCell w0 w1 = gv_b (spX1_isCell (nI w0) (nI w1)) (fun q2 => ()) := rfl
set_option maxHeartbeats 4000000 in
set_option maxRecDepth 100000 in
theorem kX1_requireCell (l : Launch) (dC : Nat → ClassId) (dI : Nat → Nat → Nat) (cI cL : ClassId)   (p0 : Int32) (w0 : Nat) (hw0 : p0 = nI w0) (p1 : Int32) (w1 : Nat) (hw1 : p1 = nI w1) (hy0 : w0 < 8) (hy1 : w1 < 12) : gv_Mv l yX1_requireCell wsX1_requireCell 1 21 (dC, dI) [(cI, .int), (cL, .long)] [.int p0, .int p1] ([] : va_W) (fun (_ : Unit) => True) (fun (_ : Unit) => ([] : va_W)) := by
  subst hw0
  subst hw1
  refine gv_ofv (cc := cX1_requireCell) (maxL := 2) (own := RX1) (by decide) rfl (Nat.le_of_ble_eq_true rfl) rfl ?_
  intro A p e s m args below meth c Q ls H locs hx hb hml hts hown hP hK hD hN hS hl kr
  have hl : lv_has ls 2 [(0, .int (nI w0)), (1, .int (nI w1))] := hl
  have he := (spX1_requireCell_e w0 w1).symm
  refine lv_iload_n hx hb dX1_requireCell_0 rfl (lv_at hl 0 rfl) ?_
  refine lv_iload_n hx hb dX1_requireCell_1 rfl (lv_at hl 1 rfl) ?_
  have hPc : va_P (dC, dI) vwCl ([] : va_W) H := gv_P0
  have hDc : va_D (gv_in ([] : va_W)) ([] : va_W) := gv_D0
  refine gv_ki (wf := (fun (_ : Unit) => ([] : va_W))) (wc := ([] : va_W)) [] (fun _ => rfl) hP hD hS rfl rfl (va_runS (As := [.int (nI w0), .int (nI w1)]) (rest := []) ⟨hx, hb, hml, hown, hts⟩ (kX1_isCell l dC dI cI cL (nI w0) (nI w1) (gv_in ([] : va_W))) (va_cwS (rm := gv_R 0 0) 2 hts gX1_requireCell_X1_isCell rfl rfl rfl (by decide +kernel) ⟨Nat.le_of_ble_eq_true rfl, Nat.le_of_ble_eq_true rfl⟩) (gv_preS hK hPc hDc hN) rfl rfl hl.1 rfl (lv_room (Nat.le_of_ble_eq_true rfl)) dX1_requireCell_2 ⟨Nat.zero_le _, Nat.zero_le _⟩) (fun q2 u H locs hw hP hD hS => ?_)
  have he := gv_q hw he
  have hP : va_P (dC, dI) vwCl ([] : va_W) H := hP
  have hD : va_D A ([] : va_W) := hD
  refine lv_if_ne (tgt := 18) hx hb dX1_requireCell_5 (by decide) (fun _ => ?_) (fun c => absurd c (by rw [hw, mc_isCell hy0 hy1]; decide))
  exact kr () _ _ _ _ trivial hP hS dX1_requireCell_18
def spX1_sides (f0 : Nat → Int32) (c0 : Nat → Int32) (f1 : Nat → Int32) (c1 : Nat → Int32) (f2 : Nat → Int32) (c2 : Nat → Int32) (lo : Nat → Int64) (up : Nat → Int64) (be : Nat → Int32) (si : Int32) (pl : Int32) (cu : Int32) (ge : Int32) (fa : Int32) (p1 : Int32) : (Int32) := (if p1 = 0 then p1 else (if p1 = 1 then p1 else p1))
theorem spX1_sides_e (f0 : Nat → Int32) (c0 : Nat → Int32) (f1 : Nat → Int32) (c1 : Nat → Int32) (f2 : Nat → Int32) (c2 : Nat → Int32) (lo : Nat → Int64) (up : Nat → Int64) (be : Nat → Int32) (si : Int32) (pl : Int32) (cu : Int32) (ge : Int32) (fa : Int32) (p1 : Int32) : spX1_sides f0 c0 f1 c1 f2 c2 lo up be si pl cu ge fa p1 = (if p1 = 0 then p1 else (if p1 = 1 then p1 else p1)) := rfl
set_option maxHeartbeats 4000000 in
set_option maxRecDepth 100000 in
theorem kX1_sides (l : Launch) (dC : Nat → ClassId) (dI : Nat → Nat → Nat) (cI cL : ClassId) (ad : Nat → Nat) (f0 : Nat → Int32) (c0 : Nat → Int32) (f1 : Nat → Int32) (c1 : Nat → Int32) (f2 : Nat → Int32) (c2 : Nat → Int32) (lo : Nat → Int64) (up : Nat → Int64) (be : Nat → Int32) (si : Int32) (pl : Int32) (cu : Int32) (ge : Int32) (fa : Int32) (p1 : Int32) (hy0 : p1 = 0 ∨ p1 = 1 ∨ p1 = 2) (hy1 : ge ≤ 0) : gv_Mv l yX1_sides wsX1_sides 0 0 (dC, dI) [(cI, .int), (cL, .long)] [.ref (ad 0), .int p1] (gv_V cI cL ad f0 c0 f1 c1 f2 c2 lo up be si pl cu ge fa) (fun (u : (Int32)) => u = spX1_sides f0 c0 f1 c1 f2 c2 lo up be si pl cu ge fa p1) (fun (u : (Int32)) => (gv_V cI cL ad f0 c0 f1 c1 f2 c2 lo up be u pl cu ge fa)) := by
  refine gv_ofv (cc := cX1_sides) (maxL := 2) (own := RX1) (by decide) rfl (Nat.le_of_ble_eq_true rfl) rfl ?_
  intro A p e s m args below meth c Q ls H locs hx hb hml hts hown hP hK hD hN hS hl kr
  have inX1 : ∀ w ∈ wsX10, w ∈ wsX1_sides := (fun _ h => List.mem_cons_of_mem _ (List.mem_append_left _ (List.mem_append_left _ (List.mem_append_right _ h))))
  have hl : lv_has ls 2 [(0, .ref (ad 0)), (1, .int p1)] := hl
  have he := (spX1_sides_e f0 c0 f1 c1 f2 c2 lo up be si pl cu ge fa p1).symm
  refine lv_iload_n hx hb dX1_sides_0 rfl (lv_at hl 1 rfl) ?_
  refine lv_if_eq (tgt := 24) hx hb dX1_sides_1 (by decide) (fun cd1 => ?_) (fun cd1 => ?_)
  · have he := gv_t cd1 he
    refine lv_aload_n hx hb dX1_sides_24 rfl (lv_at hl 0 rfl) ?_
    refine va_get (D := (dC, dI)) (ci := 1) (v := .int ge) (C := RX1) (T := TX1) (N := 11) hx hb hts inX1 hown hK hP 0 rfl rfl 9 (by decide) (hts (.fieldLink RX1 43 "VineWall" "generationsGone" "I") (List.mem_of_getElem? (i := 5) rfl)) (fun _ h9 => h9) rfl dX1_sides_25 ?_
    refine lv_if_le (tgt := 41) hx hb dX1_sides_28 (by decide) (fun _ => ?_) (fun c => absurd hy1 c)
    refine lv_aload_n hx hb dX1_sides_41 rfl (lv_at hl 0 rfl) ?_
    refine lv_iload_n hx hb dX1_sides_42 rfl (lv_at hl 1 rfl) ?_
    refine va_put (D := (dC, dI)) (ci := 1) (v := .int p1) (ty := .int) (C := RX1) (T := TX1) (N := 11) hx hb hts inX1 tyX1 tyX1_ok nmX1 hown hK hP hD hS 0 rfl rfl 6 (by decide) (hts (.fieldLink RX1 33 "VineWall" "beyond" "I") (List.mem_of_getElem? (i := 6) rfl)) (fun _ h9 => h9) rfl (by decide +kernel) rfl rfl (Nat.le_of_ble_eq_true rfl) dX1_sides_43 (fun H locs hP hD hS => ?_)
    have hP : va_P (dC, dI) vwCl (gv_V cI cL ad f0 c0 f1 c1 f2 c2 lo up be p1 pl cu ge fa) H := hP
    have hD : va_D A (gv_V cI cL ad f0 c0 f1 c1 f2 c2 lo up be p1 pl cu ge fa) := hD
    exact kr p1 _ _ _ _ he hP hS dX1_sides_46
  · have he := gv_f cd1 he
    refine lv_iload_n hx hb dX1_sides_4 rfl (lv_at hl 1 rfl) ?_
    refine lv_iconst (v := 1) hx hb dX1_sides_5 (by decide) ?_
    refine lv_icmp_eq (tgt := 24) hx hb dX1_sides_6 (by decide) (fun cd6 => ?_) (fun cd6 => ?_)
    · have he := gv_t cd6 he
      refine lv_aload_n hx hb dX1_sides_24 rfl (lv_at hl 0 rfl) ?_
      refine va_get (D := (dC, dI)) (ci := 1) (v := .int ge) (C := RX1) (T := TX1) (N := 11) hx hb hts inX1 hown hK hP 0 rfl rfl 9 (by decide) (hts (.fieldLink RX1 43 "VineWall" "generationsGone" "I") (List.mem_of_getElem? (i := 5) rfl)) (fun _ h9 => h9) rfl dX1_sides_25 ?_
      refine lv_if_le (tgt := 41) hx hb dX1_sides_28 (by decide) (fun _ => ?_) (fun c => absurd hy1 c)
      refine lv_aload_n hx hb dX1_sides_41 rfl (lv_at hl 0 rfl) ?_
      refine lv_iload_n hx hb dX1_sides_42 rfl (lv_at hl 1 rfl) ?_
      refine va_put (D := (dC, dI)) (ci := 1) (v := .int p1) (ty := .int) (C := RX1) (T := TX1) (N := 11) hx hb hts inX1 tyX1 tyX1_ok nmX1 hown hK hP hD hS 0 rfl rfl 6 (by decide) (hts (.fieldLink RX1 33 "VineWall" "beyond" "I") (List.mem_of_getElem? (i := 6) rfl)) (fun _ h9 => h9) rfl (by decide +kernel) rfl rfl (Nat.le_of_ble_eq_true rfl) dX1_sides_43 (fun H locs hP hD hS => ?_)
      have hP : va_P (dC, dI) vwCl (gv_V cI cL ad f0 c0 f1 c1 f2 c2 lo up be p1 pl cu ge fa) H := hP
      have hD : va_D A (gv_V cI cL ad f0 c0 f1 c1 f2 c2 lo up be p1 pl cu ge fa) := hD
      exact kr p1 _ _ _ _ he hP hS dX1_sides_46
    · have he := gv_f cd6 he
      refine lv_iload_n hx hb dX1_sides_9 rfl (lv_at hl 1 rfl) ?_
      refine lv_iconst (v := 2) hx hb dX1_sides_10 (by decide) ?_
      refine lv_icmp_eq (tgt := 24) hx hb dX1_sides_11 (by decide) (fun _ => ?_) (fun c => absurd ((hy0.resolve_left cd1).resolve_left cd6) c)
      refine lv_aload_n hx hb dX1_sides_24 rfl (lv_at hl 0 rfl) ?_
      refine va_get (D := (dC, dI)) (ci := 1) (v := .int ge) (C := RX1) (T := TX1) (N := 11) hx hb hts inX1 hown hK hP 0 rfl rfl 9 (by decide) (hts (.fieldLink RX1 43 "VineWall" "generationsGone" "I") (List.mem_of_getElem? (i := 5) rfl)) (fun _ h9 => h9) rfl dX1_sides_25 ?_
      refine lv_if_le (tgt := 41) hx hb dX1_sides_28 (by decide) (fun _ => ?_) (fun c => absurd hy1 c)
      refine lv_aload_n hx hb dX1_sides_41 rfl (lv_at hl 0 rfl) ?_
      refine lv_iload_n hx hb dX1_sides_42 rfl (lv_at hl 1 rfl) ?_
      refine va_put (D := (dC, dI)) (ci := 1) (v := .int p1) (ty := .int) (C := RX1) (T := TX1) (N := 11) hx hb hts inX1 tyX1 tyX1_ok nmX1 hown hK hP hD hS 0 rfl rfl 6 (by decide) (hts (.fieldLink RX1 33 "VineWall" "beyond" "I") (List.mem_of_getElem? (i := 6) rfl)) (fun _ h9 => h9) rfl (by decide +kernel) rfl rfl (Nat.le_of_ble_eq_true rfl) dX1_sides_43 (fun H locs hP hD hS => ?_)
      have hP : va_P (dC, dI) vwCl (gv_V cI cL ad f0 c0 f1 c1 f2 c2 lo up be p1 pl cu ge fa) H := hP
      have hD : va_D A (gv_V cI cL ad f0 c0 f1 c1 f2 c2 lo up be p1 pl cu ge fa) := hD
      exact kr p1 _ _ _ _ he hP hS dX1_sides_46
def spX1_plant (f0 : Nat → Int32) (c0 : Nat → Int32) (f1 : Nat → Int32) (c1 : Nat → Int32) (f2 : Nat → Int32) (c2 : Nat → Int32) (lo : Nat → Int64) (up : Nat → Int64) (be : Nat → Int32) (si : Int32) (pl : Int32) (cu : Int32) (ge : Int32) (fa : Int32) (w1 : Nat) : (Nat → Int32) × (Int32) := gv_b (spX0_isBareAt f0 c0 0 (nI w1)) (fun q10 => gv_b (spX0_putLeaf f0 c0 0 (nI w1)) (fun f_q50 => (f_q50, pl + 1)))
theorem spX1_plant_e (f0 : Nat → Int32) (c0 : Nat → Int32) (f1 : Nat → Int32) (c1 : Nat → Int32) (f2 : Nat → Int32) (c2 : Nat → Int32) (lo : Nat → Int64) (up : Nat → Int64) (be : Nat → Int32) (si : Int32) (pl : Int32) (cu : Int32) (ge : Int32) (fa : Int32) (w1 : Nat) : spX1_plant f0 c0 f1 c1 f2 c2 lo up be si pl cu ge fa w1 = gv_b (spX0_isBareAt f0 c0 0 (nI w1)) (fun q10 => gv_b (spX0_putLeaf f0 c0 0 (nI w1)) (fun f_q50 => (f_q50, pl + 1))) := rfl
set_option maxHeartbeats 4000000 in
set_option maxRecDepth 100000 in
theorem kX1_plant (l : Launch) (dC : Nat → ClassId) (dI : Nat → Nat → Nat) (cI cL : ClassId) (ad : Nat → Nat) (f0 : Nat → Int32) (c0 : Nat → Int32) (f1 : Nat → Int32) (c1 : Nat → Int32) (f2 : Nat → Int32) (c2 : Nat → Int32) (lo : Nat → Int64) (up : Nat → Int64) (be : Nat → Int32) (si : Int32) (pl : Int32) (cu : Int32) (ge : Int32) (fa : Int32) (p1 : Int32) (w1 : Nat) (hw1 : p1 = nI w1) (hy0 : w1 < 12) (hy1 : spX0_isBareAt f0 c0 0 (nI w1) = 1) (hy2 : pl < 4) : gv_Mv l yX1_plant wsX1_plant 3 65 (dC, dI) [(cI, .int), (cL, .long)] [.ref (ad 0), .int p1] (gv_V cI cL ad f0 c0 f1 c1 f2 c2 lo up be si pl cu ge fa) (fun (u : (Nat → Int32) × (Int32)) => u = spX1_plant f0 c0 f1 c1 f2 c2 lo up be si pl cu ge fa w1) (fun (u : (Nat → Int32) × (Int32)) => (gv_V cI cL ad u.1 c0 f1 c1 f2 c2 lo up be si u.2 cu ge fa)) := by
  subst hw1
  refine gv_ofv (cc := cX1_plant) (maxL := 2) (own := RX1) (by decide) rfl (Nat.le_of_ble_eq_true rfl) rfl ?_
  intro A p e s m args below meth c Q ls H locs hx hb hml hts hown hP hK hD hN hS hl kr
  have inX0 : ∀ w ∈ wsX00, w ∈ wsX1_plant := (fun _ h => List.mem_cons_of_mem _ (List.mem_append_left _ (List.mem_append_left _ (List.mem_append_right _ h))))
  have inX1 : ∀ w ∈ wsX10, w ∈ wsX1_plant := (fun _ h => List.mem_cons_of_mem _ (List.mem_append_left _ (List.mem_append_left _ (List.mem_append_left _ (List.mem_append_right _ h)))))
  have hl : lv_has ls 2 [(0, .ref (ad 0)), (1, .int (nI w1))] := hl
  have he := (spX1_plant_e f0 c0 f1 c1 f2 c2 lo up be si pl cu ge fa w1).symm
  refine lv_iload_n hx hb dX1_plant_0 rfl (lv_at hl 1 rfl) ?_
  have hPc : va_P (dC, dI) vwCl ([] : va_W) H := gv_P0
  have hDc : va_D (gv_in ([] : va_W)) ([] : va_W) := gv_D0
  refine gv_kv (wf := (fun (_ : Unit) => ([] : va_W))) (wc := ([] : va_W)) [] (fun _ => rfl) hP hD hS rfl rfl (va_runS (As := [.int (nI w1)]) (rest := []) ⟨hx, hb, hml, hown, hts⟩ (kX1_requireColumn l dC dI cI cL (nI w1) w1 rfl (by omega) (gv_in ([] : va_W))) (va_cwS (rm := gv_R 0 0) 1 hts gX1_plant_X1_requireColumn rfl rfl rfl (by decide +kernel) ⟨Nat.le_of_ble_eq_true rfl, Nat.le_of_ble_eq_true rfl⟩) (gv_preS hK hPc hDc hN) rfl rfl hl.1 rfl (lv_room (Nat.le_of_ble_eq_true rfl)) dX1_plant_1 ⟨Nat.zero_le _, Nat.zero_le _⟩) (fun u H locs hw hP hD hS => ?_)
  have hP : va_P (dC, dI) vwCl (gv_V cI cL ad f0 c0 f1 c1 f2 c2 lo up be si pl cu ge fa) H := hP
  have hD : va_D A (gv_V cI cL ad f0 c0 f1 c1 f2 c2 lo up be si pl cu ge fa) := hD
  refine lv_aload_n hx hb dX1_plant_4 rfl (lv_at hl 0 rfl) ?_
  refine va_get (D := (dC, dI)) (ci := 1) (v := .ref (ad 1)) (C := RX1) (T := TX1) (N := 11) hx hb hts inX1 hown hK hP 0 rfl rfl 0 (by decide) (hts (.fieldLink RX1 10 "VineWall" "wall" "LVineWall$Wall;") (List.mem_of_getElem? (i := 3) rfl)) (fun _ h9 => h9) rfl dX1_plant_5 ?_
  refine lv_iconst (v := 0) hx hb dX1_plant_8 (by decide) ?_
  refine lv_iload_n hx hb dX1_plant_9 rfl (lv_at hl 1 rfl) ?_
  have hPc : va_P (dC, dI) vwCl (gv_W cI (ad 1) (ad 2) (ad 3) f0 c0) H := gv_sub [1, 2, 3] hP rfl
  have hDc : va_D (gv_in (gv_W cI (ad 1) (ad 2) (ad 3) f0 c0)) (gv_W cI (ad 1) (ad 2) (ad 3) f0 c0) := gv_D hD [1, 2, 3] (by decide) rfl
  refine gv_ki (wf := (fun (_ : Unit) => (gv_W cI (ad 1) (ad 2) (ad 3) f0 c0))) (wc := (gv_W cI (ad 1) (ad 2) (ad 3) f0 c0)) [1, 2, 3] (fun _ => rfl) hP hD hS rfl rfl (va_runV (As := [.int 0, .int (nI w1)]) (rest := []) ⟨hx, hb, hml, hown, hts⟩ (kX0_isBareAt l dC dI cI cL (ad 1) (ad 2) (ad 3) f0 c0 0 (nI w1) (gv_in (gv_W cI (ad 1) (ad 2) (ad 3) f0 c0))) (cwV (rm := gv_R 2 43) 2 hts gX1_plant_X0_isBareAt rfl rfl rfl (by decide +kernel) ⟨Nat.le_of_ble_eq_true rfl, Nat.le_of_ble_eq_true rfl⟩) (gv_preV (ci := 0) hK hPc hDc hN rfl rfl) rfl rfl hl.1 rfl (lv_room (Nat.le_of_ble_eq_true rfl)) dX1_plant_10 ⟨Nat.zero_le _, Nat.zero_le _⟩) (fun q10 u H locs hw hP hD hS => ?_)
  have he := gv_q hw he
  have hP : va_P (dC, dI) vwCl (gv_V cI cL ad f0 c0 f1 c1 f2 c2 lo up be si pl cu ge fa) H := hP
  have hD : va_D A (gv_V cI cL ad f0 c0 f1 c1 f2 c2 lo up be si pl cu ge fa) := hD
  refine lv_if_ne (tgt := 26) hx hb dX1_plant_13 (by decide) (fun _ => ?_) (fun c => absurd c (by rw [hw, hy1]; decide))
  refine lv_aload_n hx hb dX1_plant_26 rfl (lv_at hl 0 rfl) ?_
  refine va_get (D := (dC, dI)) (ci := 1) (v := .int pl) (C := RX1) (T := TX1) (N := 11) hx hb hts inX1 hown hK hP 0 rfl rfl 7 (by decide) (hts (.fieldLink RX1 37 "VineWall" "planted" "I") (List.mem_of_getElem? (i := 4) rfl)) (fun _ h9 => h9) rfl dX1_plant_27 ?_
  refine lv_iconst (v := 4) hx hb dX1_plant_30 (by decide) ?_
  refine lv_icmp_lt (tgt := 44) hx hb dX1_plant_31 (by decide) (fun _ => ?_) (fun c => absurd hy2 c)
  refine lv_aload_n hx hb dX1_plant_44 rfl (lv_at hl 0 rfl) ?_
  refine va_get (D := (dC, dI)) (ci := 1) (v := .ref (ad 1)) (C := RX1) (T := TX1) (N := 11) hx hb hts inX1 hown hK hP 0 rfl rfl 0 (by decide) (hts (.fieldLink RX1 10 "VineWall" "wall" "LVineWall$Wall;") (List.mem_of_getElem? (i := 3) rfl)) (fun _ h9 => h9) rfl dX1_plant_45 ?_
  refine lv_iconst (v := 0) hx hb dX1_plant_48 (by decide) ?_
  refine lv_iload_n hx hb dX1_plant_49 rfl (lv_at hl 1 rfl) ?_
  have hPc : va_P (dC, dI) vwCl (gv_W cI (ad 1) (ad 2) (ad 3) f0 c0) H := gv_sub [1, 2, 3] hP rfl
  have hDc : va_D (gv_in (gv_W cI (ad 1) (ad 2) (ad 3) f0 c0)) (gv_W cI (ad 1) (ad 2) (ad 3) f0 c0) := gv_D hD [1, 2, 3] (by decide) rfl
  refine gv_kv (wf := (fun (u : (Nat → Int32)) => (gv_W cI (ad 1) (ad 2) (ad 3) u c0))) (wc := (gv_W cI (ad 1) (ad 2) (ad 3) f0 c0)) [1, 2, 3] (fun _ => rfl) hP hD hS rfl rfl (va_runV (As := [.int 0, .int (nI w1)]) (rest := []) ⟨hx, hb, hml, hown, hts⟩ (kX0_putLeaf l dC dI cI cL (ad 1) (ad 2) (ad 3) f0 c0 0 (nI w1) (gv_in (gv_W cI (ad 1) (ad 2) (ad 3) f0 c0))) (cwV (rm := gv_R 1 21) 2 hts gX1_plant_X0_putLeaf rfl rfl rfl (by decide +kernel) ⟨Nat.le_of_ble_eq_true rfl, Nat.le_of_ble_eq_true rfl⟩) (gv_preV (ci := 0) hK hPc hDc hN rfl rfl) rfl rfl hl.1 rfl (lv_room (Nat.le_of_ble_eq_true rfl)) dX1_plant_50 ⟨Nat.zero_le _, Nat.zero_le _⟩) (fun u H locs hw hP hD hS => ?_)
  obtain ⟨f_q50, rfl⟩ : ∃ z, z = u := ⟨_, rfl⟩
  have he := gv_q hw he
  have hP : va_P (dC, dI) vwCl (gv_V cI cL ad f_q50 c0 f1 c1 f2 c2 lo up be si pl cu ge fa) H := hP
  have hD : va_D A (gv_V cI cL ad f_q50 c0 f1 c1 f2 c2 lo up be si pl cu ge fa) := hD
  refine lv_aload_n hx hb dX1_plant_53 rfl (lv_at hl 0 rfl) ?_
  refine lv_dup hx hb dX1_plant_54 rfl ?_
  refine va_get (D := (dC, dI)) (ci := 1) (v := .int pl) (C := RX1) (T := TX1) (N := 11) hx hb hts inX1 hown hK hP 0 rfl rfl 7 (by decide) (hts (.fieldLink RX1 37 "VineWall" "planted" "I") (List.mem_of_getElem? (i := 4) rfl)) (fun _ h9 => h9) rfl dX1_plant_55 ?_
  refine lv_iconst (v := 1) hx hb dX1_plant_58 (by decide) ?_
  refine lv_iadd hx hb dX1_plant_59 ?_
  refine va_put (D := (dC, dI)) (ci := 1) (v := .int (pl + 1)) (ty := .int) (C := RX1) (T := TX1) (N := 11) hx hb hts inX1 tyX1 tyX1_ok nmX1 hown hK hP hD hS 0 rfl rfl 7 (by decide) (hts (.fieldLink RX1 37 "VineWall" "planted" "I") (List.mem_of_getElem? (i := 4) rfl)) (fun _ h9 => h9) rfl (by decide +kernel) rfl rfl (Nat.le_of_ble_eq_true rfl) dX1_plant_60 (fun H locs hP hD hS => ?_)
  have hP : va_P (dC, dI) vwCl (gv_V cI cL ad f_q50 c0 f1 c1 f2 c2 lo up be si (pl + 1) cu ge fa) H := hP
  have hD : va_D A (gv_V cI cL ad f_q50 c0 f1 c1 f2 c2 lo up be si (pl + 1) cu ge fa) := hD
  exact kr (f_q50, pl + 1) _ _ _ _ he hP hS dX1_plant_63
def spX1_trellis (f0 : Nat → Int32) (c0 : Nat → Int32) (f1 : Nat → Int32) (c1 : Nat → Int32) (f2 : Nat → Int32) (c2 : Nat → Int32) (lo : Nat → Int64) (up : Nat → Int64) (be : Nat → Int32) (si : Int32) (pl : Int32) (cu : Int32) (ge : Int32) (fa : Int32) (w1 : Nat) (w2 : Nat) : Int32 × (Nat → Int32) := (be w1, upd be w1 (nI w2))
theorem spX1_trellis_e (f0 : Nat → Int32) (c0 : Nat → Int32) (f1 : Nat → Int32) (c1 : Nat → Int32) (f2 : Nat → Int32) (c2 : Nat → Int32) (lo : Nat → Int64) (up : Nat → Int64) (be : Nat → Int32) (si : Int32) (pl : Int32) (cu : Int32) (ge : Int32) (fa : Int32) (w1 : Nat) (w2 : Nat) : spX1_trellis f0 c0 f1 c1 f2 c2 lo up be si pl cu ge fa w1 w2 = (be w1, upd be w1 (nI w2)) := rfl
set_option maxHeartbeats 4000000 in
set_option maxRecDepth 100000 in
theorem kX1_trellis (l : Launch) (dC : Nat → ClassId) (dI : Nat → Nat → Nat) (cI cL : ClassId) (ad : Nat → Nat) (f0 : Nat → Int32) (c0 : Nat → Int32) (f1 : Nat → Int32) (c1 : Nat → Int32) (f2 : Nat → Int32) (c2 : Nat → Int32) (lo : Nat → Int64) (up : Nat → Int64) (be : Nat → Int32) (si : Int32) (pl : Int32) (cu : Int32) (ge : Int32) (fa : Int32) (p1 : Int32) (w1 : Nat) (hw1 : p1 = nI w1) (p2 : Int32) (w2 : Nat) (hw2 : p2 = nI w2) (hy0 : w1 < 12) (hy1 : 1 ≤ w2) (hy2 : w2 ≤ 8) : gv_Mi l yX1_trellis wsX1_trellis 1 20 (dC, dI) [(cI, .int), (cL, .long)] [.ref (ad 0), .int p1, .int p2] (gv_V cI cL ad f0 c0 f1 c1 f2 c2 lo up be si pl cu ge fa) (fun (r : Int32) (u : (Nat → Int32)) => (r, u) = spX1_trellis f0 c0 f1 c1 f2 c2 lo up be si pl cu ge fa w1 w2) (fun (u : (Nat → Int32)) => (gv_V cI cL ad f0 c0 f1 c1 f2 c2 lo up u si pl cu ge fa)) := by
  subst hw1
  subst hw2
  refine gv_ofi (cc := cX1_trellis) (maxL := 4) (own := RX1) (by decide) rfl (Nat.le_of_ble_eq_true rfl) rfl ?_
  intro A p e s m args below meth c Q ls H locs hx hb hml hts hown hP hK hD hN hS hl kr
  have inX1 : ∀ w ∈ wsX10, w ∈ wsX1_trellis := (fun _ h => List.mem_cons_of_mem _ (List.mem_append_left _ (List.mem_append_left _ (List.mem_append_right _ h))))
  have hl : lv_has ls 4 [(0, .ref (ad 0)), (1, .int (nI w1)), (2, .int (nI w2))] := hl
  have he := (spX1_trellis_e f0 c0 f1 c1 f2 c2 lo up be si pl cu ge fa w1 w2).symm
  refine lv_iload_n hx hb dX1_trellis_0 rfl (lv_at hl 1 rfl) ?_
  have hPc : va_P (dC, dI) vwCl ([] : va_W) H := gv_P0
  have hDc : va_D (gv_in ([] : va_W)) ([] : va_W) := gv_D0
  refine gv_kv (wf := (fun (_ : Unit) => ([] : va_W))) (wc := ([] : va_W)) [] (fun _ => rfl) hP hD hS rfl rfl (va_runS (As := [.int (nI w1)]) (rest := []) ⟨hx, hb, hml, hown, hts⟩ (kX1_requireColumn l dC dI cI cL (nI w1) w1 rfl (by omega) (gv_in ([] : va_W))) (va_cwS (rm := gv_R 0 0) 1 hts gX1_trellis_X1_requireColumn rfl rfl rfl (by decide +kernel) ⟨Nat.le_of_ble_eq_true rfl, Nat.le_of_ble_eq_true rfl⟩) (gv_preS hK hPc hDc hN) rfl rfl hl.1 rfl (lv_room (Nat.le_of_ble_eq_true rfl)) dX1_trellis_1 ⟨Nat.zero_le _, Nat.zero_le _⟩) (fun u H locs hw hP hD hS => ?_)
  have hP : va_P (dC, dI) vwCl (gv_V cI cL ad f0 c0 f1 c1 f2 c2 lo up be si pl cu ge fa) H := hP
  have hD : va_D A (gv_V cI cL ad f0 c0 f1 c1 f2 c2 lo up be si pl cu ge fa) := hD
  refine lv_iload_n hx hb dX1_trellis_4 rfl (lv_at hl 2 rfl) ?_
  refine lv_iconst (v := 1) hx hb dX1_trellis_5 (by decide) ?_
  refine lv_icmp_lt (tgt := 15) hx hb dX1_trellis_6 (by decide) (fun c => absurd c (fun (z : nI w2 < (1 : Int32)) => absurd ((nI_ltI (b := 1) (by omega) (by decide)).mp z) (by omega))) (fun _ => ?_)
  refine lv_iload_n hx hb dX1_trellis_9 rfl (lv_at hl 2 rfl) ?_
  refine lv_bipush (v := 8) hx hb dX1_trellis_10 (by decide) ?_
  refine lv_icmp_le (tgt := 25) hx hb dX1_trellis_12 (by decide) (fun _ => ?_) (fun c => absurd ((nI_leI (b := 8) (by omega) (by decide)).mpr hy2) c)
  refine lv_aload_n hx hb dX1_trellis_25 rfl (lv_at hl 0 rfl) ?_
  refine va_get (D := (dC, dI)) (ci := 1) (v := .ref (ad 12)) (C := RX1) (T := TX1) (N := 11) hx hb hts inX1 hown hK hP 0 rfl rfl 5 (by decide) (hts (.fieldLink RX1 29 "VineWall" "bearings" "[I") (List.mem_of_getElem? (i := 3) rfl)) (fun _ h9 => h9) rfl dX1_trellis_26 ?_
  refine lv_iload_n hx hb dX1_trellis_29 rfl (lv_at hl 1 rfl) ?_
  refine gv_iald (cA := cI) (f := be) (k := w1) hx hb hK hP 12 0 rfl rfl rfl (by omega) (by decide) dX1_trellis_30 ?_
  refine lv_istore_n (lv' := [(3, .int (be w1)), (0, .ref (ad 0)), (1, .int (nI w1)), (2, .int (nI w2))]) hx hb dX1_trellis_31 rfl hl (by decide) rfl (fun ls hl => ?_)
  refine lv_aload_n hx hb dX1_trellis_32 rfl (lv_at hl 1 rfl) ?_
  refine va_get (D := (dC, dI)) (ci := 1) (v := .ref (ad 12)) (C := RX1) (T := TX1) (N := 11) hx hb hts inX1 hown hK hP 0 rfl rfl 5 (by decide) (hts (.fieldLink RX1 29 "VineWall" "bearings" "[I") (List.mem_of_getElem? (i := 3) rfl)) (fun _ h9 => h9) rfl dX1_trellis_33 ?_
  refine lv_iload_n hx hb dX1_trellis_36 rfl (lv_at hl 2 rfl) ?_
  refine lv_iload_n hx hb dX1_trellis_37 rfl (lv_at hl 3 rfl) ?_
  refine gv_iast (cA := cI) (k := w1) hx hb hK hP hD hS 12 0 rfl rfl rfl (by omega) (by decide) dX1_trellis_38 (fun H locs hP hD hS => ?_)
  have hP : va_P (dC, dI) vwCl (gv_V cI cL ad f0 c0 f1 c1 f2 c2 lo up (upd be w1 (nI w2)) si pl cu ge fa) H := hP
  have hD : va_D A (gv_V cI cL ad f0 c0 f1 c1 f2 c2 lo up (upd be w1 (nI w2)) si pl cu ge fa) := hD
  refine lv_iload_n hx hb dX1_trellis_39 rfl (lv_at hl 0 rfl) ?_
  exact kr (be w1) (upd be w1 (nI w2)) _ _ _ _ he hP hS dX1_trellis_40
def spX1_look (f0 : Nat → Int32) (c0 : Nat → Int32) (f1 : Nat → Int32) (c1 : Nat → Int32) (f2 : Nat → Int32) (c2 : Nat → Int32) (lo : Nat → Int64) (up : Nat → Int64) (be : Nat → Int32) (si : Int32) (pl : Int32) (cu : Int32) (ge : Int32) (fa : Int32) (w1 : Nat) (w2 : Nat) : Int32 := gv_b (spX0_hasLeafAt f0 c0 (nI w1) (nI w2)) (fun q11 => (if q11 = 0 then gv_b (spX0_isBareAt f0 c0 (nI w1) (nI w2)) (fun q26 => (if q26 = 0 then 120 else 46)) else 35))
theorem spX1_look_e (f0 : Nat → Int32) (c0 : Nat → Int32) (f1 : Nat → Int32) (c1 : Nat → Int32) (f2 : Nat → Int32) (c2 : Nat → Int32) (lo : Nat → Int64) (up : Nat → Int64) (be : Nat → Int32) (si : Int32) (pl : Int32) (cu : Int32) (ge : Int32) (fa : Int32) (w1 : Nat) (w2 : Nat) : spX1_look f0 c0 f1 c1 f2 c2 lo up be si pl cu ge fa w1 w2 = gv_b (spX0_hasLeafAt f0 c0 (nI w1) (nI w2)) (fun q11 => (if q11 = 0 then gv_b (spX0_isBareAt f0 c0 (nI w1) (nI w2)) (fun q26 => (if q26 = 0 then 120 else 46)) else 35)) := rfl
set_option maxHeartbeats 4000000 in
set_option maxRecDepth 100000 in
theorem kX1_look (l : Launch) (dC : Nat → ClassId) (dI : Nat → Nat → Nat) (cI cL : ClassId) (ad : Nat → Nat) (f0 : Nat → Int32) (c0 : Nat → Int32) (f1 : Nat → Int32) (c1 : Nat → Int32) (f2 : Nat → Int32) (c2 : Nat → Int32) (lo : Nat → Int64) (up : Nat → Int64) (be : Nat → Int32) (si : Int32) (pl : Int32) (cu : Int32) (ge : Int32) (fa : Int32) (p1 : Int32) (w1 : Nat) (hw1 : p1 = nI w1) (p2 : Int32) (w2 : Nat) (hw2 : p2 = nI w2) (hy0 : w1 < 8) (hy1 : w2 < 12) : gv_Mi l yX1_look wsX1_look 3 65 (dC, dI) [(cI, .int), (cL, .long)] [.ref (ad 0), .int p1, .int p2] (gv_V cI cL ad f0 c0 f1 c1 f2 c2 lo up be si pl cu ge fa) (fun (r : Int32) (_ : Unit) => r = spX1_look f0 c0 f1 c1 f2 c2 lo up be si pl cu ge fa w1 w2) (fun (_ : Unit) => (gv_V cI cL ad f0 c0 f1 c1 f2 c2 lo up be si pl cu ge fa)) := by
  subst hw1
  subst hw2
  refine gv_ofz (cc := cX1_look) (maxL := 3) (own := RX1) (ty := .char) (by decide) rfl (Nat.le_of_ble_eq_true rfl) rfl ?_
  intro A p e s m args below meth c Q ls H locs hx hb hml hts hown hP hK hD hN hS hl kr
  have inX0 : ∀ w ∈ wsX00, w ∈ wsX1_look := (fun _ h => List.mem_cons_of_mem _ (List.mem_append_left _ (List.mem_append_right _ h)))
  have inX1 : ∀ w ∈ wsX10, w ∈ wsX1_look := (fun _ h => List.mem_cons_of_mem _ (List.mem_append_left _ (List.mem_append_left _ (List.mem_append_right _ h))))
  have hl : lv_has ls 3 [(0, .ref (ad 0)), (1, .int (nI w1)), (2, .int (nI w2))] := hl
  have he := (spX1_look_e f0 c0 f1 c1 f2 c2 lo up be si pl cu ge fa w1 w2).symm
  refine lv_iload_n hx hb dX1_look_0 rfl (lv_at hl 1 rfl) ?_
  refine lv_iload_n hx hb dX1_look_1 rfl (lv_at hl 2 rfl) ?_
  have hPc : va_P (dC, dI) vwCl ([] : va_W) H := gv_P0
  have hDc : va_D (gv_in ([] : va_W)) ([] : va_W) := gv_D0
  refine gv_kv (wf := (fun (_ : Unit) => ([] : va_W))) (wc := ([] : va_W)) [] (fun _ => rfl) hP hD hS rfl rfl (va_runS (As := [.int (nI w1), .int (nI w2)]) (rest := []) ⟨hx, hb, hml, hown, hts⟩ (kX1_requireCell l dC dI cI cL (nI w1) w1 rfl (nI w2) w2 rfl (by omega) (by omega) (gv_in ([] : va_W))) (va_cwS (rm := gv_R 1 21) 2 hts gX1_look_X1_requireCell rfl rfl rfl (by decide +kernel) ⟨Nat.le_of_ble_eq_true rfl, Nat.le_of_ble_eq_true rfl⟩) (gv_preS hK hPc hDc hN) rfl rfl hl.1 rfl (lv_room (Nat.le_of_ble_eq_true rfl)) dX1_look_2 ⟨Nat.zero_le _, Nat.zero_le _⟩) (fun u H locs hw hP hD hS => ?_)
  have hP : va_P (dC, dI) vwCl (gv_V cI cL ad f0 c0 f1 c1 f2 c2 lo up be si pl cu ge fa) H := hP
  have hD : va_D A (gv_V cI cL ad f0 c0 f1 c1 f2 c2 lo up be si pl cu ge fa) := hD
  refine lv_aload_n hx hb dX1_look_5 rfl (lv_at hl 0 rfl) ?_
  refine va_get (D := (dC, dI)) (ci := 1) (v := .ref (ad 1)) (C := RX1) (T := TX1) (N := 11) hx hb hts inX1 hown hK hP 0 rfl rfl 0 (by decide) (hts (.fieldLink RX1 10 "VineWall" "wall" "LVineWall$Wall;") (List.mem_of_getElem? (i := 1) rfl)) (fun _ h9 => h9) rfl dX1_look_6 ?_
  refine lv_iload_n hx hb dX1_look_9 rfl (lv_at hl 1 rfl) ?_
  refine lv_iload_n hx hb dX1_look_10 rfl (lv_at hl 2 rfl) ?_
  have hPc : va_P (dC, dI) vwCl (gv_W cI (ad 1) (ad 2) (ad 3) f0 c0) H := gv_sub [1, 2, 3] hP rfl
  have hDc : va_D (gv_in (gv_W cI (ad 1) (ad 2) (ad 3) f0 c0)) (gv_W cI (ad 1) (ad 2) (ad 3) f0 c0) := gv_D hD [1, 2, 3] (by decide) rfl
  refine gv_ki (wf := (fun (_ : Unit) => (gv_W cI (ad 1) (ad 2) (ad 3) f0 c0))) (wc := (gv_W cI (ad 1) (ad 2) (ad 3) f0 c0)) [1, 2, 3] (fun _ => rfl) hP hD hS rfl rfl (va_runV (As := [.int (nI w1), .int (nI w2)]) (rest := []) ⟨hx, hb, hml, hown, hts⟩ (kX0_hasLeafAt l dC dI cI cL (ad 1) (ad 2) (ad 3) f0 c0 (nI w1) (nI w2) (gv_in (gv_W cI (ad 1) (ad 2) (ad 3) f0 c0))) (cwV (rm := gv_R 1 21) 2 hts gX1_look_X0_hasLeafAt rfl rfl rfl (by decide +kernel) ⟨Nat.le_of_ble_eq_true rfl, Nat.le_of_ble_eq_true rfl⟩) (gv_preV (ci := 0) hK hPc hDc hN rfl rfl) rfl rfl hl.1 rfl (lv_room (Nat.le_of_ble_eq_true rfl)) dX1_look_11 ⟨Nat.zero_le _, Nat.zero_le _⟩) (fun q11 u H locs hw hP hD hS => ?_)
  have he := gv_q hw he
  have hP : va_P (dC, dI) vwCl (gv_V cI cL ad f0 c0 f1 c1 f2 c2 lo up be si pl cu ge fa) H := hP
  have hD : va_D A (gv_V cI cL ad f0 c0 f1 c1 f2 c2 lo up be si pl cu ge fa) := hD
  refine lv_if_eq (tgt := 20) hx hb dX1_look_14 (by decide) (fun cd14 => ?_) (fun cd14 => ?_)
  · have he := gv_t cd14 he
    refine lv_aload_n hx hb dX1_look_20 rfl (lv_at hl 0 rfl) ?_
    refine va_get (D := (dC, dI)) (ci := 1) (v := .ref (ad 1)) (C := RX1) (T := TX1) (N := 11) hx hb hts inX1 hown hK hP 0 rfl rfl 0 (by decide) (hts (.fieldLink RX1 10 "VineWall" "wall" "LVineWall$Wall;") (List.mem_of_getElem? (i := 1) rfl)) (fun _ h9 => h9) rfl dX1_look_21 ?_
    refine lv_iload_n hx hb dX1_look_24 rfl (lv_at hl 1 rfl) ?_
    refine lv_iload_n hx hb dX1_look_25 rfl (lv_at hl 2 rfl) ?_
    have hPc : va_P (dC, dI) vwCl (gv_W cI (ad 1) (ad 2) (ad 3) f0 c0) H := gv_sub [1, 2, 3] hP rfl
    have hDc : va_D (gv_in (gv_W cI (ad 1) (ad 2) (ad 3) f0 c0)) (gv_W cI (ad 1) (ad 2) (ad 3) f0 c0) := gv_D hD [1, 2, 3] (by decide) rfl
    refine gv_ki (wf := (fun (_ : Unit) => (gv_W cI (ad 1) (ad 2) (ad 3) f0 c0))) (wc := (gv_W cI (ad 1) (ad 2) (ad 3) f0 c0)) [1, 2, 3] (fun _ => rfl) hP hD hS rfl rfl (va_runV (As := [.int (nI w1), .int (nI w2)]) (rest := []) ⟨hx, hb, hml, hown, hts⟩ (kX0_isBareAt l dC dI cI cL (ad 1) (ad 2) (ad 3) f0 c0 (nI w1) (nI w2) (gv_in (gv_W cI (ad 1) (ad 2) (ad 3) f0 c0))) (cwV (rm := gv_R 2 43) 2 hts gX1_look_X0_isBareAt rfl rfl rfl (by decide +kernel) ⟨Nat.le_of_ble_eq_true rfl, Nat.le_of_ble_eq_true rfl⟩) (gv_preV (ci := 0) hK hPc hDc hN rfl rfl) rfl rfl hl.1 rfl (lv_room (Nat.le_of_ble_eq_true rfl)) dX1_look_26 ⟨Nat.zero_le _, Nat.zero_le _⟩) (fun q26 u H locs hw hP hD hS => ?_)
    have he := gv_q hw he
    have hP : va_P (dC, dI) vwCl (gv_V cI cL ad f0 c0 f1 c1 f2 c2 lo up be si pl cu ge fa) H := hP
    have hD : va_D A (gv_V cI cL ad f0 c0 f1 c1 f2 c2 lo up be si pl cu ge fa) := hD
    refine lv_if_eq (tgt := 37) hx hb dX1_look_29 (by decide) (fun cd29 => ?_) (fun cd29 => ?_)
    · have he := gv_t cd29 he
      refine lv_bipush (v := 120) hx hb dX1_look_37 (by decide) ?_
      exact kr 120 () _ _ _ _ rfl he hP hS dX1_look_39
    · have he := gv_f cd29 he
      refine lv_bipush (v := 46) hx hb dX1_look_32 (by decide) ?_
      refine lv_goto (tgt := 39) hx hb dX1_look_34 (by decide) ?_
      exact kr 46 () _ _ _ _ rfl he hP hS dX1_look_39
  · have he := gv_f cd14 he
    refine lv_bipush (v := 35) hx hb dX1_look_17 (by decide) ?_
    exact kr 35 () _ _ _ _ rfl he hP hS dX1_look_19
def spX1_shadeOf (f0 : Nat → Int32) (c0 : Nat → Int32) (f1 : Nat → Int32) (c1 : Nat → Int32) (f2 : Nat → Int32) (c2 : Nat → Int32) (lo : Nat → Int64) (up : Nat → Int64) (be : Nat → Int32) (si : Int32) (pl : Int32) (cu : Int32) (ge : Int32) (fa : Int32) (w1 : Nat) (w2 : Nat) : Int32 := gv_b (spX0_shadeAt f0 c0 (w1 + 1) (nI w2)) (fun q11 => q11)
theorem spX1_shadeOf_e (f0 : Nat → Int32) (c0 : Nat → Int32) (f1 : Nat → Int32) (c1 : Nat → Int32) (f2 : Nat → Int32) (c2 : Nat → Int32) (lo : Nat → Int64) (up : Nat → Int64) (be : Nat → Int32) (si : Int32) (pl : Int32) (cu : Int32) (ge : Int32) (fa : Int32) (w1 : Nat) (w2 : Nat) : spX1_shadeOf f0 c0 f1 c1 f2 c2 lo up be si pl cu ge fa w1 w2 = gv_b (spX0_shadeAt f0 c0 (w1 + 1) (nI w2)) (fun q11 => q11) := rfl
set_option maxHeartbeats 4000000 in
set_option maxRecDepth 100000 in
theorem kX1_shadeOf (l : Launch) (dC : Nat → ClassId) (dI : Nat → Nat → Nat) (cI cL : ClassId) (ad : Nat → Nat) (f0 : Nat → Int32) (c0 : Nat → Int32) (f1 : Nat → Int32) (c1 : Nat → Int32) (f2 : Nat → Int32) (c2 : Nat → Int32) (lo : Nat → Int64) (up : Nat → Int64) (be : Nat → Int32) (si : Int32) (pl : Int32) (cu : Int32) (ge : Int32) (fa : Int32) (p1 : Int32) (w1 : Nat) (hw1 : p1 = nI w1) (p2 : Int32) (w2 : Nat) (hw2 : p2 = nI w2) (hy0 : w1 < 8) (hy1 : w2 < 12) : gv_Mi l yX1_shadeOf wsX1_shadeOf 2 45 (dC, dI) [(cI, .int), (cL, .long)] [.ref (ad 0), .int p1, .int p2] (gv_V cI cL ad f0 c0 f1 c1 f2 c2 lo up be si pl cu ge fa) (fun (r : Int32) (_ : Unit) => r = spX1_shadeOf f0 c0 f1 c1 f2 c2 lo up be si pl cu ge fa w1 w2) (fun (_ : Unit) => (gv_V cI cL ad f0 c0 f1 c1 f2 c2 lo up be si pl cu ge fa)) := by
  subst hw1
  subst hw2
  refine gv_ofi (cc := cX1_shadeOf) (maxL := 3) (own := RX1) (by decide) rfl (Nat.le_of_ble_eq_true rfl) rfl ?_
  intro A p e s m args below meth c Q ls H locs hx hb hml hts hown hP hK hD hN hS hl kr
  have inX0 : ∀ w ∈ wsX00, w ∈ wsX1_shadeOf := (fun _ h => List.mem_cons_of_mem _ (List.mem_append_left _ (List.mem_append_right _ h)))
  have inX1 : ∀ w ∈ wsX10, w ∈ wsX1_shadeOf := (fun _ h => List.mem_cons_of_mem _ (List.mem_append_left _ (List.mem_append_left _ (List.mem_append_right _ h))))
  have hl : lv_has ls 3 [(0, .ref (ad 0)), (1, .int (nI w1)), (2, .int (nI w2))] := hl
  have he := (spX1_shadeOf_e f0 c0 f1 c1 f2 c2 lo up be si pl cu ge fa w1 w2).symm
  refine lv_iload_n hx hb dX1_shadeOf_0 rfl (lv_at hl 1 rfl) ?_
  refine lv_iload_n hx hb dX1_shadeOf_1 rfl (lv_at hl 2 rfl) ?_
  have hPc : va_P (dC, dI) vwCl ([] : va_W) H := gv_P0
  have hDc : va_D (gv_in ([] : va_W)) ([] : va_W) := gv_D0
  refine gv_kv (wf := (fun (_ : Unit) => ([] : va_W))) (wc := ([] : va_W)) [] (fun _ => rfl) hP hD hS rfl rfl (va_runS (As := [.int (nI w1), .int (nI w2)]) (rest := []) ⟨hx, hb, hml, hown, hts⟩ (kX1_requireCell l dC dI cI cL (nI w1) w1 rfl (nI w2) w2 rfl (by omega) (by omega) (gv_in ([] : va_W))) (va_cwS (rm := gv_R 1 21) 2 hts gX1_shadeOf_X1_requireCell rfl rfl rfl (by decide +kernel) ⟨Nat.le_of_ble_eq_true rfl, Nat.le_of_ble_eq_true rfl⟩) (gv_preS hK hPc hDc hN) rfl rfl hl.1 rfl (lv_room (Nat.le_of_ble_eq_true rfl)) dX1_shadeOf_2 ⟨Nat.zero_le _, Nat.zero_le _⟩) (fun u H locs hw hP hD hS => ?_)
  have hP : va_P (dC, dI) vwCl (gv_V cI cL ad f0 c0 f1 c1 f2 c2 lo up be si pl cu ge fa) H := hP
  have hD : va_D A (gv_V cI cL ad f0 c0 f1 c1 f2 c2 lo up be si pl cu ge fa) := hD
  refine lv_aload_n hx hb dX1_shadeOf_5 rfl (lv_at hl 0 rfl) ?_
  refine va_get (D := (dC, dI)) (ci := 1) (v := .ref (ad 1)) (C := RX1) (T := TX1) (N := 11) hx hb hts inX1 hown hK hP 0 rfl rfl 0 (by decide) (hts (.fieldLink RX1 10 "VineWall" "wall" "LVineWall$Wall;") (List.mem_of_getElem? (i := 1) rfl)) (fun _ h9 => h9) rfl dX1_shadeOf_6 ?_
  refine lv_iload_n hx hb dX1_shadeOf_9 rfl (lv_at hl 1 rfl) ?_
  refine lv_iload_n hx hb dX1_shadeOf_10 rfl (lv_at hl 2 rfl) ?_
  have hPc : va_P (dC, dI) vwCl (gv_W cI (ad 1) (ad 2) (ad 3) f0 c0) H := gv_sub [1, 2, 3] hP rfl
  have hDc : va_D (gv_in (gv_W cI (ad 1) (ad 2) (ad 3) f0 c0)) (gv_W cI (ad 1) (ad 2) (ad 3) f0 c0) := gv_D hD [1, 2, 3] (by decide) rfl
  refine gv_ki (wf := (fun (_ : Unit) => (gv_W cI (ad 1) (ad 2) (ad 3) f0 c0))) (wc := (gv_W cI (ad 1) (ad 2) (ad 3) f0 c0)) [1, 2, 3] (fun _ => rfl) hP hD hS rfl rfl (va_runV (As := [.int (nI w1), .int (nI w2)]) (rest := []) ⟨hx, hb, hml, hown, hts⟩ (kX0_shadeAt l dC dI cI cL (ad 1) (ad 2) (ad 3) f0 c0 (nI w1) (w1 + 1) (gn_add rfl (rfl : (1 : Int32) = nI 1)) (nI w2) (by omega) (gv_in (gv_W cI (ad 1) (ad 2) (ad 3) f0 c0))) (cwV (rm := gv_R 1 21) 2 hts gX1_shadeOf_X0_shadeAt rfl rfl rfl (by decide +kernel) ⟨Nat.le_of_ble_eq_true rfl, Nat.le_of_ble_eq_true rfl⟩) (gv_preV (ci := 0) hK hPc hDc hN rfl rfl) rfl rfl hl.1 rfl (lv_room (Nat.le_of_ble_eq_true rfl)) dX1_shadeOf_11 ⟨Nat.zero_le _, Nat.zero_le _⟩) (fun q11 u H locs hw hP hD hS => ?_)
  have he := gv_q hw he
  have hP : va_P (dC, dI) vwCl (gv_V cI cL ad f0 c0 f1 c1 f2 c2 lo up be si pl cu ge fa) H := hP
  have hD : va_D A (gv_V cI cL ad f0 c0 f1 c1 f2 c2 lo up be si pl cu ge fa) := hD
  exact kr q11 () _ _ _ _ he hP hS dX1_shadeOf_14
def spX1_holdersOf (f0 : Nat → Int32) (c0 : Nat → Int32) (f1 : Nat → Int32) (c1 : Nat → Int32) (f2 : Nat → Int32) (c2 : Nat → Int32) (lo : Nat → Int64) (up : Nat → Int64) (be : Nat → Int32) (si : Int32) (pl : Int32) (cu : Int32) (ge : Int32) (fa : Int32) (w1 : Nat) (w2 : Nat) : Int32 := gv_b (spX0_holdersAt f0 c0 (nI w1) (nI w2) si) (fun q15 => q15)
theorem spX1_holdersOf_e (f0 : Nat → Int32) (c0 : Nat → Int32) (f1 : Nat → Int32) (c1 : Nat → Int32) (f2 : Nat → Int32) (c2 : Nat → Int32) (lo : Nat → Int64) (up : Nat → Int64) (be : Nat → Int32) (si : Int32) (pl : Int32) (cu : Int32) (ge : Int32) (fa : Int32) (w1 : Nat) (w2 : Nat) : spX1_holdersOf f0 c0 f1 c1 f2 c2 lo up be si pl cu ge fa w1 w2 = gv_b (spX0_holdersAt f0 c0 (nI w1) (nI w2) si) (fun q15 => q15) := rfl
set_option maxHeartbeats 4000000 in
set_option maxRecDepth 100000 in
theorem kX1_holdersOf (l : Launch) (dC : Nat → ClassId) (dI : Nat → Nat → Nat) (cI cL : ClassId) (ad : Nat → Nat) (f0 : Nat → Int32) (c0 : Nat → Int32) (f1 : Nat → Int32) (c1 : Nat → Int32) (f2 : Nat → Int32) (c2 : Nat → Int32) (lo : Nat → Int64) (up : Nat → Int64) (be : Nat → Int32) (si : Int32) (pl : Int32) (cu : Int32) (ge : Int32) (fa : Int32) (p1 : Int32) (w1 : Nat) (hw1 : p1 = nI w1) (p2 : Int32) (w2 : Nat) (hw2 : p2 = nI w2) (hy0 : w1 < 8) (hy1 : w2 < 12) : gv_Mi l yX1_holdersOf wsX1_holdersOf 3 70 (dC, dI) [(cI, .int), (cL, .long)] [.ref (ad 0), .int p1, .int p2] (gv_V cI cL ad f0 c0 f1 c1 f2 c2 lo up be si pl cu ge fa) (fun (r : Int32) (_ : Unit) => r = spX1_holdersOf f0 c0 f1 c1 f2 c2 lo up be si pl cu ge fa w1 w2) (fun (_ : Unit) => (gv_V cI cL ad f0 c0 f1 c1 f2 c2 lo up be si pl cu ge fa)) := by
  subst hw1
  subst hw2
  refine gv_ofi (cc := cX1_holdersOf) (maxL := 3) (own := RX1) (by decide) rfl (Nat.le_of_ble_eq_true rfl) rfl ?_
  intro A p e s m args below meth c Q ls H locs hx hb hml hts hown hP hK hD hN hS hl kr
  have inX0 : ∀ w ∈ wsX00, w ∈ wsX1_holdersOf := (fun _ h => List.mem_cons_of_mem _ (List.mem_append_left _ (List.mem_append_right _ h)))
  have inX1 : ∀ w ∈ wsX10, w ∈ wsX1_holdersOf := (fun _ h => List.mem_cons_of_mem _ (List.mem_append_left _ (List.mem_append_left _ (List.mem_append_right _ h))))
  have hl : lv_has ls 3 [(0, .ref (ad 0)), (1, .int (nI w1)), (2, .int (nI w2))] := hl
  have he := (spX1_holdersOf_e f0 c0 f1 c1 f2 c2 lo up be si pl cu ge fa w1 w2).symm
  refine lv_iload_n hx hb dX1_holdersOf_0 rfl (lv_at hl 1 rfl) ?_
  refine lv_iload_n hx hb dX1_holdersOf_1 rfl (lv_at hl 2 rfl) ?_
  have hPc : va_P (dC, dI) vwCl ([] : va_W) H := gv_P0
  have hDc : va_D (gv_in ([] : va_W)) ([] : va_W) := gv_D0
  refine gv_kv (wf := (fun (_ : Unit) => ([] : va_W))) (wc := ([] : va_W)) [] (fun _ => rfl) hP hD hS rfl rfl (va_runS (As := [.int (nI w1), .int (nI w2)]) (rest := []) ⟨hx, hb, hml, hown, hts⟩ (kX1_requireCell l dC dI cI cL (nI w1) w1 rfl (nI w2) w2 rfl (by omega) (by omega) (gv_in ([] : va_W))) (va_cwS (rm := gv_R 1 21) 2 hts gX1_holdersOf_X1_requireCell rfl rfl rfl (by decide +kernel) ⟨Nat.le_of_ble_eq_true rfl, Nat.le_of_ble_eq_true rfl⟩) (gv_preS hK hPc hDc hN) rfl rfl hl.1 rfl (lv_room (Nat.le_of_ble_eq_true rfl)) dX1_holdersOf_2 ⟨Nat.zero_le _, Nat.zero_le _⟩) (fun u H locs hw hP hD hS => ?_)
  have hP : va_P (dC, dI) vwCl (gv_V cI cL ad f0 c0 f1 c1 f2 c2 lo up be si pl cu ge fa) H := hP
  have hD : va_D A (gv_V cI cL ad f0 c0 f1 c1 f2 c2 lo up be si pl cu ge fa) := hD
  refine lv_aload_n hx hb dX1_holdersOf_5 rfl (lv_at hl 0 rfl) ?_
  refine va_get (D := (dC, dI)) (ci := 1) (v := .ref (ad 1)) (C := RX1) (T := TX1) (N := 11) hx hb hts inX1 hown hK hP 0 rfl rfl 0 (by decide) (hts (.fieldLink RX1 10 "VineWall" "wall" "LVineWall$Wall;") (List.mem_of_getElem? (i := 1) rfl)) (fun _ h9 => h9) rfl dX1_holdersOf_6 ?_
  refine lv_iload_n hx hb dX1_holdersOf_9 rfl (lv_at hl 1 rfl) ?_
  refine lv_iload_n hx hb dX1_holdersOf_10 rfl (lv_at hl 2 rfl) ?_
  refine lv_aload_n hx hb dX1_holdersOf_11 rfl (lv_at hl 0 rfl) ?_
  refine va_get (D := (dC, dI)) (ci := 1) (v := .int si) (C := RX1) (T := TX1) (N := 11) hx hb hts inX1 hown hK hP 0 rfl rfl 6 (by decide) (hts (.fieldLink RX1 33 "VineWall" "beyond" "I") (List.mem_of_getElem? (i := 2) rfl)) (fun _ h9 => h9) rfl dX1_holdersOf_12 ?_
  have hPc : va_P (dC, dI) vwCl (gv_W cI (ad 1) (ad 2) (ad 3) f0 c0) H := gv_sub [1, 2, 3] hP rfl
  have hDc : va_D (gv_in (gv_W cI (ad 1) (ad 2) (ad 3) f0 c0)) (gv_W cI (ad 1) (ad 2) (ad 3) f0 c0) := gv_D hD [1, 2, 3] (by decide) rfl
  refine gv_ki (wf := (fun (_ : Unit) => (gv_W cI (ad 1) (ad 2) (ad 3) f0 c0))) (wc := (gv_W cI (ad 1) (ad 2) (ad 3) f0 c0)) [1, 2, 3] (fun _ => rfl) hP hD hS rfl rfl (va_runV (As := [.int (nI w1), .int (nI w2), .int si]) (rest := []) ⟨hx, hb, hml, hown, hts⟩ (kX0_holdersAt l dC dI cI cL (ad 1) (ad 2) (ad 3) f0 c0 (nI w1) (nI w2) si (gv_in (gv_W cI (ad 1) (ad 2) (ad 3) f0 c0))) (cwV (rm := gv_R 2 47) 3 hts gX1_holdersOf_X0_holdersAt rfl rfl rfl (by decide +kernel) ⟨Nat.le_of_ble_eq_true rfl, Nat.le_of_ble_eq_true rfl⟩) (gv_preV (ci := 0) hK hPc hDc hN rfl rfl) rfl rfl hl.1 rfl (lv_room (Nat.le_of_ble_eq_true rfl)) dX1_holdersOf_15 ⟨Nat.zero_le _, Nat.zero_le _⟩) (fun q15 u H locs hw hP hD hS => ?_)
  have he := gv_q hw he
  have hP : va_P (dC, dI) vwCl (gv_V cI cL ad f0 c0 f1 c1 f2 c2 lo up be si pl cu ge fa) H := hP
  have hD : va_D A (gv_V cI cL ad f0 c0 f1 c1 f2 c2 lo up be si pl cu ge fa) := hD
  exact kr q15 () _ _ _ _ he hP hS dX1_holdersOf_18
def spX1_neighboursOf (f0 : Nat → Int32) (c0 : Nat → Int32) (f1 : Nat → Int32) (c1 : Nat → Int32) (f2 : Nat → Int32) (c2 : Nat → Int32) (lo : Nat → Int64) (up : Nat → Int64) (be : Nat → Int32) (si : Int32) (pl : Int32) (cu : Int32) (ge : Int32) (fa : Int32) (w1 : Nat) (w2 : Nat) : Int32 := gv_b (spX0_neighboursAt f0 c0 (nI w1) (nI w2) si) (fun q15 => q15)
theorem spX1_neighboursOf_e (f0 : Nat → Int32) (c0 : Nat → Int32) (f1 : Nat → Int32) (c1 : Nat → Int32) (f2 : Nat → Int32) (c2 : Nat → Int32) (lo : Nat → Int64) (up : Nat → Int64) (be : Nat → Int32) (si : Int32) (pl : Int32) (cu : Int32) (ge : Int32) (fa : Int32) (w1 : Nat) (w2 : Nat) : spX1_neighboursOf f0 c0 f1 c1 f2 c2 lo up be si pl cu ge fa w1 w2 = gv_b (spX0_neighboursAt f0 c0 (nI w1) (nI w2) si) (fun q15 => q15) := rfl
set_option maxHeartbeats 4000000 in
set_option maxRecDepth 100000 in
theorem kX1_neighboursOf (l : Launch) (dC : Nat → ClassId) (dI : Nat → Nat → Nat) (cI cL : ClassId) (ad : Nat → Nat) (f0 : Nat → Int32) (c0 : Nat → Int32) (f1 : Nat → Int32) (c1 : Nat → Int32) (f2 : Nat → Int32) (c2 : Nat → Int32) (lo : Nat → Int64) (up : Nat → Int64) (be : Nat → Int32) (si : Int32) (pl : Int32) (cu : Int32) (ge : Int32) (fa : Int32) (p1 : Int32) (w1 : Nat) (hw1 : p1 = nI w1) (p2 : Int32) (w2 : Nat) (hw2 : p2 = nI w2) (hy0 : w1 < 8) (hy1 : w2 < 12) : gv_Mi l yX1_neighboursOf wsX1_neighboursOf 3 70 (dC, dI) [(cI, .int), (cL, .long)] [.ref (ad 0), .int p1, .int p2] (gv_V cI cL ad f0 c0 f1 c1 f2 c2 lo up be si pl cu ge fa) (fun (r : Int32) (_ : Unit) => r = spX1_neighboursOf f0 c0 f1 c1 f2 c2 lo up be si pl cu ge fa w1 w2) (fun (_ : Unit) => (gv_V cI cL ad f0 c0 f1 c1 f2 c2 lo up be si pl cu ge fa)) := by
  subst hw1
  subst hw2
  refine gv_ofi (cc := cX1_neighboursOf) (maxL := 3) (own := RX1) (by decide) rfl (Nat.le_of_ble_eq_true rfl) rfl ?_
  intro A p e s m args below meth c Q ls H locs hx hb hml hts hown hP hK hD hN hS hl kr
  have inX0 : ∀ w ∈ wsX00, w ∈ wsX1_neighboursOf := (fun _ h => List.mem_cons_of_mem _ (List.mem_append_left _ (List.mem_append_right _ h)))
  have inX1 : ∀ w ∈ wsX10, w ∈ wsX1_neighboursOf := (fun _ h => List.mem_cons_of_mem _ (List.mem_append_left _ (List.mem_append_left _ (List.mem_append_right _ h))))
  have hl : lv_has ls 3 [(0, .ref (ad 0)), (1, .int (nI w1)), (2, .int (nI w2))] := hl
  have he := (spX1_neighboursOf_e f0 c0 f1 c1 f2 c2 lo up be si pl cu ge fa w1 w2).symm
  refine lv_iload_n hx hb dX1_neighboursOf_0 rfl (lv_at hl 1 rfl) ?_
  refine lv_iload_n hx hb dX1_neighboursOf_1 rfl (lv_at hl 2 rfl) ?_
  have hPc : va_P (dC, dI) vwCl ([] : va_W) H := gv_P0
  have hDc : va_D (gv_in ([] : va_W)) ([] : va_W) := gv_D0
  refine gv_kv (wf := (fun (_ : Unit) => ([] : va_W))) (wc := ([] : va_W)) [] (fun _ => rfl) hP hD hS rfl rfl (va_runS (As := [.int (nI w1), .int (nI w2)]) (rest := []) ⟨hx, hb, hml, hown, hts⟩ (kX1_requireCell l dC dI cI cL (nI w1) w1 rfl (nI w2) w2 rfl (by omega) (by omega) (gv_in ([] : va_W))) (va_cwS (rm := gv_R 1 21) 2 hts gX1_neighboursOf_X1_requireCell rfl rfl rfl (by decide +kernel) ⟨Nat.le_of_ble_eq_true rfl, Nat.le_of_ble_eq_true rfl⟩) (gv_preS hK hPc hDc hN) rfl rfl hl.1 rfl (lv_room (Nat.le_of_ble_eq_true rfl)) dX1_neighboursOf_2 ⟨Nat.zero_le _, Nat.zero_le _⟩) (fun u H locs hw hP hD hS => ?_)
  have hP : va_P (dC, dI) vwCl (gv_V cI cL ad f0 c0 f1 c1 f2 c2 lo up be si pl cu ge fa) H := hP
  have hD : va_D A (gv_V cI cL ad f0 c0 f1 c1 f2 c2 lo up be si pl cu ge fa) := hD
  refine lv_aload_n hx hb dX1_neighboursOf_5 rfl (lv_at hl 0 rfl) ?_
  refine va_get (D := (dC, dI)) (ci := 1) (v := .ref (ad 1)) (C := RX1) (T := TX1) (N := 11) hx hb hts inX1 hown hK hP 0 rfl rfl 0 (by decide) (hts (.fieldLink RX1 10 "VineWall" "wall" "LVineWall$Wall;") (List.mem_of_getElem? (i := 1) rfl)) (fun _ h9 => h9) rfl dX1_neighboursOf_6 ?_
  refine lv_iload_n hx hb dX1_neighboursOf_9 rfl (lv_at hl 1 rfl) ?_
  refine lv_iload_n hx hb dX1_neighboursOf_10 rfl (lv_at hl 2 rfl) ?_
  refine lv_aload_n hx hb dX1_neighboursOf_11 rfl (lv_at hl 0 rfl) ?_
  refine va_get (D := (dC, dI)) (ci := 1) (v := .int si) (C := RX1) (T := TX1) (N := 11) hx hb hts inX1 hown hK hP 0 rfl rfl 6 (by decide) (hts (.fieldLink RX1 33 "VineWall" "beyond" "I") (List.mem_of_getElem? (i := 2) rfl)) (fun _ h9 => h9) rfl dX1_neighboursOf_12 ?_
  have hPc : va_P (dC, dI) vwCl (gv_W cI (ad 1) (ad 2) (ad 3) f0 c0) H := gv_sub [1, 2, 3] hP rfl
  have hDc : va_D (gv_in (gv_W cI (ad 1) (ad 2) (ad 3) f0 c0)) (gv_W cI (ad 1) (ad 2) (ad 3) f0 c0) := gv_D hD [1, 2, 3] (by decide) rfl
  refine gv_ki (wf := (fun (_ : Unit) => (gv_W cI (ad 1) (ad 2) (ad 3) f0 c0))) (wc := (gv_W cI (ad 1) (ad 2) (ad 3) f0 c0)) [1, 2, 3] (fun _ => rfl) hP hD hS rfl rfl (va_runV (As := [.int (nI w1), .int (nI w2), .int si]) (rest := []) ⟨hx, hb, hml, hown, hts⟩ (kX0_neighboursAt l dC dI cI cL (ad 1) (ad 2) (ad 3) f0 c0 (nI w1) (nI w2) si (gv_in (gv_W cI (ad 1) (ad 2) (ad 3) f0 c0))) (cwV (rm := gv_R 2 47) 3 hts gX1_neighboursOf_X0_neighboursAt rfl rfl rfl (by decide +kernel) ⟨Nat.le_of_ble_eq_true rfl, Nat.le_of_ble_eq_true rfl⟩) (gv_preV (ci := 0) hK hPc hDc hN rfl rfl) rfl rfl hl.1 rfl (lv_room (Nat.le_of_ble_eq_true rfl)) dX1_neighboursOf_15 ⟨Nat.zero_le _, Nat.zero_le _⟩) (fun q15 u H locs hw hP hD hS => ?_)
  have he := gv_q hw he
  have hP : va_P (dC, dI) vwCl (gv_V cI cL ad f0 c0 f1 c1 f2 c2 lo up be si pl cu ge fa) H := hP
  have hD : va_D A (gv_V cI cL ad f0 c0 f1 c1 f2 c2 lo up be si pl cu ge fa) := hD
  exact kr q15 () _ _ _ _ he hP hS dX1_neighboursOf_18
def spX1_leavesIn (f0 : Nat → Int32) (c0 : Nat → Int32) (f1 : Nat → Int32) (c1 : Nat → Int32) (f2 : Nat → Int32) (c2 : Nat → Int32) (lo : Nat → Int64) (up : Nat → Int64) (be : Nat → Int32) (si : Int32) (pl : Int32) (cu : Int32) (ge : Int32) (fa : Int32) (w1 : Nat) : Int32 := gv_b (spX0_countInColumn f0 c0 (nI w1)) (fun q9 => q9)
theorem spX1_leavesIn_e (f0 : Nat → Int32) (c0 : Nat → Int32) (f1 : Nat → Int32) (c1 : Nat → Int32) (f2 : Nat → Int32) (c2 : Nat → Int32) (lo : Nat → Int64) (up : Nat → Int64) (be : Nat → Int32) (si : Int32) (pl : Int32) (cu : Int32) (ge : Int32) (fa : Int32) (w1 : Nat) : spX1_leavesIn f0 c0 f1 c1 f2 c2 lo up be si pl cu ge fa w1 = gv_b (spX0_countInColumn f0 c0 (nI w1)) (fun q9 => q9) := rfl
set_option maxHeartbeats 4000000 in
set_option maxRecDepth 100000 in
theorem kX1_leavesIn (l : Launch) (dC : Nat → ClassId) (dI : Nat → Nat → Nat) (cI cL : ClassId) (ad : Nat → Nat) (f0 : Nat → Int32) (c0 : Nat → Int32) (f1 : Nat → Int32) (c1 : Nat → Int32) (f2 : Nat → Int32) (c2 : Nat → Int32) (lo : Nat → Int64) (up : Nat → Int64) (be : Nat → Int32) (si : Int32) (pl : Int32) (cu : Int32) (ge : Int32) (fa : Int32) (p1 : Int32) (w1 : Nat) (hw1 : p1 = nI w1) (hy0 : w1 < 12) : gv_Mi l yX1_leavesIn wsX1_leavesIn 3 66 (dC, dI) [(cI, .int), (cL, .long)] [.ref (ad 0), .int p1] (gv_V cI cL ad f0 c0 f1 c1 f2 c2 lo up be si pl cu ge fa) (fun (r : Int32) (_ : Unit) => r = spX1_leavesIn f0 c0 f1 c1 f2 c2 lo up be si pl cu ge fa w1) (fun (_ : Unit) => (gv_V cI cL ad f0 c0 f1 c1 f2 c2 lo up be si pl cu ge fa)) := by
  subst hw1
  refine gv_ofi (cc := cX1_leavesIn) (maxL := 2) (own := RX1) (by decide) rfl (Nat.le_of_ble_eq_true rfl) rfl ?_
  intro A p e s m args below meth c Q ls H locs hx hb hml hts hown hP hK hD hN hS hl kr
  have inX0 : ∀ w ∈ wsX00, w ∈ wsX1_leavesIn := (fun _ h => List.mem_cons_of_mem _ (List.mem_append_left _ (List.mem_append_right _ h)))
  have inX1 : ∀ w ∈ wsX10, w ∈ wsX1_leavesIn := (fun _ h => List.mem_cons_of_mem _ (List.mem_append_left _ (List.mem_append_left _ (List.mem_append_right _ h))))
  have hl : lv_has ls 2 [(0, .ref (ad 0)), (1, .int (nI w1))] := hl
  have he := (spX1_leavesIn_e f0 c0 f1 c1 f2 c2 lo up be si pl cu ge fa w1).symm
  refine lv_iload_n hx hb dX1_leavesIn_0 rfl (lv_at hl 1 rfl) ?_
  have hPc : va_P (dC, dI) vwCl ([] : va_W) H := gv_P0
  have hDc : va_D (gv_in ([] : va_W)) ([] : va_W) := gv_D0
  refine gv_kv (wf := (fun (_ : Unit) => ([] : va_W))) (wc := ([] : va_W)) [] (fun _ => rfl) hP hD hS rfl rfl (va_runS (As := [.int (nI w1)]) (rest := []) ⟨hx, hb, hml, hown, hts⟩ (kX1_requireColumn l dC dI cI cL (nI w1) w1 rfl (by omega) (gv_in ([] : va_W))) (va_cwS (rm := gv_R 0 0) 1 hts gX1_leavesIn_X1_requireColumn rfl rfl rfl (by decide +kernel) ⟨Nat.le_of_ble_eq_true rfl, Nat.le_of_ble_eq_true rfl⟩) (gv_preS hK hPc hDc hN) rfl rfl hl.1 rfl (lv_room (Nat.le_of_ble_eq_true rfl)) dX1_leavesIn_1 ⟨Nat.zero_le _, Nat.zero_le _⟩) (fun u H locs hw hP hD hS => ?_)
  have hP : va_P (dC, dI) vwCl (gv_V cI cL ad f0 c0 f1 c1 f2 c2 lo up be si pl cu ge fa) H := hP
  have hD : va_D A (gv_V cI cL ad f0 c0 f1 c1 f2 c2 lo up be si pl cu ge fa) := hD
  refine lv_aload_n hx hb dX1_leavesIn_4 rfl (lv_at hl 0 rfl) ?_
  refine va_get (D := (dC, dI)) (ci := 1) (v := .ref (ad 1)) (C := RX1) (T := TX1) (N := 11) hx hb hts inX1 hown hK hP 0 rfl rfl 0 (by decide) (hts (.fieldLink RX1 10 "VineWall" "wall" "LVineWall$Wall;") (List.mem_of_getElem? (i := 1) rfl)) (fun _ h9 => h9) rfl dX1_leavesIn_5 ?_
  refine lv_iload_n hx hb dX1_leavesIn_8 rfl (lv_at hl 1 rfl) ?_
  have hPc : va_P (dC, dI) vwCl (gv_W cI (ad 1) (ad 2) (ad 3) f0 c0) H := gv_sub [1, 2, 3] hP rfl
  have hDc : va_D (gv_in (gv_W cI (ad 1) (ad 2) (ad 3) f0 c0)) (gv_W cI (ad 1) (ad 2) (ad 3) f0 c0) := gv_D hD [1, 2, 3] (by decide) rfl
  refine gv_ki (wf := (fun (_ : Unit) => (gv_W cI (ad 1) (ad 2) (ad 3) f0 c0))) (wc := (gv_W cI (ad 1) (ad 2) (ad 3) f0 c0)) [1, 2, 3] (fun _ => rfl) hP hD hS rfl rfl (va_runV (As := [.int (nI w1)]) (rest := []) ⟨hx, hb, hml, hown, hts⟩ (kX0_countInColumn l dC dI cI cL (ad 1) (ad 2) (ad 3) f0 c0 (nI w1) (gv_in (gv_W cI (ad 1) (ad 2) (ad 3) f0 c0))) (cwV (rm := gv_R 2 45) 1 hts gX1_leavesIn_X0_countInColumn rfl rfl rfl (by decide +kernel) ⟨Nat.le_of_ble_eq_true rfl, Nat.le_of_ble_eq_true rfl⟩) (gv_preV (ci := 0) hK hPc hDc hN rfl rfl) rfl rfl hl.1 rfl (lv_room (Nat.le_of_ble_eq_true rfl)) dX1_leavesIn_9 ⟨Nat.zero_le _, Nat.zero_le _⟩) (fun q9 u H locs hw hP hD hS => ?_)
  have he := gv_q hw he
  have hP : va_P (dC, dI) vwCl (gv_V cI cL ad f0 c0 f1 c1 f2 c2 lo up be si pl cu ge fa) H := hP
  have hD : va_D A (gv_V cI cL ad f0 c0 f1 c1 f2 c2 lo up be si pl cu ge fa) := hD
  exact kr q9 () _ _ _ _ he hP hS dX1_leavesIn_12
