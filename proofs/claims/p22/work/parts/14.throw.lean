theorem gx_b53 : ∀ w ∈ (vx_atS RX1 53 gE_A gE_n).filter (fun w => !goodWord w), w ∈ gx_ws := by decide +kernel
theorem gx_b60 : ∀ w ∈ (vx_atS RX1 60 gE_S gE_n).filter (fun w => !goodWord w), w ∈ gx_ws := by decide +kernel
theorem gx_b154 : ∀ w ∈ (vx_atS RX1 154 gE_I gE_n).filter (fun w => !goodWord w), w ∈ gx_ws := by decide +kernel
theorem gx_o53 : ∀ w ∈ Cond.classLink RX1 49 gE_A :: Cond.initialized gE_A :: vx_atS RX1 53 gE_A gE_n, vx_ot w = true := by decide +kernel
theorem gx_o60 : ∀ w ∈ Cond.classLink RX1 56 gE_S :: Cond.initialized gE_S :: vx_atS RX1 60 gE_S gE_n, vx_ot w = true := by decide +kernel
theorem gx_o154 : ∀ w ∈ Cond.classLink RX1 150 gE_I :: Cond.initialized gE_I :: vx_atS RX1 154 gE_I gE_n, vx_ot w = true := by decide +kernel

def spX1_cut (f0 : Nat → Int32) (c0 : Nat → Int32) (f1 : Nat → Int32) (c1 : Nat → Int32) (f2 : Nat → Int32) (c2 : Nat → Int32) (lo : Nat → Int64) (up : Nat → Int64) (be : Nat → Int32) (si : Int32) (pl : Int32) (cu : Int32) (ge : Int32) (fa : Int32) (w1 : Nat) (w2 : Nat) : String ⊕ (Int32 × (Nat → Int32) × (Nat → Int32) × (Int32)) := gv_b (spX0_hasLeafAt f0 c0 (nI w1) (nI w2)) (fun q11 => (if q11 = 0 then .inl gE_S else gv_b (spX1_cutsLeft f0 c0 f1 c1 f2 c2 lo up be si pl cu ge fa) (fun q28 => (if q28 = 0 then .inl gE_S else gv_b2 (spX0_cutLeaf f0 c0 (nI w1) (nI w2)) (fun f_q50 h_q50 => gv_b (spX1_cutsLeft f_q50 h_q50 f1 c1 f2 c2 lo up be si pl (cu + 1) ge fa) (fun q64 => .inr (q64, f_q50, h_q50, cu + 1)))))))
theorem spX1_cut_e (f0 : Nat → Int32) (c0 : Nat → Int32) (f1 : Nat → Int32) (c1 : Nat → Int32) (f2 : Nat → Int32) (c2 : Nat → Int32) (lo : Nat → Int64) (up : Nat → Int64) (be : Nat → Int32) (si : Int32) (pl : Int32) (cu : Int32) (ge : Int32) (fa : Int32) (w1 : Nat) (w2 : Nat) : spX1_cut f0 c0 f1 c1 f2 c2 lo up be si pl cu ge fa w1 w2 = gv_b (spX0_hasLeafAt f0 c0 (nI w1) (nI w2)) (fun q11 => (if q11 = 0 then .inl gE_S else gv_b (spX1_cutsLeft f0 c0 f1 c1 f2 c2 lo up be si pl cu ge fa) (fun q28 => (if q28 = 0 then .inl gE_S else gv_b2 (spX0_cutLeaf f0 c0 (nI w1) (nI w2)) (fun f_q50 h_q50 => gv_b (spX1_cutsLeft f_q50 h_q50 f1 c1 f2 c2 lo up be si pl (cu + 1) ge fa) (fun q64 => .inr (q64, f_q50, h_q50, cu + 1))))))) := rfl
set_option maxHeartbeats 4000000 in
set_option maxRecDepth 100000 in
theorem kX1_cut (l : Launch) (hst : l.stackTraces = false) (dC : Nat → ClassId) (dI : Nat → Nat → Nat) (cI cL : ClassId) (ad : Nat → Nat) (f0 : Nat → Int32) (c0 : Nat → Int32) (f1 : Nat → Int32) (c1 : Nat → Int32) (f2 : Nat → Int32) (c2 : Nat → Int32) (lo : Nat → Int64) (up : Nat → Int64) (be : Nat → Int32) (si : Int32) (pl : Int32) (cu : Int32) (ge : Int32) (fa : Int32) (p1 : Int32) (w1 : Nat) (hw1 : p1 = nI w1) (p2 : Int32) (w2 : Nat) (hw2 : p2 = nI w2) (hy0 : w1 < 8) (hy1 : w2 < 12) : gx_Mi l yX1_cut wsX1_cut 6 1 82 (dC, dI) [(cI, .int), (cL, .long)] [.ref (ad 0), .int p1, .int p2] (gv_V cI cL ad f0 c0 f1 c1 f2 c2 lo up be si pl cu ge fa) (fun (r : Int32) (u : (Nat → Int32) × (Nat → Int32) × (Int32)) => .inr (r, u) = spX1_cut f0 c0 f1 c1 f2 c2 lo up be si pl cu ge fa w1 w2) (fun (u : (Nat → Int32) × (Nat → Int32) × (Int32)) => (gv_V cI cL ad u.1 u.2.1 f1 c1 f2 c2 lo up be si pl u.2.2 ge fa)) (fun E => .inl E = spX1_cut f0 c0 f1 c1 f2 c2 lo up be si pl cu ge fa w1 w2 ∧ E ∈ [gE_S]) := by
  subst hw1
  subst hw2
  refine gx_ofi (cc := cX1_cut) (maxL := 3) hst (Nat.le_of_ble_eq_true rfl) (Nat.le_of_ble_eq_true rfl) (by decide) rfl (Nat.le_of_ble_eq_true rfl) rfl ?_
  intro A p e s m args below meth c Q ls H locs hx hb hml hts hown hP hK hD hN hX hS hl kr kt ko
  have inX0 : ∀ w ∈ wsX00, w ∈ wsX1_cut := (fun _ h => List.mem_cons_of_mem _ (List.mem_append_left _ (List.mem_append_left _ (List.mem_append_right _ h))))
  have inX1 : ∀ w ∈ wsX10, w ∈ wsX1_cut := (fun _ h => List.mem_cons_of_mem _ (List.mem_append_left _ (List.mem_append_left _ (List.mem_append_left _ (List.mem_append_right _ h)))))
  have hl : lv_has ls 3 [(0, .ref (ad 0)), (1, .int (nI w1)), (2, .int (nI w2))] := hl
  have he := (spX1_cut_e f0 c0 f1 c1 f2 c2 lo up be si pl cu ge fa w1 w2).symm
  refine lv_iload_n hx hb dX1_cut_0 rfl (lv_at hl 1 rfl) ?_
  refine lv_iload_n hx hb dX1_cut_1 rfl (lv_at hl 2 rfl) ?_
  have hPc : va_P (dC, dI) vwCl ([] : va_W) H := gv_P0
  have hDc : va_D (gv_in ([] : va_W)) ([] : va_W) := gv_D0
  refine gv_kv (wf := (fun (_ : Unit) => ([] : va_W))) (wc := ([] : va_W)) [] (fun _ => rfl) hP hD hS rfl rfl (va_runS (As := [.int (nI w1), .int (nI w2)]) (rest := []) ⟨hx, hb, hml, hown, hts⟩ (kX1_requireCell l dC dI cI cL (nI w1) w1 rfl (nI w2) w2 rfl (by omega) (by omega) (gv_in ([] : va_W))) (va_cwS (rm := gv_R 1 21) 2 hts gX1_cut_X1_requireCell rfl rfl rfl (by decide +kernel) ⟨Nat.le_of_ble_eq_true rfl, Nat.le_of_ble_eq_true rfl⟩) (gv_preS hK hPc hDc hN) rfl rfl hl.1 rfl (lv_room (Nat.le_of_ble_eq_true rfl)) dX1_cut_2 ⟨Nat.le_of_ble_eq_true rfl, Nat.le_of_ble_eq_true rfl⟩) (fun u H locs hw hP hD hS => ?_)
  have hP : va_P (dC, dI) vwCl (gv_V cI cL ad f0 c0 f1 c1 f2 c2 lo up be si pl cu ge fa) H := hP
  have hD : va_D A (gv_V cI cL ad f0 c0 f1 c1 f2 c2 lo up be si pl cu ge fa) := hD
  refine lv_aload_n hx hb dX1_cut_5 rfl (lv_at hl 0 rfl) ?_
  refine va_get (D := (dC, dI)) (ci := 1) (v := .ref (ad 1)) (C := RX1) (T := TX1) (N := 11) hx hb hts inX1 hown hK hP 0 rfl rfl 0 (by decide) (hts (.fieldLink RX1 10 "VineWall" "wall" "LVineWall$Wall;") (List.mem_of_getElem? (i := 3) rfl)) (fun _ h9 => h9) rfl dX1_cut_6 ?_
  refine lv_iload_n hx hb dX1_cut_9 rfl (lv_at hl 1 rfl) ?_
  refine lv_iload_n hx hb dX1_cut_10 rfl (lv_at hl 2 rfl) ?_
  have hPc : va_P (dC, dI) vwCl (gv_W cI (ad 1) (ad 2) (ad 3) f0 c0) H := gv_sub [1, 2, 3] hP rfl
  have hDc : va_D (gv_in (gv_W cI (ad 1) (ad 2) (ad 3) f0 c0)) (gv_W cI (ad 1) (ad 2) (ad 3) f0 c0) := gv_D hD [1, 2, 3] (by decide) rfl
  refine gv_ki (wf := (fun (_ : Unit) => (gv_W cI (ad 1) (ad 2) (ad 3) f0 c0))) (wc := (gv_W cI (ad 1) (ad 2) (ad 3) f0 c0)) [1, 2, 3] (fun _ => rfl) hP hD hS rfl rfl (va_runV (As := [.int (nI w1), .int (nI w2)]) (rest := []) ⟨hx, hb, hml, hown, hts⟩ (kX0_hasLeafAt l dC dI cI cL (ad 1) (ad 2) (ad 3) f0 c0 (nI w1) (nI w2) (gv_in (gv_W cI (ad 1) (ad 2) (ad 3) f0 c0))) (cwV (rm := gv_R 1 21) 2 hts gX1_cut_X0_hasLeafAt rfl rfl rfl (by decide +kernel) ⟨Nat.le_of_ble_eq_true rfl, Nat.le_of_ble_eq_true rfl⟩) (gv_preV (ci := 0) hK hPc hDc hN rfl rfl) rfl rfl hl.1 rfl (lv_room (Nat.le_of_ble_eq_true rfl)) dX1_cut_11 ⟨Nat.le_of_ble_eq_true rfl, Nat.le_of_ble_eq_true rfl⟩) (fun q11 u H locs hw hP hD hS => ?_)
  have he := gv_q hw he
  have hP : va_P (dC, dI) vwCl (gv_V cI cL ad f0 c0 f1 c1 f2 c2 lo up be si pl cu ge fa) H := hP
  have hD : va_D A (gv_V cI cL ad f0 c0 f1 c1 f2 c2 lo up be si pl cu ge fa) := hD
  refine lv_if_ne (tgt := 27) hx hb dX1_cut_14 (by decide) (fun cd14 => ?_) (fun cd14 => ?_)
  · have he := gv_f cd14 he
    refine lv_aload_n hx hb dX1_cut_27 rfl (lv_at hl 0 rfl) ?_
    have hPc : va_P (dC, dI) vwCl (gv_V cI cL ad f0 c0 f1 c1 f2 c2 lo up be si pl cu ge fa) H := gv_sub [0, 1, 2, 3, 4, 5, 6, 7, 8, 9, 10, 11, 12] hP rfl
    have hDc : va_D (gv_in (gv_V cI cL ad f0 c0 f1 c1 f2 c2 lo up be si pl cu ge fa)) (gv_V cI cL ad f0 c0 f1 c1 f2 c2 lo up be si pl cu ge fa) := gv_D hD [0, 1, 2, 3, 4, 5, 6, 7, 8, 9, 10, 11, 12] (by decide) rfl
    refine gv_ki (wf := (fun (_ : Unit) => (gv_V cI cL ad f0 c0 f1 c1 f2 c2 lo up be si pl cu ge fa))) (wc := (gv_V cI cL ad f0 c0 f1 c1 f2 c2 lo up be si pl cu ge fa)) [0, 1, 2, 3, 4, 5, 6, 7, 8, 9, 10, 11, 12] (fun _ => rfl) hP hD hS rfl rfl (va_runV (As := []) (rest := []) ⟨hx, hb, hml, hown, hts⟩ (kX1_cutsLeft l dC dI cI cL ad f0 c0 f1 c1 f2 c2 lo up be si pl cu ge fa (gv_in (gv_V cI cL ad f0 c0 f1 c1 f2 c2 lo up be si pl cu ge fa))) (cwV (rm := gv_R 0 0) 0 hts gX1_cut_X1_cutsLeft rfl rfl rfl (by decide +kernel) ⟨Nat.le_of_ble_eq_true rfl, Nat.le_of_ble_eq_true rfl⟩) (gv_preV (ci := 1) hK hPc hDc hN rfl rfl) rfl rfl hl.1 rfl (lv_room (Nat.le_of_ble_eq_true rfl)) dX1_cut_28 ⟨Nat.le_of_ble_eq_true rfl, Nat.le_of_ble_eq_true rfl⟩) (fun q28 u H locs hw hP hD hS => ?_)
    have he := gv_q hw he
    have hP : va_P (dC, dI) vwCl (gv_V cI cL ad f0 c0 f1 c1 f2 c2 lo up be si pl cu ge fa) H := hP
    have hD : va_D A (gv_V cI cL ad f0 c0 f1 c1 f2 c2 lo up be si pl cu ge fa) := hD
    refine lv_if_ne (tgt := 44) hx hb dX1_cut_31 (by decide) (fun cd31 => ?_) (fun cd31 => ?_)
    · have he := gv_f cd31 he
      refine lv_aload_n hx hb dX1_cut_44 rfl (lv_at hl 0 rfl) ?_
      refine va_get (D := (dC, dI)) (ci := 1) (v := .ref (ad 1)) (C := RX1) (T := TX1) (N := 11) hx hb hts inX1 hown hK hP 0 rfl rfl 0 (by decide) (hts (.fieldLink RX1 10 "VineWall" "wall" "LVineWall$Wall;") (List.mem_of_getElem? (i := 3) rfl)) (fun _ h9 => h9) rfl dX1_cut_45 ?_
      refine lv_iload_n hx hb dX1_cut_48 rfl (lv_at hl 1 rfl) ?_
      refine lv_iload_n hx hb dX1_cut_49 rfl (lv_at hl 2 rfl) ?_
      have hPc : va_P (dC, dI) vwCl (gv_W cI (ad 1) (ad 2) (ad 3) f0 c0) H := gv_sub [1, 2, 3] hP rfl
      have hDc : va_D (gv_in (gv_W cI (ad 1) (ad 2) (ad 3) f0 c0)) (gv_W cI (ad 1) (ad 2) (ad 3) f0 c0) := gv_D hD [1, 2, 3] (by decide) rfl
      refine gv_kv (wf := (fun (u : (Nat → Int32) × (Nat → Int32)) => (gv_W cI (ad 1) (ad 2) (ad 3) u.1 u.2))) (wc := (gv_W cI (ad 1) (ad 2) (ad 3) f0 c0)) [1, 2, 3] (fun _ => rfl) hP hD hS rfl rfl (va_runV (As := [.int (nI w1), .int (nI w2)]) (rest := []) ⟨hx, hb, hml, hown, hts⟩ (kX0_cutLeaf l dC dI cI cL (ad 1) (ad 2) (ad 3) f0 c0 (nI w1) (nI w2) (gv_in (gv_W cI (ad 1) (ad 2) (ad 3) f0 c0))) (cwV (rm := gv_R 2 43) 2 hts gX1_cut_X0_cutLeaf rfl rfl rfl (by decide +kernel) ⟨Nat.le_of_ble_eq_true rfl, Nat.le_of_ble_eq_true rfl⟩) (gv_preV (ci := 0) hK hPc hDc hN rfl rfl) rfl rfl hl.1 rfl (lv_room (Nat.le_of_ble_eq_true rfl)) dX1_cut_50 ⟨Nat.le_of_ble_eq_true rfl, Nat.le_of_ble_eq_true rfl⟩) (fun u H locs hw hP hD hS => ?_)
      obtain ⟨f_q50, h_q50⟩ := u
      have he := gv_q2 hw he
      have hP : va_P (dC, dI) vwCl (gv_V cI cL ad f_q50 h_q50 f1 c1 f2 c2 lo up be si pl cu ge fa) H := hP
      have hD : va_D A (gv_V cI cL ad f_q50 h_q50 f1 c1 f2 c2 lo up be si pl cu ge fa) := hD
      refine lv_aload_n hx hb dX1_cut_53 rfl (lv_at hl 0 rfl) ?_
      refine lv_dup hx hb dX1_cut_54 rfl ?_
      refine va_get (D := (dC, dI)) (ci := 1) (v := .int cu) (C := RX1) (T := TX1) (N := 11) hx hb hts inX1 hown hK hP 0 rfl rfl 8 (by decide) (hts (.fieldLink RX1 40 "VineWall" "cutsDone" "I") (List.mem_of_getElem? (i := 4) rfl)) (fun _ h9 => h9) rfl dX1_cut_55 ?_
      refine lv_iconst (v := 1) hx hb dX1_cut_58 (by decide) ?_
      refine lv_iadd hx hb dX1_cut_59 ?_
      refine va_put (D := (dC, dI)) (ci := 1) (v := .int (cu + 1)) (ty := .int) (C := RX1) (T := TX1) (N := 11) hx hb hts inX1 tyX1 tyX1_ok nmX1 hown hK hP hD hS 0 rfl rfl 8 (by decide) (hts (.fieldLink RX1 40 "VineWall" "cutsDone" "I") (List.mem_of_getElem? (i := 4) rfl)) (fun _ h9 => h9) rfl (by decide +kernel) rfl rfl (Nat.le_of_ble_eq_true rfl) dX1_cut_60 (fun H locs hP hD hS => ?_)
      have hP : va_P (dC, dI) vwCl (gv_V cI cL ad f_q50 h_q50 f1 c1 f2 c2 lo up be si pl (cu + 1) ge fa) H := hP
      have hD : va_D A (gv_V cI cL ad f_q50 h_q50 f1 c1 f2 c2 lo up be si pl (cu + 1) ge fa) := hD
      refine lv_aload_n hx hb dX1_cut_63 rfl (lv_at hl 0 rfl) ?_
      have hPc : va_P (dC, dI) vwCl (gv_V cI cL ad f_q50 h_q50 f1 c1 f2 c2 lo up be si pl (cu + 1) ge fa) H := gv_sub [0, 1, 2, 3, 4, 5, 6, 7, 8, 9, 10, 11, 12] hP rfl
      have hDc : va_D (gv_in (gv_V cI cL ad f_q50 h_q50 f1 c1 f2 c2 lo up be si pl (cu + 1) ge fa)) (gv_V cI cL ad f_q50 h_q50 f1 c1 f2 c2 lo up be si pl (cu + 1) ge fa) := gv_D hD [0, 1, 2, 3, 4, 5, 6, 7, 8, 9, 10, 11, 12] (by decide) rfl
      refine gv_ki (wf := (fun (_ : Unit) => (gv_V cI cL ad f_q50 h_q50 f1 c1 f2 c2 lo up be si pl (cu + 1) ge fa))) (wc := (gv_V cI cL ad f_q50 h_q50 f1 c1 f2 c2 lo up be si pl (cu + 1) ge fa)) [0, 1, 2, 3, 4, 5, 6, 7, 8, 9, 10, 11, 12] (fun _ => rfl) hP hD hS rfl rfl (va_runV (As := []) (rest := []) ⟨hx, hb, hml, hown, hts⟩ (kX1_cutsLeft l dC dI cI cL ad f_q50 h_q50 f1 c1 f2 c2 lo up be si pl (cu + 1) ge fa (gv_in (gv_V cI cL ad f_q50 h_q50 f1 c1 f2 c2 lo up be si pl (cu + 1) ge fa))) (cwV (rm := gv_R 0 0) 0 hts gX1_cut_X1_cutsLeft rfl rfl rfl (by decide +kernel) ⟨Nat.le_of_ble_eq_true rfl, Nat.le_of_ble_eq_true rfl⟩) (gv_preV (ci := 1) hK hPc hDc hN rfl rfl) rfl rfl hl.1 rfl (lv_room (Nat.le_of_ble_eq_true rfl)) dX1_cut_64 ⟨Nat.le_of_ble_eq_true rfl, Nat.le_of_ble_eq_true rfl⟩) (fun q64 u H locs hw hP hD hS => ?_)
      have he := gv_q hw he
      have hP : va_P (dC, dI) vwCl (gv_V cI cL ad f_q50 h_q50 f1 c1 f2 c2 lo up be si pl (cu + 1) ge fa) H := hP
      have hD : va_D A (gv_V cI cL ad f_q50 h_q50 f1 c1 f2 c2 lo up be si pl (cu + 1) ge fa) := hD
      exact kr q64 (f_q50, h_q50, cu + 1) _ _ _ _ _ _ (Nat.le_of_ble_eq_true rfl) (Nat.le_of_ble_eq_true rfl) he hP hS dX1_cut_67
    · have he := gv_t cd31 he
      exact kt gE_S 56 91 60 "no cut is left" _ _ _ _ _ _ ⟨he, List.mem_cons_self⟩ hP hS (hl.1.trans hml.symm) (Nat.le_of_ble_eq_true rfl) (Nat.le_of_ble_eq_true rfl) (by decide) (hts (.classLink RX1 56 "java/lang/IllegalStateException") (List.mem_of_getElem? (i := 1) rfl)) (hts (.initialized "java/lang/IllegalStateException") (List.mem_of_getElem? (i := 2) rfl)) (by decide) (fun w h => hts w (List.mem_cons_of_mem _ (List.mem_append_left _ (List.mem_append_right _ h)))) gx_b60 gx_o60 dX1_cut_34 dX1_cut_37 dX1_cut_38 dX1_cut_40 dX1_cut_43
  · have he := gv_t cd14 he
    exact kt gE_S 56 85 60 "there is no leaf" _ _ _ _ _ _ ⟨he, List.mem_cons_self⟩ hP hS (hl.1.trans hml.symm) (Nat.le_of_ble_eq_true rfl) (Nat.le_of_ble_eq_true rfl) (by decide) (hts (.classLink RX1 56 "java/lang/IllegalStateException") (List.mem_of_getElem? (i := 1) rfl)) (hts (.initialized "java/lang/IllegalStateException") (List.mem_of_getElem? (i := 2) rfl)) (by decide) (fun w h => hts w (List.mem_cons_of_mem _ (List.mem_append_left _ (List.mem_append_right _ h)))) gx_b60 gx_o60 dX1_cut_17 dX1_cut_20 dX1_cut_21 dX1_cut_23 dX1_cut_26
def spX1_grow (f0 : Nat → Int32) (c0 : Nat → Int32) (f1 : Nat → Int32) (c1 : Nat → Int32) (f2 : Nat → Int32) (c2 : Nat → Int32) (lo : Nat → Int64) (up : Nat → Int64) (be : Nat → Int32) (si : Int32) (pl : Int32) (cu : Int32) (ge : Int32) (fa : Int32) : String ⊕ (Int32 × (Nat → Int32) × (Nat → Int32) × (Nat → Int32) × (Nat → Int32) × (Int32) × (Int32) × (Int32)) := (if ge < 60 then gv_b (spX1_leaves f0 c0 f1 c1 f2 c2 lo up be si pl cu ge fa) (fun q20 => gv_b3 (spX0_becomeNextOf f2 c2 f0 c0 be si) (fun q45 f_q45 h_q45 => gv_b2 (spX0_copyFrom f0 c0 f_q45 h_q45) (fun f_q60 h_q60 => gv_b (spX1_leaves f_q60 h_q60 f1 c1 f_q45 h_q45 lo up be si pl 0 (ge + 1) (fa + q45)) (fun q79 => .inr (q79 - q20, f_q60, h_q60, f_q45, h_q45, 0, ge + 1, fa + q45))))) else .inl gE_S)
theorem spX1_grow_e (f0 : Nat → Int32) (c0 : Nat → Int32) (f1 : Nat → Int32) (c1 : Nat → Int32) (f2 : Nat → Int32) (c2 : Nat → Int32) (lo : Nat → Int64) (up : Nat → Int64) (be : Nat → Int32) (si : Int32) (pl : Int32) (cu : Int32) (ge : Int32) (fa : Int32) : spX1_grow f0 c0 f1 c1 f2 c2 lo up be si pl cu ge fa = (if ge < 60 then gv_b (spX1_leaves f0 c0 f1 c1 f2 c2 lo up be si pl cu ge fa) (fun q20 => gv_b3 (spX0_becomeNextOf f2 c2 f0 c0 be si) (fun q45 f_q45 h_q45 => gv_b2 (spX0_copyFrom f0 c0 f_q45 h_q45) (fun f_q60 h_q60 => gv_b (spX1_leaves f_q60 h_q60 f1 c1 f_q45 h_q45 lo up be si pl 0 (ge + 1) (fa + q45)) (fun q79 => .inr (q79 - q20, f_q60, h_q60, f_q45, h_q45, 0, ge + 1, fa + q45))))) else .inl gE_S) := rfl
set_option maxHeartbeats 4000000 in
set_option maxRecDepth 100000 in
theorem kX1_grow (l : Launch) (hst : l.stackTraces = false) (dC : Nat → ClassId) (dI : Nat → Nat → Nat) (cI cL : ClassId) (ad : Nat → Nat) (f0 : Nat → Int32) (c0 : Nat → Int32) (f1 : Nat → Int32) (c1 : Nat → Int32) (f2 : Nat → Int32) (c2 : Nat → Int32) (lo : Nat → Int64) (up : Nat → Int64) (be : Nat → Int32) (si : Int32) (pl : Int32) (cu : Int32) (ge : Int32) (fa : Int32) : gx_Mi l yX1_grow wsX1_grow 6 1 124 (dC, dI) [(cI, .int), (cL, .long)] [.ref (ad 0)] (gv_V cI cL ad f0 c0 f1 c1 f2 c2 lo up be si pl cu ge fa) (fun (r : Int32) (u : (Nat → Int32) × (Nat → Int32) × (Nat → Int32) × (Nat → Int32) × (Int32) × (Int32) × (Int32)) => .inr (r, u) = spX1_grow f0 c0 f1 c1 f2 c2 lo up be si pl cu ge fa) (fun (u : (Nat → Int32) × (Nat → Int32) × (Nat → Int32) × (Nat → Int32) × (Int32) × (Int32) × (Int32)) => (gv_V cI cL ad u.1 u.2.1 f1 c1 u.2.2.1 u.2.2.2.1 lo up be si pl u.2.2.2.2.1 u.2.2.2.2.2.1 u.2.2.2.2.2.2)) (fun E => .inl E = spX1_grow f0 c0 f1 c1 f2 c2 lo up be si pl cu ge fa ∧ E ∈ [gE_S]) := by
  refine gx_ofi (cc := cX1_grow) (maxL := 2) hst (Nat.le_of_ble_eq_true rfl) (Nat.le_of_ble_eq_true rfl) (by decide) rfl (Nat.le_of_ble_eq_true rfl) rfl ?_
  intro A p e s m args below meth c Q ls H locs hx hb hml hts hown hP hK hD hN hX hS hl kr kt ko
  have inX0 : ∀ w ∈ wsX00, w ∈ wsX1_grow := (fun _ h => List.mem_cons_of_mem _ (List.mem_append_left _ (List.mem_append_right _ h)))
  have inX1 : ∀ w ∈ wsX10, w ∈ wsX1_grow := (fun _ h => List.mem_cons_of_mem _ (List.mem_append_left _ (List.mem_append_left _ (List.mem_append_right _ h))))
  have hl : lv_has ls 2 [(0, .ref (ad 0))] := hl
  have he := (spX1_grow_e f0 c0 f1 c1 f2 c2 lo up be si pl cu ge fa).symm
  refine lv_aload_n hx hb dX1_grow_0 rfl (lv_at hl 0 rfl) ?_
  refine va_get (D := (dC, dI)) (ci := 1) (v := .int ge) (C := RX1) (T := TX1) (N := 11) hx hb hts inX1 hown hK hP 0 rfl rfl 9 (by decide) (hts (.fieldLink RX1 43 "VineWall" "generationsGone" "I") (List.mem_of_getElem? (i := 3) rfl)) (fun _ h9 => h9) rfl dX1_grow_1 ?_
  refine lv_bipush (v := 60) hx hb dX1_grow_4 (by decide) ?_
  refine lv_icmp_lt (tgt := 19) hx hb dX1_grow_6 (by decide) (fun cd6 => ?_) (fun cd6 => ?_)
  · have he := gv_t cd6 he
    refine lv_aload_n hx hb dX1_grow_19 rfl (lv_at hl 0 rfl) ?_
    have hPc : va_P (dC, dI) vwCl (gv_V cI cL ad f0 c0 f1 c1 f2 c2 lo up be si pl cu ge fa) H := gv_sub [0, 1, 2, 3, 4, 5, 6, 7, 8, 9, 10, 11, 12] hP rfl
    have hDc : va_D (gv_in (gv_V cI cL ad f0 c0 f1 c1 f2 c2 lo up be si pl cu ge fa)) (gv_V cI cL ad f0 c0 f1 c1 f2 c2 lo up be si pl cu ge fa) := gv_D hD [0, 1, 2, 3, 4, 5, 6, 7, 8, 9, 10, 11, 12] (by decide) rfl
    refine gv_ki (wf := (fun (_ : Unit) => (gv_V cI cL ad f0 c0 f1 c1 f2 c2 lo up be si pl cu ge fa))) (wc := (gv_V cI cL ad f0 c0 f1 c1 f2 c2 lo up be si pl cu ge fa)) [0, 1, 2, 3, 4, 5, 6, 7, 8, 9, 10, 11, 12] (fun _ => rfl) hP hD hS rfl rfl (va_runV (As := []) (rest := []) ⟨hx, hb, hml, hown, hts⟩ (kX1_leaves l dC dI cI cL ad f0 c0 f1 c1 f2 c2 lo up be si pl cu ge fa (gv_in (gv_V cI cL ad f0 c0 f1 c1 f2 c2 lo up be si pl cu ge fa))) (cwV (rm := gv_R 2 42) 0 hts gX1_grow_X1_leaves rfl rfl rfl (by decide +kernel) ⟨Nat.le_of_ble_eq_true rfl, Nat.le_of_ble_eq_true rfl⟩) (gv_preV (ci := 1) hK hPc hDc hN rfl rfl) rfl rfl hl.1 rfl (lv_room (Nat.le_of_ble_eq_true rfl)) dX1_grow_20 ⟨Nat.le_of_ble_eq_true rfl, Nat.le_of_ble_eq_true rfl⟩) (fun q20 u H locs hw hP hD hS => ?_)
    have he := gv_q hw he
    have hP : va_P (dC, dI) vwCl (gv_V cI cL ad f0 c0 f1 c1 f2 c2 lo up be si pl cu ge fa) H := hP
    have hD : va_D A (gv_V cI cL ad f0 c0 f1 c1 f2 c2 lo up be si pl cu ge fa) := hD
    refine lv_istore_n (lv' := [(1, .int q20), (0, .ref (ad 0))]) hx hb dX1_grow_23 rfl hl (by decide) rfl (fun ls hl => ?_)
    refine lv_aload_n hx hb dX1_grow_24 rfl (lv_at hl 1 rfl) ?_
    refine lv_dup hx hb dX1_grow_25 rfl ?_
    refine va_get (D := (dC, dI)) (ci := 1) (v := .int fa) (C := RX1) (T := TX1) (N := 11) hx hb hts inX1 hown hK hP 0 rfl rfl 10 (by decide) (hts (.fieldLink RX1 46 "VineWall" "fallen" "I") (List.mem_of_getElem? (i := 4) rfl)) (fun _ h9 => h9) rfl dX1_grow_26 ?_
    refine lv_aload_n hx hb dX1_grow_29 rfl (lv_at hl 1 rfl) ?_
    refine va_get (D := (dC, dI)) (ci := 1) (v := .ref (ad 7)) (C := RX1) (T := TX1) (N := 11) hx hb hts inX1 hown hK hP 0 rfl rfl 2 (by decide) (hts (.fieldLink RX1 19 "VineWall" "behind" "LVineWall$Wall;") (List.mem_of_getElem? (i := 5) rfl)) (fun _ h9 => h9) rfl dX1_grow_30 ?_
    refine lv_aload_n hx hb dX1_grow_33 rfl (lv_at hl 1 rfl) ?_
    refine va_get (D := (dC, dI)) (ci := 1) (v := .ref (ad 1)) (C := RX1) (T := TX1) (N := 11) hx hb hts inX1 hown hK hP 0 rfl rfl 0 (by decide) (hts (.fieldLink RX1 10 "VineWall" "wall" "LVineWall$Wall;") (List.mem_of_getElem? (i := 6) rfl)) (fun _ h9 => h9) rfl dX1_grow_34 ?_
    refine lv_aload_n hx hb dX1_grow_37 rfl (lv_at hl 1 rfl) ?_
    refine va_get (D := (dC, dI)) (ci := 1) (v := .int si) (C := RX1) (T := TX1) (N := 11) hx hb hts inX1 hown hK hP 0 rfl rfl 6 (by decide) (hts (.fieldLink RX1 33 "VineWall" "beyond" "I") (List.mem_of_getElem? (i := 7) rfl)) (fun _ h9 => h9) rfl dX1_grow_38 ?_
    refine lv_aload_n hx hb dX1_grow_41 rfl (lv_at hl 1 rfl) ?_
    refine va_get (D := (dC, dI)) (ci := 1) (v := .ref (ad 12)) (C := RX1) (T := TX1) (N := 11) hx hb hts inX1 hown hK hP 0 rfl rfl 5 (by decide) (hts (.fieldLink RX1 29 "VineWall" "bearings" "[I") (List.mem_of_getElem? (i := 8) rfl)) (fun _ h9 => h9) rfl dX1_grow_42 ?_
    have hPc : va_P (dC, dI) vwCl (gv_WWA cI (ad 7) (ad 8) (ad 9) (ad 1) (ad 2) (ad 3) (ad 12) f2 c2 f0 c0 be) H := gv_sub [7, 8, 9, 1, 2, 3, 12] hP rfl
    have hDc : va_D (gv_in (gv_WWA cI (ad 7) (ad 8) (ad 9) (ad 1) (ad 2) (ad 3) (ad 12) f2 c2 f0 c0 be)) (gv_WWA cI (ad 7) (ad 8) (ad 9) (ad 1) (ad 2) (ad 3) (ad 12) f2 c2 f0 c0 be) := gv_D hD [7, 8, 9, 1, 2, 3, 12] (by decide) rfl
    refine gv_ki (wf := (fun (u : (Nat → Int32) × (Nat → Int32)) => (gv_WWA cI (ad 7) (ad 8) (ad 9) (ad 1) (ad 2) (ad 3) (ad 12) u.1 u.2 f0 c0 be))) (wc := (gv_WWA cI (ad 7) (ad 8) (ad 9) (ad 1) (ad 2) (ad 3) (ad 12) f2 c2 f0 c0 be)) [7, 8, 9, 1, 2, 3, 12] (fun _ => rfl) hP hD hS rfl rfl (va_runV (As := [.ref (ad 1), .int si, .ref (ad 12)]) (rest := [.int fa, .ref (ad 0)]) ⟨hx, hb, hml, hown, hts⟩ (kX0_becomeNextOf l dC dI cI cL (ad 7) (ad 8) (ad 9) (ad 1) (ad 2) (ad 3) (ad 12) f2 c2 f0 c0 be si (gv_in (gv_WWA cI (ad 7) (ad 8) (ad 9) (ad 1) (ad 2) (ad 3) (ad 12) f2 c2 f0 c0 be))) (cwV (rm := gv_R 4 99) 3 hts gX1_grow_X0_becomeNextOf rfl rfl rfl (by decide +kernel) ⟨Nat.le_of_ble_eq_true rfl, Nat.le_of_ble_eq_true rfl⟩) (gv_preV (ci := 0) hK hPc hDc hN rfl rfl) rfl rfl hl.1 rfl (lv_room (Nat.le_of_ble_eq_true rfl)) dX1_grow_45 ⟨Nat.le_of_ble_eq_true rfl, Nat.le_of_ble_eq_true rfl⟩) (fun q45 u H locs hw hP hD hS => ?_)
    obtain ⟨f_q45, h_q45⟩ := u
    have he := gv_q3 hw he
    have hP : va_P (dC, dI) vwCl (gv_V cI cL ad f0 c0 f1 c1 f_q45 h_q45 lo up be si pl cu ge fa) H := hP
    have hD : va_D A (gv_V cI cL ad f0 c0 f1 c1 f_q45 h_q45 lo up be si pl cu ge fa) := hD
    refine lv_iadd hx hb dX1_grow_48 ?_
    refine va_put (D := (dC, dI)) (ci := 1) (v := .int (fa + q45)) (ty := .int) (C := RX1) (T := TX1) (N := 11) hx hb hts inX1 tyX1 tyX1_ok nmX1 hown hK hP hD hS 0 rfl rfl 10 (by decide) (hts (.fieldLink RX1 46 "VineWall" "fallen" "I") (List.mem_of_getElem? (i := 4) rfl)) (fun _ h9 => h9) rfl (by decide +kernel) rfl rfl (Nat.le_of_ble_eq_true rfl) dX1_grow_49 (fun H locs hP hD hS => ?_)
    have hP : va_P (dC, dI) vwCl (gv_V cI cL ad f0 c0 f1 c1 f_q45 h_q45 lo up be si pl cu ge (fa + q45)) H := hP
    have hD : va_D A (gv_V cI cL ad f0 c0 f1 c1 f_q45 h_q45 lo up be si pl cu ge (fa + q45)) := hD
    refine lv_aload_n hx hb dX1_grow_52 rfl (lv_at hl 1 rfl) ?_
    refine va_get (D := (dC, dI)) (ci := 1) (v := .ref (ad 1)) (C := RX1) (T := TX1) (N := 11) hx hb hts inX1 hown hK hP 0 rfl rfl 0 (by decide) (hts (.fieldLink RX1 10 "VineWall" "wall" "LVineWall$Wall;") (List.mem_of_getElem? (i := 6) rfl)) (fun _ h9 => h9) rfl dX1_grow_53 ?_
    refine lv_aload_n hx hb dX1_grow_56 rfl (lv_at hl 1 rfl) ?_
    refine va_get (D := (dC, dI)) (ci := 1) (v := .ref (ad 7)) (C := RX1) (T := TX1) (N := 11) hx hb hts inX1 hown hK hP 0 rfl rfl 2 (by decide) (hts (.fieldLink RX1 19 "VineWall" "behind" "LVineWall$Wall;") (List.mem_of_getElem? (i := 5) rfl)) (fun _ h9 => h9) rfl dX1_grow_57 ?_
    have hPc : va_P (dC, dI) vwCl (gv_WW cI (ad 1) (ad 2) (ad 3) (ad 7) (ad 8) (ad 9) f0 c0 f_q45 h_q45) H := gv_sub [1, 2, 3, 7, 8, 9] hP rfl
    have hDc : va_D (gv_in (gv_WW cI (ad 1) (ad 2) (ad 3) (ad 7) (ad 8) (ad 9) f0 c0 f_q45 h_q45)) (gv_WW cI (ad 1) (ad 2) (ad 3) (ad 7) (ad 8) (ad 9) f0 c0 f_q45 h_q45) := gv_D hD [1, 2, 3, 7, 8, 9] (by decide) rfl
    refine gv_kv (wf := (fun (u : (Nat → Int32) × (Nat → Int32)) => (gv_WW cI (ad 1) (ad 2) (ad 3) (ad 7) (ad 8) (ad 9) u.1 u.2 f_q45 h_q45))) (wc := (gv_WW cI (ad 1) (ad 2) (ad 3) (ad 7) (ad 8) (ad 9) f0 c0 f_q45 h_q45)) [1, 2, 3, 7, 8, 9] (fun _ => rfl) hP hD hS rfl rfl (va_runV (As := [.ref (ad 7)]) (rest := []) ⟨hx, hb, hml, hown, hts⟩ (kX0_copyFrom l dC dI cI cL (ad 1) (ad 2) (ad 3) (ad 7) (ad 8) (ad 9) f0 c0 f_q45 h_q45 (gv_in (gv_WW cI (ad 1) (ad 2) (ad 3) (ad 7) (ad 8) (ad 9) f0 c0 f_q45 h_q45))) (cwV (rm := gv_R 0 0) 1 hts gX1_grow_X0_copyFrom rfl rfl rfl (by decide +kernel) ⟨Nat.le_of_ble_eq_true rfl, Nat.le_of_ble_eq_true rfl⟩) (gv_preV (ci := 0) hK hPc hDc hN rfl rfl) rfl rfl hl.1 rfl (lv_room (Nat.le_of_ble_eq_true rfl)) dX1_grow_60 ⟨Nat.le_of_ble_eq_true rfl, Nat.le_of_ble_eq_true rfl⟩) (fun u H locs hw hP hD hS => ?_)
    obtain ⟨f_q60, h_q60⟩ := u
    have he := gv_q2 hw he
    have hP : va_P (dC, dI) vwCl (gv_V cI cL ad f_q60 h_q60 f1 c1 f_q45 h_q45 lo up be si pl cu ge (fa + q45)) H := hP
    have hD : va_D A (gv_V cI cL ad f_q60 h_q60 f1 c1 f_q45 h_q45 lo up be si pl cu ge (fa + q45)) := hD
    refine lv_aload_n hx hb dX1_grow_63 rfl (lv_at hl 1 rfl) ?_
    refine lv_dup hx hb dX1_grow_64 rfl ?_
    refine va_get (D := (dC, dI)) (ci := 1) (v := .int ge) (C := RX1) (T := TX1) (N := 11) hx hb hts inX1 hown hK hP 0 rfl rfl 9 (by decide) (hts (.fieldLink RX1 43 "VineWall" "generationsGone" "I") (List.mem_of_getElem? (i := 3) rfl)) (fun _ h9 => h9) rfl dX1_grow_65 ?_
    refine lv_iconst (v := 1) hx hb dX1_grow_68 (by decide) ?_
    refine lv_iadd hx hb dX1_grow_69 ?_
    refine va_put (D := (dC, dI)) (ci := 1) (v := .int (ge + 1)) (ty := .int) (C := RX1) (T := TX1) (N := 11) hx hb hts inX1 tyX1 tyX1_ok nmX1 hown hK hP hD hS 0 rfl rfl 9 (by decide) (hts (.fieldLink RX1 43 "VineWall" "generationsGone" "I") (List.mem_of_getElem? (i := 3) rfl)) (fun _ h9 => h9) rfl (by decide +kernel) rfl rfl (Nat.le_of_ble_eq_true rfl) dX1_grow_70 (fun H locs hP hD hS => ?_)
    have hP : va_P (dC, dI) vwCl (gv_V cI cL ad f_q60 h_q60 f1 c1 f_q45 h_q45 lo up be si pl cu (ge + 1) (fa + q45)) H := hP
    have hD : va_D A (gv_V cI cL ad f_q60 h_q60 f1 c1 f_q45 h_q45 lo up be si pl cu (ge + 1) (fa + q45)) := hD
    refine lv_aload_n hx hb dX1_grow_73 rfl (lv_at hl 1 rfl) ?_
    refine lv_iconst (v := 0) hx hb dX1_grow_74 (by decide) ?_
    refine va_put (D := (dC, dI)) (ci := 1) (v := .int 0) (ty := .int) (C := RX1) (T := TX1) (N := 11) hx hb hts inX1 tyX1 tyX1_ok nmX1 hown hK hP hD hS 0 rfl rfl 8 (by decide) (hts (.fieldLink RX1 40 "VineWall" "cutsDone" "I") (List.mem_of_getElem? (i := 9) rfl)) (fun _ h9 => h9) rfl (by decide +kernel) rfl rfl (Nat.le_of_ble_eq_true rfl) dX1_grow_75 (fun H locs hP hD hS => ?_)
    have hP : va_P (dC, dI) vwCl (gv_V cI cL ad f_q60 h_q60 f1 c1 f_q45 h_q45 lo up be si pl 0 (ge + 1) (fa + q45)) H := hP
    have hD : va_D A (gv_V cI cL ad f_q60 h_q60 f1 c1 f_q45 h_q45 lo up be si pl 0 (ge + 1) (fa + q45)) := hD
    refine lv_aload_n hx hb dX1_grow_78 rfl (lv_at hl 1 rfl) ?_
    have hPc : va_P (dC, dI) vwCl (gv_V cI cL ad f_q60 h_q60 f1 c1 f_q45 h_q45 lo up be si pl 0 (ge + 1) (fa + q45)) H := gv_sub [0, 1, 2, 3, 4, 5, 6, 7, 8, 9, 10, 11, 12] hP rfl
    have hDc : va_D (gv_in (gv_V cI cL ad f_q60 h_q60 f1 c1 f_q45 h_q45 lo up be si pl 0 (ge + 1) (fa + q45))) (gv_V cI cL ad f_q60 h_q60 f1 c1 f_q45 h_q45 lo up be si pl 0 (ge + 1) (fa + q45)) := gv_D hD [0, 1, 2, 3, 4, 5, 6, 7, 8, 9, 10, 11, 12] (by decide) rfl
    refine gv_ki (wf := (fun (_ : Unit) => (gv_V cI cL ad f_q60 h_q60 f1 c1 f_q45 h_q45 lo up be si pl 0 (ge + 1) (fa + q45)))) (wc := (gv_V cI cL ad f_q60 h_q60 f1 c1 f_q45 h_q45 lo up be si pl 0 (ge + 1) (fa + q45))) [0, 1, 2, 3, 4, 5, 6, 7, 8, 9, 10, 11, 12] (fun _ => rfl) hP hD hS rfl rfl (va_runV (As := []) (rest := []) ⟨hx, hb, hml, hown, hts⟩ (kX1_leaves l dC dI cI cL ad f_q60 h_q60 f1 c1 f_q45 h_q45 lo up be si pl 0 (ge + 1) (fa + q45) (gv_in (gv_V cI cL ad f_q60 h_q60 f1 c1 f_q45 h_q45 lo up be si pl 0 (ge + 1) (fa + q45)))) (cwV (rm := gv_R 2 42) 0 hts gX1_grow_X1_leaves rfl rfl rfl (by decide +kernel) ⟨Nat.le_of_ble_eq_true rfl, Nat.le_of_ble_eq_true rfl⟩) (gv_preV (ci := 1) hK hPc hDc hN rfl rfl) rfl rfl hl.1 rfl (lv_room (Nat.le_of_ble_eq_true rfl)) dX1_grow_79 ⟨Nat.le_of_ble_eq_true rfl, Nat.le_of_ble_eq_true rfl⟩) (fun q79 u H locs hw hP hD hS => ?_)
    have he := gv_q hw he
    have hP : va_P (dC, dI) vwCl (gv_V cI cL ad f_q60 h_q60 f1 c1 f_q45 h_q45 lo up be si pl 0 (ge + 1) (fa + q45)) H := hP
    have hD : va_D A (gv_V cI cL ad f_q60 h_q60 f1 c1 f_q45 h_q45 lo up be si pl 0 (ge + 1) (fa + q45)) := hD
    refine lv_iload_n hx hb dX1_grow_82 rfl (lv_at hl 0 rfl) ?_
    refine lv_isub hx hb dX1_grow_83 ?_
    exact kr (q79 - q20) (f_q60, h_q60, f_q45, h_q45, 0, ge + 1, fa + q45) _ _ _ _ _ _ (Nat.le_of_ble_eq_true rfl) (Nat.le_of_ble_eq_true rfl) he hP hS dX1_grow_84
  · have he := gv_f cd6 he
    exact kt gE_S 56 96 60 "the game is over" _ _ _ _ _ _ ⟨he, List.mem_cons_self⟩ hP hS (hl.1.trans hml.symm) (Nat.le_of_ble_eq_true rfl) (Nat.le_of_ble_eq_true rfl) (by decide) (hts (.classLink RX1 56 "java/lang/IllegalStateException") (List.mem_of_getElem? (i := 1) rfl)) (hts (.initialized "java/lang/IllegalStateException") (List.mem_of_getElem? (i := 2) rfl)) (by decide) (fun w h => hts w (List.mem_cons_of_mem _ (List.mem_append_right _ h))) gx_b60 gx_o60 dX1_grow_9 dX1_grow_12 dX1_grow_13 dX1_grow_15 dX1_grow_18
