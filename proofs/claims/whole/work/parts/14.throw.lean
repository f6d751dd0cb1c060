theorem gx_col {u : Unit} {a : Int32} (h : .inr u = spX1_requireColumn a) : vp_in a 12 := by
  unfold spX1_requireColumn at h
  by_cases h1 : a < 0
  · rw [if_pos h1] at h; cases h
  rw [if_neg h1] at h
  by_cases h2 : a < (12 : Int32)
  · rw [vp_in_iff]
    rw [Int32.lt_iff_toInt_lt] at h1 h2
    have e0 : (0 : Int32).toInt = 0 := rfl
    have e12 : (12 : Int32).toInt = 12 := rfl
    omega
  · rw [if_neg h2] at h; cases h
theorem gx_cell {u : Unit} {a b : Int32} (h : .inr u = spX1_requireCell a b) : vp_in a 8 ∧ vp_in b 12 := by
  unfold spX1_requireCell gv_b at h
  dsimp only at h
  by_cases h1 : spX1_isCell a b = 0
  · rw [if_pos h1] at h; cases h
  · exact gm_cell rfl h1

def spX1_sides (f0 : Nat → Int32) (c0 : Nat → Int32) (f1 : Nat → Int32) (c1 : Nat → Int32) (f2 : Nat → Int32) (c2 : Nat → Int32) (lo : Nat → Int64) (up : Nat → Int64) (be : Nat → Int32) (si : Int32) (pl : Int32) (cu : Int32) (ge : Int32) (fa : Int32) (p1 : Int32) : String ⊕ ((Int32)) := (if p1 = 0 then (if ge ≤ 0 then .inr p1 else .inl gE_S) else (if p1 = 1 then (if ge ≤ 0 then .inr p1 else .inl gE_S) else (if p1 = 2 then (if ge ≤ 0 then .inr p1 else .inl gE_S) else .inl gE_A)))
theorem spX1_sides_e (f0 : Nat → Int32) (c0 : Nat → Int32) (f1 : Nat → Int32) (c1 : Nat → Int32) (f2 : Nat → Int32) (c2 : Nat → Int32) (lo : Nat → Int64) (up : Nat → Int64) (be : Nat → Int32) (si : Int32) (pl : Int32) (cu : Int32) (ge : Int32) (fa : Int32) (p1 : Int32) : spX1_sides f0 c0 f1 c1 f2 c2 lo up be si pl cu ge fa p1 = (if p1 = 0 then (if ge ≤ 0 then .inr p1 else .inl gE_S) else (if p1 = 1 then (if ge ≤ 0 then .inr p1 else .inl gE_S) else (if p1 = 2 then (if ge ≤ 0 then .inr p1 else .inl gE_S) else .inl gE_A))) := rfl
set_option maxHeartbeats 4000000 in
set_option maxRecDepth 100000 in
theorem kX1_sides (l : Launch) (hst : l.stackTraces = false) (dC : Nat → ClassId) (dI : Nat → Nat → Nat) (cI cL : ClassId) (ad : Nat → Nat) (f0 : Nat → Int32) (c0 : Nat → Int32) (f1 : Nat → Int32) (c1 : Nat → Int32) (f2 : Nat → Int32) (c2 : Nat → Int32) (lo : Nat → Int64) (up : Nat → Int64) (be : Nat → Int32) (si : Int32) (pl : Int32) (cu : Int32) (ge : Int32) (fa : Int32) (p1 : Int32) : gx_Mv l yX1_sides wsX1_sides 6 1 82 (dC, dI) [(cI, .int), (cL, .long)] [.ref (ad 0), .int p1] (gv_V cI cL ad f0 c0 f1 c1 f2 c2 lo up be si pl cu ge fa) (fun (u : (Int32)) => .inr u = spX1_sides f0 c0 f1 c1 f2 c2 lo up be si pl cu ge fa p1) (fun (u : (Int32)) => (gv_V cI cL ad f0 c0 f1 c1 f2 c2 lo up be u pl cu ge fa)) (fun E => .inl E = spX1_sides f0 c0 f1 c1 f2 c2 lo up be si pl cu ge fa p1 ∧ E ∈ [gE_A, gE_S]) := by
  refine gx_ofv (cc := cX1_sides) (maxL := 2) hst (Nat.le_of_ble_eq_true rfl) (Nat.le_of_ble_eq_true rfl) (by decide) rfl (Nat.le_of_ble_eq_true rfl) rfl ?_
  intro A p e s m args below meth c Q ls H locs hx hb hml hts hown hP hK hD hN hX hS hl kr kt ko
  have inX1 : ∀ w ∈ wsX10, w ∈ wsX1_sides := (fun _ h => List.mem_cons_of_mem _ (List.mem_append_left _ (List.mem_append_left _ (List.mem_append_right _ h))))
  have hl : lv_has ls 2 [(0, .ref (ad 0)), (1, .int p1)] := hl
  have he := (spX1_sides_e f0 c0 f1 c1 f2 c2 lo up be si pl cu ge fa p1).symm
  refine lv_iload_n hx hb dX1_sides_0 rfl (lv_at hl 1 rfl) ?_
  refine lv_if_eq (tgt := 24) hx hb dX1_sides_1 (by decide) (fun cd1 => ?_) (fun cd1 => ?_)
  · have he := gv_t cd1 he
    refine lv_aload_n hx hb dX1_sides_24 rfl (lv_at hl 0 rfl) ?_
    refine va_get (D := (dC, dI)) (ci := 1) (v := .int ge) (C := RX1) (T := TX1) (N := 11) hx hb hts inX1 hown hK hP 0 rfl rfl 9 (by decide) (hts (.fieldLink RX1 43 "VineWall" "generationsGone" "I") (List.mem_of_getElem? (i := 5) rfl)) (fun _ h9 => h9) rfl dX1_sides_25 ?_
    refine lv_if_le (tgt := 41) hx hb dX1_sides_28 (by decide) (fun cd28 => ?_) (fun cd28 => ?_)
    · have he := gv_t cd28 he
      refine lv_aload_n hx hb dX1_sides_41 rfl (lv_at hl 0 rfl) ?_
      refine lv_iload_n hx hb dX1_sides_42 rfl (lv_at hl 1 rfl) ?_
      refine va_put (D := (dC, dI)) (ci := 1) (v := .int p1) (ty := .int) (C := RX1) (T := TX1) (N := 11) hx hb hts inX1 tyX1 tyX1_ok nmX1 hown hK hP hD hS 0 rfl rfl 6 (by decide) (hts (.fieldLink RX1 33 "VineWall" "beyond" "I") (List.mem_of_getElem? (i := 6) rfl)) (fun _ h9 => h9) rfl (by decide +kernel) rfl rfl (Nat.le_of_ble_eq_true rfl) dX1_sides_43 (fun H locs hP hD hS => ?_)
      have hP : va_P (dC, dI) vwCl (gv_V cI cL ad f0 c0 f1 c1 f2 c2 lo up be p1 pl cu ge fa) H := hP
      have hD : va_D A (gv_V cI cL ad f0 c0 f1 c1 f2 c2 lo up be p1 pl cu ge fa) := hD
      exact kr p1 _ _ _ _ _ _ (Nat.le_of_ble_eq_true rfl) (Nat.le_of_ble_eq_true rfl) he hP hS dX1_sides_46
    · have he := gv_f cd28 he
      exact kt gE_S 56 58 60 "a generation has gone by" _ _ _ _ _ _ ⟨he, List.mem_cons_of_mem _ List.mem_cons_self⟩ hP hS (hl.1.trans hml.symm) (Nat.le_of_ble_eq_true rfl) (Nat.le_of_ble_eq_true rfl) (by decide) (hts (.classLink RX1 56 "java/lang/IllegalStateException") (List.mem_of_getElem? (i := 3) rfl)) (hts (.initialized "java/lang/IllegalStateException") (List.mem_of_getElem? (i := 4) rfl)) (by decide) (fun w h => hts w (List.mem_cons_of_mem _ (List.mem_append_right _ h))) gx_b60 gx_o60 dX1_sides_31 dX1_sides_34 dX1_sides_35 dX1_sides_37 dX1_sides_40
  · have he := gv_f cd1 he
    refine lv_iload_n hx hb dX1_sides_4 rfl (lv_at hl 1 rfl) ?_
    refine lv_iconst (v := 1) hx hb dX1_sides_5 (by decide) ?_
    refine lv_icmp_eq (tgt := 24) hx hb dX1_sides_6 (by decide) (fun cd6 => ?_) (fun cd6 => ?_)
    · have he := gv_t cd6 he
      refine lv_aload_n hx hb dX1_sides_24 rfl (lv_at hl 0 rfl) ?_
      refine va_get (D := (dC, dI)) (ci := 1) (v := .int ge) (C := RX1) (T := TX1) (N := 11) hx hb hts inX1 hown hK hP 0 rfl rfl 9 (by decide) (hts (.fieldLink RX1 43 "VineWall" "generationsGone" "I") (List.mem_of_getElem? (i := 5) rfl)) (fun _ h9 => h9) rfl dX1_sides_25 ?_
      refine lv_if_le (tgt := 41) hx hb dX1_sides_28 (by decide) (fun cd28 => ?_) (fun cd28 => ?_)
      · have he := gv_t cd28 he
        refine lv_aload_n hx hb dX1_sides_41 rfl (lv_at hl 0 rfl) ?_
        refine lv_iload_n hx hb dX1_sides_42 rfl (lv_at hl 1 rfl) ?_
        refine va_put (D := (dC, dI)) (ci := 1) (v := .int p1) (ty := .int) (C := RX1) (T := TX1) (N := 11) hx hb hts inX1 tyX1 tyX1_ok nmX1 hown hK hP hD hS 0 rfl rfl 6 (by decide) (hts (.fieldLink RX1 33 "VineWall" "beyond" "I") (List.mem_of_getElem? (i := 6) rfl)) (fun _ h9 => h9) rfl (by decide +kernel) rfl rfl (Nat.le_of_ble_eq_true rfl) dX1_sides_43 (fun H locs hP hD hS => ?_)
        have hP : va_P (dC, dI) vwCl (gv_V cI cL ad f0 c0 f1 c1 f2 c2 lo up be p1 pl cu ge fa) H := hP
        have hD : va_D A (gv_V cI cL ad f0 c0 f1 c1 f2 c2 lo up be p1 pl cu ge fa) := hD
        exact kr p1 _ _ _ _ _ _ (Nat.le_of_ble_eq_true rfl) (Nat.le_of_ble_eq_true rfl) he hP hS dX1_sides_46
      · have he := gv_f cd28 he
        exact kt gE_S 56 58 60 "a generation has gone by" _ _ _ _ _ _ ⟨he, List.mem_cons_of_mem _ List.mem_cons_self⟩ hP hS (hl.1.trans hml.symm) (Nat.le_of_ble_eq_true rfl) (Nat.le_of_ble_eq_true rfl) (by decide) (hts (.classLink RX1 56 "java/lang/IllegalStateException") (List.mem_of_getElem? (i := 3) rfl)) (hts (.initialized "java/lang/IllegalStateException") (List.mem_of_getElem? (i := 4) rfl)) (by decide) (fun w h => hts w (List.mem_cons_of_mem _ (List.mem_append_right _ h))) gx_b60 gx_o60 dX1_sides_31 dX1_sides_34 dX1_sides_35 dX1_sides_37 dX1_sides_40
    · have he := gv_f cd6 he
      refine lv_iload_n hx hb dX1_sides_9 rfl (lv_at hl 1 rfl) ?_
      refine lv_iconst (v := 2) hx hb dX1_sides_10 (by decide) ?_
      refine lv_icmp_eq (tgt := 24) hx hb dX1_sides_11 (by decide) (fun cd11 => ?_) (fun cd11 => ?_)
      · have he := gv_t cd11 he
        refine lv_aload_n hx hb dX1_sides_24 rfl (lv_at hl 0 rfl) ?_
        refine va_get (D := (dC, dI)) (ci := 1) (v := .int ge) (C := RX1) (T := TX1) (N := 11) hx hb hts inX1 hown hK hP 0 rfl rfl 9 (by decide) (hts (.fieldLink RX1 43 "VineWall" "generationsGone" "I") (List.mem_of_getElem? (i := 5) rfl)) (fun _ h9 => h9) rfl dX1_sides_25 ?_
        refine lv_if_le (tgt := 41) hx hb dX1_sides_28 (by decide) (fun cd28 => ?_) (fun cd28 => ?_)
        · have he := gv_t cd28 he
          refine lv_aload_n hx hb dX1_sides_41 rfl (lv_at hl 0 rfl) ?_
          refine lv_iload_n hx hb dX1_sides_42 rfl (lv_at hl 1 rfl) ?_
          refine va_put (D := (dC, dI)) (ci := 1) (v := .int p1) (ty := .int) (C := RX1) (T := TX1) (N := 11) hx hb hts inX1 tyX1 tyX1_ok nmX1 hown hK hP hD hS 0 rfl rfl 6 (by decide) (hts (.fieldLink RX1 33 "VineWall" "beyond" "I") (List.mem_of_getElem? (i := 6) rfl)) (fun _ h9 => h9) rfl (by decide +kernel) rfl rfl (Nat.le_of_ble_eq_true rfl) dX1_sides_43 (fun H locs hP hD hS => ?_)
          have hP : va_P (dC, dI) vwCl (gv_V cI cL ad f0 c0 f1 c1 f2 c2 lo up be p1 pl cu ge fa) H := hP
          have hD : va_D A (gv_V cI cL ad f0 c0 f1 c1 f2 c2 lo up be p1 pl cu ge fa) := hD
          exact kr p1 _ _ _ _ _ _ (Nat.le_of_ble_eq_true rfl) (Nat.le_of_ble_eq_true rfl) he hP hS dX1_sides_46
        · have he := gv_f cd28 he
          exact kt gE_S 56 58 60 "a generation has gone by" _ _ _ _ _ _ ⟨he, List.mem_cons_of_mem _ List.mem_cons_self⟩ hP hS (hl.1.trans hml.symm) (Nat.le_of_ble_eq_true rfl) (Nat.le_of_ble_eq_true rfl) (by decide) (hts (.classLink RX1 56 "java/lang/IllegalStateException") (List.mem_of_getElem? (i := 3) rfl)) (hts (.initialized "java/lang/IllegalStateException") (List.mem_of_getElem? (i := 4) rfl)) (by decide) (fun w h => hts w (List.mem_cons_of_mem _ (List.mem_append_right _ h))) gx_b60 gx_o60 dX1_sides_31 dX1_sides_34 dX1_sides_35 dX1_sides_37 dX1_sides_40
      · have he := gv_f cd11 he
        exact kt gE_A 49 51 53 "there is no such choice for the sides" _ _ _ _ _ _ ⟨he, List.mem_cons_self⟩ hP hS (hl.1.trans hml.symm) (Nat.le_of_ble_eq_true rfl) (Nat.le_of_ble_eq_true rfl) (by decide) (hts (.classLink RX1 49 "java/lang/IllegalArgumentException") (List.mem_of_getElem? (i := 1) rfl)) (hts (.initialized "java/lang/IllegalArgumentException") (List.mem_of_getElem? (i := 2) rfl)) (by decide) (fun w h => hts w (List.mem_cons_of_mem _ (List.mem_append_left _ (List.mem_append_right _ h)))) gx_b53 gx_o53 dX1_sides_14 dX1_sides_17 dX1_sides_18 dX1_sides_20 dX1_sides_23
def spX1_plant (f0 : Nat → Int32) (c0 : Nat → Int32) (f1 : Nat → Int32) (c1 : Nat → Int32) (f2 : Nat → Int32) (c2 : Nat → Int32) (lo : Nat → Int64) (up : Nat → Int64) (be : Nat → Int32) (si : Int32) (pl : Int32) (cu : Int32) (ge : Int32) (fa : Int32) (p1 : Int32) : String ⊕ ((Nat → Int32) × (Int32)) := gx_b (spX1_requireColumn p1) (fun _ => gv_b (spX0_isBareAt f0 c0 0 p1) (fun q10 => (if q10 = 0 then .inl gE_S else (if pl < 4 then gv_b (spX0_putLeaf f0 c0 0 p1) (fun f_q50 => .inr (f_q50, pl + 1)) else .inl gE_S))))
theorem spX1_plant_e (f0 : Nat → Int32) (c0 : Nat → Int32) (f1 : Nat → Int32) (c1 : Nat → Int32) (f2 : Nat → Int32) (c2 : Nat → Int32) (lo : Nat → Int64) (up : Nat → Int64) (be : Nat → Int32) (si : Int32) (pl : Int32) (cu : Int32) (ge : Int32) (fa : Int32) (p1 : Int32) : spX1_plant f0 c0 f1 c1 f2 c2 lo up be si pl cu ge fa p1 = gx_b (spX1_requireColumn p1) (fun _ => gv_b (spX0_isBareAt f0 c0 0 p1) (fun q10 => (if q10 = 0 then .inl gE_S else (if pl < 4 then gv_b (spX0_putLeaf f0 c0 0 p1) (fun f_q50 => .inr (f_q50, pl + 1)) else .inl gE_S)))) := rfl
set_option maxHeartbeats 4000000 in
set_option maxRecDepth 100000 in
theorem kX1_plant (l : Launch) (hst : l.stackTraces = false) (dC : Nat → ClassId) (dI : Nat → Nat → Nat) (cI cL : ClassId) (ad : Nat → Nat) (f0 : Nat → Int32) (c0 : Nat → Int32) (f1 : Nat → Int32) (c1 : Nat → Int32) (f2 : Nat → Int32) (c2 : Nat → Int32) (lo : Nat → Int64) (up : Nat → Int64) (be : Nat → Int32) (si : Int32) (pl : Int32) (cu : Int32) (ge : Int32) (fa : Int32) (p1 : Int32) : gx_Mv l yX1_plant wsX1_plant 7 2 102 (dC, dI) [(cI, .int), (cL, .long)] [.ref (ad 0), .int p1] (gv_V cI cL ad f0 c0 f1 c1 f2 c2 lo up be si pl cu ge fa) (fun (u : (Nat → Int32) × (Int32)) => .inr u = spX1_plant f0 c0 f1 c1 f2 c2 lo up be si pl cu ge fa p1) (fun (u : (Nat → Int32) × (Int32)) => (gv_V cI cL ad u.1 c0 f1 c1 f2 c2 lo up be si u.2 cu ge fa)) (fun E => .inl E = spX1_plant f0 c0 f1 c1 f2 c2 lo up be si pl cu ge fa p1 ∧ E ∈ [gE_I, gE_S]) := by
  refine gx_ofv (cc := cX1_plant) (maxL := 2) hst (Nat.le_of_ble_eq_true rfl) (Nat.le_of_ble_eq_true rfl) (by decide) rfl (Nat.le_of_ble_eq_true rfl) rfl ?_
  intro A p e s m args below meth c Q ls H locs hx hb hml hts hown hP hK hD hN hX hS hl kr kt ko
  have inX0 : ∀ w ∈ wsX00, w ∈ wsX1_plant := (fun _ h => List.mem_cons_of_mem _ (List.mem_append_left _ (List.mem_append_left _ (List.mem_append_right _ h))))
  have inX1 : ∀ w ∈ wsX10, w ∈ wsX1_plant := (fun _ h => List.mem_cons_of_mem _ (List.mem_append_left _ (List.mem_append_left _ (List.mem_append_left _ (List.mem_append_right _ h)))))
  have hl : lv_has ls 2 [(0, .ref (ad 0)), (1, .int p1)] := hl
  have he := (spX1_plant_e f0 c0 f1 c1 f2 c2 lo up be si pl cu ge fa p1).symm
  refine lv_iload_n hx hb dX1_plant_0 rfl (lv_at hl 1 rfl) ?_
  have hPc : va_P (dC, dI) vwCl ([] : va_W) H := gv_P0
  have hDc : va_D (gv_in ([] : va_W)) ([] : va_W) := gv_D0
  have hXc : gx_T (gv_in ([] : va_W)) s H := hX.to hS.2.1 (gv_inA hD [] rfl)
  refine gx_kv (xp := (fun E => .inl E = spX1_requireColumn p1 ∧ E ∈ [gE_I])) (wf := (fun (_ : Unit) => ([] : va_W))) (wc := ([] : va_W)) [] (fun _ => rfl) hP hD hS rfl (vx_runS (As := [.int p1]) (rest := []) ⟨hx, hb, hml, hown, hts⟩ (kX1_requireColumn l hst dC dI cI cL p1 (gv_in ([] : va_W))) (va_cwS (rm := gx_R 6 1 82) 1 hts gX1_plant_X1_requireColumn rfl rfl rfl (by decide +kernel) ⟨Nat.le_of_ble_eq_true rfl, Nat.le_of_ble_eq_true rfl⟩) (gx_preS hK hPc hDc hN hXc) rfl rfl hl.1 rfl (lv_room (Nat.le_of_ble_eq_true rfl)) dX1_plant_1 ⟨Nat.le_of_ble_eq_true rfl, Nat.le_of_ble_eq_true rfl⟩) (fun E ce q9 H locs hw hP hD hS hc1 hc2 hc3 => ko E ce q9 _ _ _ _ _ _ _ (Nat.le_of_ble_eq_true rfl) (Nat.le_of_ble_eq_true rfl) ⟨gx_l hw.1 he, by rw [List.mem_singleton.mp hw.2]; exact List.mem_cons_self⟩ hP hS hc1 hc2 hc3) (fun u H locs hw hP hD hS => ?_)
  have he := gx_r hw he
  have hP : va_P (dC, dI) vwCl (gv_V cI cL ad f0 c0 f1 c1 f2 c2 lo up be si pl cu ge fa) H := hP
  have hD : va_D A (gv_V cI cL ad f0 c0 f1 c1 f2 c2 lo up be si pl cu ge fa) := hD
  refine lv_aload_n hx hb dX1_plant_4 rfl (lv_at hl 0 rfl) ?_
  refine va_get (D := (dC, dI)) (ci := 1) (v := .ref (ad 1)) (C := RX1) (T := TX1) (N := 11) hx hb hts inX1 hown hK hP 0 rfl rfl 0 (by decide) (hts (.fieldLink RX1 10 "VineWall" "wall" "LVineWall$Wall;") (List.mem_of_getElem? (i := 3) rfl)) (fun _ h9 => h9) rfl dX1_plant_5 ?_
  refine lv_iconst (v := 0) hx hb dX1_plant_8 (by decide) ?_
  refine lv_iload_n hx hb dX1_plant_9 rfl (lv_at hl 1 rfl) ?_
  have hPc : va_P (dC, dI) vwCl (gv_W cI (ad 1) (ad 2) (ad 3) f0 c0) H := gv_sub [1, 2, 3] hP rfl
  have hDc : va_D (gv_in (gv_W cI (ad 1) (ad 2) (ad 3) f0 c0)) (gv_W cI (ad 1) (ad 2) (ad 3) f0 c0) := gv_D hD [1, 2, 3] (by decide) rfl
  refine gv_ki (wf := (fun (_ : Unit) => (gv_W cI (ad 1) (ad 2) (ad 3) f0 c0))) (wc := (gv_W cI (ad 1) (ad 2) (ad 3) f0 c0)) [1, 2, 3] (fun _ => rfl) hP hD hS rfl rfl (va_runV (As := [.int 0, .int p1]) (rest := []) ⟨hx, hb, hml, hown, hts⟩ (kX0_isBareAt l dC dI cI cL (ad 1) (ad 2) (ad 3) f0 c0 0 p1 (gv_in (gv_W cI (ad 1) (ad 2) (ad 3) f0 c0))) (cwV (rm := gv_R 2 43) 2 hts gX1_plant_X0_isBareAt rfl rfl rfl (by decide +kernel) ⟨Nat.le_of_ble_eq_true rfl, Nat.le_of_ble_eq_true rfl⟩) (gv_preV (ci := 0) hK hPc hDc hN rfl rfl) rfl rfl hl.1 rfl (lv_room (Nat.le_of_ble_eq_true rfl)) dX1_plant_10 ⟨Nat.le_of_ble_eq_true rfl, Nat.le_of_ble_eq_true rfl⟩) (fun q10 u H locs hw hP hD hS => ?_)
  have he := gv_q hw he
  have hP : va_P (dC, dI) vwCl (gv_V cI cL ad f0 c0 f1 c1 f2 c2 lo up be si pl cu ge fa) H := hP
  have hD : va_D A (gv_V cI cL ad f0 c0 f1 c1 f2 c2 lo up be si pl cu ge fa) := hD
  refine lv_if_ne (tgt := 26) hx hb dX1_plant_13 (by decide) (fun cd13 => ?_) (fun cd13 => ?_)
  · have he := gv_f cd13 he
    refine lv_aload_n hx hb dX1_plant_26 rfl (lv_at hl 0 rfl) ?_
    refine va_get (D := (dC, dI)) (ci := 1) (v := .int pl) (C := RX1) (T := TX1) (N := 11) hx hb hts inX1 hown hK hP 0 rfl rfl 7 (by decide) (hts (.fieldLink RX1 37 "VineWall" "planted" "I") (List.mem_of_getElem? (i := 4) rfl)) (fun _ h9 => h9) rfl dX1_plant_27 ?_
    refine lv_iconst (v := 4) hx hb dX1_plant_30 (by decide) ?_
    refine lv_icmp_lt (tgt := 44) hx hb dX1_plant_31 (by decide) (fun cd31 => ?_) (fun cd31 => ?_)
    · have he := gv_t cd31 he
      refine lv_aload_n hx hb dX1_plant_44 rfl (lv_at hl 0 rfl) ?_
      refine va_get (D := (dC, dI)) (ci := 1) (v := .ref (ad 1)) (C := RX1) (T := TX1) (N := 11) hx hb hts inX1 hown hK hP 0 rfl rfl 0 (by decide) (hts (.fieldLink RX1 10 "VineWall" "wall" "LVineWall$Wall;") (List.mem_of_getElem? (i := 3) rfl)) (fun _ h9 => h9) rfl dX1_plant_45 ?_
      refine lv_iconst (v := 0) hx hb dX1_plant_48 (by decide) ?_
      refine lv_iload_n hx hb dX1_plant_49 rfl (lv_at hl 1 rfl) ?_
      have hPc : va_P (dC, dI) vwCl (gv_W cI (ad 1) (ad 2) (ad 3) f0 c0) H := gv_sub [1, 2, 3] hP rfl
      have hDc : va_D (gv_in (gv_W cI (ad 1) (ad 2) (ad 3) f0 c0)) (gv_W cI (ad 1) (ad 2) (ad 3) f0 c0) := gv_D hD [1, 2, 3] (by decide) rfl
      refine gv_kv (wf := (fun (u : (Nat → Int32)) => (gv_W cI (ad 1) (ad 2) (ad 3) u c0))) (wc := (gv_W cI (ad 1) (ad 2) (ad 3) f0 c0)) [1, 2, 3] (fun _ => rfl) hP hD hS rfl rfl (va_runV (As := [.int 0, .int p1]) (rest := []) ⟨hx, hb, hml, hown, hts⟩ (kX0_putLeaf l dC dI cI cL (ad 1) (ad 2) (ad 3) f0 c0 0 p1 (gv_in (gv_W cI (ad 1) (ad 2) (ad 3) f0 c0))) (cwV (rm := gv_R 1 21) 2 hts gX1_plant_X0_putLeaf rfl rfl rfl (by decide +kernel) ⟨Nat.le_of_ble_eq_true rfl, Nat.le_of_ble_eq_true rfl⟩) (gv_preV (ci := 0) hK hPc hDc hN rfl rfl) rfl rfl hl.1 rfl (lv_room (Nat.le_of_ble_eq_true rfl)) dX1_plant_50 ⟨Nat.le_of_ble_eq_true rfl, Nat.le_of_ble_eq_true rfl⟩) (fun u H locs hw hP hD hS => ?_)
      obtain ⟨f_q50, rfl⟩ : ∃ z, z = u := ⟨_, rfl⟩
      have he := gv_q hw he
      have hP : va_P (dC, dI) vwCl (gv_V cI cL ad f_q50 c0 f1 c1 f2 c2 lo up be si pl cu ge fa) H := hP
      have hD : va_D A (gv_V cI cL ad f_q50 c0 f1 c1 f2 c2 lo up be si pl cu ge fa) := hD
      refine lv_aload_n hx hb dX1_plant_53 rfl (lv_at hl 0 rfl) ?_
      refine lv_dup hx hb dX1_plant_54 rfl ?_
      refine va_get (D := (dC, dI)) (ci := 1) (v := .int pl) (C := RX1) (T := TX1) (N := 11) hx hb hts inX1 hown hK hP 0 rfl rfl 7 (by decide) (hts (.fieldLink RX1 37 "VineWall" "planted" "I") (List.mem_of_getElem? (i := 4) rfl)) (fun _ h9 => h9) rfl dX1_plant_55 ?_
      refine lv_iconst (v := 1) hx hb dX1_plant_58 (by decide) ?_
      refine lv_iadd hx hb dX1_plant_59 ?_
      refine va_put (D := (dC, dI)) (ci := 1) (v := .int (pl + 1)) (ty := .int) (C := RX1) (T := TX1) (N := 11) hx hb hts inX1 tyX1 tyX1_ok nmX1 hown hK hP hD hS 0 rfl rfl 7 (by decide) (hts (.fieldLink RX1 37 "VineWall" "planted" "I") (List.mem_of_getElem? (i := 4) rfl)) (fun _ h9 => h9) rfl (by decide +kernel) rfl rfl (Nat.le_of_ble_eq_true rfl) dX1_plant_60 (fun H locs hP hD hS => ?_)
      have hP : va_P (dC, dI) vwCl (gv_V cI cL ad f_q50 c0 f1 c1 f2 c2 lo up be si (pl + 1) cu ge fa) H := hP
      have hD : va_D A (gv_V cI cL ad f_q50 c0 f1 c1 f2 c2 lo up be si (pl + 1) cu ge fa) := hD
      exact kr (f_q50, pl + 1) _ _ _ _ _ _ (Nat.le_of_ble_eq_true rfl) (Nat.le_of_ble_eq_true rfl) he hP hS dX1_plant_63
    · have he := gv_f cd31 he
      exact kt gE_S 56 71 60 "no more can be planted in this game" _ _ _ _ _ _ ⟨he, List.mem_cons_of_mem _ List.mem_cons_self⟩ hP hS (hl.1.trans hml.symm) (Nat.le_of_ble_eq_true rfl) (Nat.le_of_ble_eq_true rfl) (by decide) (hts (.classLink RX1 56 "java/lang/IllegalStateException") (List.mem_of_getElem? (i := 1) rfl)) (hts (.initialized "java/lang/IllegalStateException") (List.mem_of_getElem? (i := 2) rfl)) (by decide) (fun w h => hts w (List.mem_cons_of_mem _ (List.mem_append_left _ (List.mem_append_right _ h)))) gx_b60 gx_o60 dX1_plant_34 dX1_plant_37 dX1_plant_38 dX1_plant_40 dX1_plant_43
  · have he := gv_t cd13 he
    exact kt gE_S 56 69 60 "the cell at the foot is not bare" _ _ _ _ _ _ ⟨he, List.mem_cons_of_mem _ List.mem_cons_self⟩ hP hS (hl.1.trans hml.symm) (Nat.le_of_ble_eq_true rfl) (Nat.le_of_ble_eq_true rfl) (by decide) (hts (.classLink RX1 56 "java/lang/IllegalStateException") (List.mem_of_getElem? (i := 1) rfl)) (hts (.initialized "java/lang/IllegalStateException") (List.mem_of_getElem? (i := 2) rfl)) (by decide) (fun w h => hts w (List.mem_cons_of_mem _ (List.mem_append_left _ (List.mem_append_right _ h)))) gx_b60 gx_o60 dX1_plant_16 dX1_plant_19 dX1_plant_20 dX1_plant_22 dX1_plant_25
def spX1_trellis (f0 : Nat → Int32) (c0 : Nat → Int32) (f1 : Nat → Int32) (c1 : Nat → Int32) (f2 : Nat → Int32) (c2 : Nat → Int32) (lo : Nat → Int64) (up : Nat → Int64) (be : Nat → Int32) (si : Int32) (pl : Int32) (cu : Int32) (ge : Int32) (fa : Int32) (p1 : Int32) (p2 : Int32) : String ⊕ (Int32 × (Nat → Int32)) := gx_b (spX1_requireColumn p1) (fun _ => (if p2 < 1 then .inl gE_A else (if p2 ≤ 8 then .inr (be p1.toNatClampNeg, upd be p1.toNatClampNeg p2) else .inl gE_A)))
theorem spX1_trellis_e (f0 : Nat → Int32) (c0 : Nat → Int32) (f1 : Nat → Int32) (c1 : Nat → Int32) (f2 : Nat → Int32) (c2 : Nat → Int32) (lo : Nat → Int64) (up : Nat → Int64) (be : Nat → Int32) (si : Int32) (pl : Int32) (cu : Int32) (ge : Int32) (fa : Int32) (p1 : Int32) (p2 : Int32) : spX1_trellis f0 c0 f1 c1 f2 c2 lo up be si pl cu ge fa p1 p2 = gx_b (spX1_requireColumn p1) (fun _ => (if p2 < 1 then .inl gE_A else (if p2 ≤ 8 then .inr (be p1.toNatClampNeg, upd be p1.toNatClampNeg p2) else .inl gE_A))) := rfl
set_option maxHeartbeats 4000000 in
set_option maxRecDepth 100000 in
theorem kX1_trellis (l : Launch) (hst : l.stackTraces = false) (dC : Nat → ClassId) (dI : Nat → Nat → Nat) (cI cL : ClassId) (ad : Nat → Nat) (f0 : Nat → Int32) (c0 : Nat → Int32) (f1 : Nat → Int32) (c1 : Nat → Int32) (f2 : Nat → Int32) (c2 : Nat → Int32) (lo : Nat → Int64) (up : Nat → Int64) (be : Nat → Int32) (si : Int32) (pl : Int32) (cu : Int32) (ge : Int32) (fa : Int32) (p1 : Int32) (p2 : Int32) : gx_Mi l yX1_trellis wsX1_trellis 7 2 102 (dC, dI) [(cI, .int), (cL, .long)] [.ref (ad 0), .int p1, .int p2] (gv_V cI cL ad f0 c0 f1 c1 f2 c2 lo up be si pl cu ge fa) (fun (r : Int32) (u : (Nat → Int32)) => .inr (r, u) = spX1_trellis f0 c0 f1 c1 f2 c2 lo up be si pl cu ge fa p1 p2) (fun (u : (Nat → Int32)) => (gv_V cI cL ad f0 c0 f1 c1 f2 c2 lo up u si pl cu ge fa)) (fun E => .inl E = spX1_trellis f0 c0 f1 c1 f2 c2 lo up be si pl cu ge fa p1 p2 ∧ E ∈ [gE_I, gE_A]) := by
  refine gx_ofi (cc := cX1_trellis) (maxL := 4) hst (Nat.le_of_ble_eq_true rfl) (Nat.le_of_ble_eq_true rfl) (by decide) rfl (Nat.le_of_ble_eq_true rfl) rfl ?_
  intro A p e s m args below meth c Q ls H locs hx hb hml hts hown hP hK hD hN hX hS hl kr kt ko
  have inX1 : ∀ w ∈ wsX10, w ∈ wsX1_trellis := (fun _ h => List.mem_cons_of_mem _ (List.mem_append_left _ (List.mem_append_left _ (List.mem_append_right _ h))))
  have hl : lv_has ls 4 [(0, .ref (ad 0)), (1, .int p1), (2, .int p2)] := hl
  have he := (spX1_trellis_e f0 c0 f1 c1 f2 c2 lo up be si pl cu ge fa p1 p2).symm
  refine lv_iload_n hx hb dX1_trellis_0 rfl (lv_at hl 1 rfl) ?_
  have hPc : va_P (dC, dI) vwCl ([] : va_W) H := gv_P0
  have hDc : va_D (gv_in ([] : va_W)) ([] : va_W) := gv_D0
  have hXc : gx_T (gv_in ([] : va_W)) s H := hX.to hS.2.1 (gv_inA hD [] rfl)
  refine gx_kv (xp := (fun E => .inl E = spX1_requireColumn p1 ∧ E ∈ [gE_I])) (wf := (fun (_ : Unit) => ([] : va_W))) (wc := ([] : va_W)) [] (fun _ => rfl) hP hD hS rfl (vx_runS (As := [.int p1]) (rest := []) ⟨hx, hb, hml, hown, hts⟩ (kX1_requireColumn l hst dC dI cI cL p1 (gv_in ([] : va_W))) (va_cwS (rm := gx_R 6 1 82) 1 hts gX1_trellis_X1_requireColumn rfl rfl rfl (by decide +kernel) ⟨Nat.le_of_ble_eq_true rfl, Nat.le_of_ble_eq_true rfl⟩) (gx_preS hK hPc hDc hN hXc) rfl rfl hl.1 rfl (lv_room (Nat.le_of_ble_eq_true rfl)) dX1_trellis_1 ⟨Nat.le_of_ble_eq_true rfl, Nat.le_of_ble_eq_true rfl⟩) (fun E ce q9 H locs hw hP hD hS hc1 hc2 hc3 => ko E ce q9 _ _ _ _ _ _ _ (Nat.le_of_ble_eq_true rfl) (Nat.le_of_ble_eq_true rfl) ⟨gx_l hw.1 he, by rw [List.mem_singleton.mp hw.2]; exact List.mem_cons_self⟩ hP hS hc1 hc2 hc3) (fun u H locs hw hP hD hS => ?_)
  have he := gx_r hw he
  have hP : va_P (dC, dI) vwCl (gv_V cI cL ad f0 c0 f1 c1 f2 c2 lo up be si pl cu ge fa) H := hP
  have hD : va_D A (gv_V cI cL ad f0 c0 f1 c1 f2 c2 lo up be si pl cu ge fa) := hD
  have hv8 := gx_col hw
  refine lv_iload_n hx hb dX1_trellis_4 rfl (lv_at hl 2 rfl) ?_
  refine lv_iconst (v := 1) hx hb dX1_trellis_5 (by decide) ?_
  refine lv_icmp_lt (tgt := 15) hx hb dX1_trellis_6 (by decide) (fun cd6 => ?_) (fun cd6 => ?_)
  · have he := gv_t cd6 he
    exact kt gE_A 49 77 53 "no trellis bears so many leaves" _ _ _ _ _ _ ⟨he, List.mem_cons_of_mem _ List.mem_cons_self⟩ hP hS (hl.1.trans hml.symm) (Nat.le_of_ble_eq_true rfl) (Nat.le_of_ble_eq_true rfl) (by decide) (hts (.classLink RX1 49 "java/lang/IllegalArgumentException") (List.mem_of_getElem? (i := 1) rfl)) (hts (.initialized "java/lang/IllegalArgumentException") (List.mem_of_getElem? (i := 2) rfl)) (by decide) (fun w h => hts w (List.mem_cons_of_mem _ (List.mem_append_left _ (List.mem_append_right _ h)))) gx_b53 gx_o53 dX1_trellis_15 dX1_trellis_18 dX1_trellis_19 dX1_trellis_21 dX1_trellis_24
  · have he := gv_f cd6 he
    refine lv_iload_n hx hb dX1_trellis_9 rfl (lv_at hl 2 rfl) ?_
    refine lv_bipush (v := 8) hx hb dX1_trellis_10 (by decide) ?_
    refine lv_icmp_le (tgt := 25) hx hb dX1_trellis_12 (by decide) (fun cd12 => ?_) (fun cd12 => ?_)
    · have he := gv_t cd12 he
      refine lv_aload_n hx hb dX1_trellis_25 rfl (lv_at hl 0 rfl) ?_
      refine va_get (D := (dC, dI)) (ci := 1) (v := .ref (ad 12)) (C := RX1) (T := TX1) (N := 11) hx hb hts inX1 hown hK hP 0 rfl rfl 5 (by decide) (hts (.fieldLink RX1 29 "VineWall" "bearings" "[I") (List.mem_of_getElem? (i := 3) rfl)) (fun _ h9 => h9) rfl dX1_trellis_26 ?_
      refine lv_iload_n hx hb dX1_trellis_29 rfl (lv_at hl 1 rfl) ?_
      refine va_iald (cA := cI) hx hb hK hP 12 0 rfl rfl hv8 dX1_trellis_30 ?_
      refine lv_istore_n (lv' := [(3, .int (be p1.toNatClampNeg)), (0, .ref (ad 0)), (1, .int p1), (2, .int p2)]) hx hb dX1_trellis_31 rfl hl (by decide) rfl (fun ls hl => ?_)
      refine lv_aload_n hx hb dX1_trellis_32 rfl (lv_at hl 1 rfl) ?_
      refine va_get (D := (dC, dI)) (ci := 1) (v := .ref (ad 12)) (C := RX1) (T := TX1) (N := 11) hx hb hts inX1 hown hK hP 0 rfl rfl 5 (by decide) (hts (.fieldLink RX1 29 "VineWall" "bearings" "[I") (List.mem_of_getElem? (i := 3) rfl)) (fun _ h9 => h9) rfl dX1_trellis_33 ?_
      refine lv_iload_n hx hb dX1_trellis_36 rfl (lv_at hl 2 rfl) ?_
      refine lv_iload_n hx hb dX1_trellis_37 rfl (lv_at hl 3 rfl) ?_
      refine va_iast (cA := cI) hx hb hK hP hD hS 12 0 rfl rfl hv8 dX1_trellis_38 (fun H locs hP hD hS => ?_)
      have hP : va_P (dC, dI) vwCl (gv_V cI cL ad f0 c0 f1 c1 f2 c2 lo up (upd be p1.toNatClampNeg p2) si pl cu ge fa) H := hP
      have hD : va_D A (gv_V cI cL ad f0 c0 f1 c1 f2 c2 lo up (upd be p1.toNatClampNeg p2) si pl cu ge fa) := hD
      refine lv_iload_n hx hb dX1_trellis_39 rfl (lv_at hl 0 rfl) ?_
      exact kr (be p1.toNatClampNeg) (upd be p1.toNatClampNeg p2) _ _ _ _ _ _ (Nat.le_of_ble_eq_true rfl) (Nat.le_of_ble_eq_true rfl) he hP hS dX1_trellis_40
    · have he := gv_f cd12 he
      exact kt gE_A 49 77 53 "no trellis bears so many leaves" _ _ _ _ _ _ ⟨he, List.mem_cons_of_mem _ List.mem_cons_self⟩ hP hS (hl.1.trans hml.symm) (Nat.le_of_ble_eq_true rfl) (Nat.le_of_ble_eq_true rfl) (by decide) (hts (.classLink RX1 49 "java/lang/IllegalArgumentException") (List.mem_of_getElem? (i := 1) rfl)) (hts (.initialized "java/lang/IllegalArgumentException") (List.mem_of_getElem? (i := 2) rfl)) (by decide) (fun w h => hts w (List.mem_cons_of_mem _ (List.mem_append_left _ (List.mem_append_right _ h)))) gx_b53 gx_o53 dX1_trellis_15 dX1_trellis_18 dX1_trellis_19 dX1_trellis_21 dX1_trellis_24
def spX1_cut (f0 : Nat → Int32) (c0 : Nat → Int32) (f1 : Nat → Int32) (c1 : Nat → Int32) (f2 : Nat → Int32) (c2 : Nat → Int32) (lo : Nat → Int64) (up : Nat → Int64) (be : Nat → Int32) (si : Int32) (pl : Int32) (cu : Int32) (ge : Int32) (fa : Int32) (p1 : Int32) (p2 : Int32) : String ⊕ (Int32 × (Nat → Int32) × (Nat → Int32) × (Int32)) := gx_b (spX1_requireCell p1 p2) (fun _ => gv_b (spX0_hasLeafAt f0 c0 p1 p2) (fun q11 => (if q11 = 0 then .inl gE_S else gv_b (spX1_cutsLeft f0 c0 f1 c1 f2 c2 lo up be si pl cu ge fa) (fun q28 => (if q28 = 0 then .inl gE_S else gv_b2 (spX0_cutLeaf f0 c0 p1 p2) (fun f_q50 h_q50 => gv_b (spX1_cutsLeft f_q50 h_q50 f1 c1 f2 c2 lo up be si pl (cu + 1) ge fa) (fun q64 => .inr (q64, f_q50, h_q50, cu + 1))))))))
theorem spX1_cut_e (f0 : Nat → Int32) (c0 : Nat → Int32) (f1 : Nat → Int32) (c1 : Nat → Int32) (f2 : Nat → Int32) (c2 : Nat → Int32) (lo : Nat → Int64) (up : Nat → Int64) (be : Nat → Int32) (si : Int32) (pl : Int32) (cu : Int32) (ge : Int32) (fa : Int32) (p1 : Int32) (p2 : Int32) : spX1_cut f0 c0 f1 c1 f2 c2 lo up be si pl cu ge fa p1 p2 = gx_b (spX1_requireCell p1 p2) (fun _ => gv_b (spX0_hasLeafAt f0 c0 p1 p2) (fun q11 => (if q11 = 0 then .inl gE_S else gv_b (spX1_cutsLeft f0 c0 f1 c1 f2 c2 lo up be si pl cu ge fa) (fun q28 => (if q28 = 0 then .inl gE_S else gv_b2 (spX0_cutLeaf f0 c0 p1 p2) (fun f_q50 h_q50 => gv_b (spX1_cutsLeft f_q50 h_q50 f1 c1 f2 c2 lo up be si pl (cu + 1) ge fa) (fun q64 => .inr (q64, f_q50, h_q50, cu + 1)))))))) := rfl
set_option maxHeartbeats 4000000 in
set_option maxRecDepth 100000 in
theorem kX1_cut (l : Launch) (hst : l.stackTraces = false) (dC : Nat → ClassId) (dI : Nat → Nat → Nat) (cI cL : ClassId) (ad : Nat → Nat) (f0 : Nat → Int32) (c0 : Nat → Int32) (f1 : Nat → Int32) (c1 : Nat → Int32) (f2 : Nat → Int32) (c2 : Nat → Int32) (lo : Nat → Int64) (up : Nat → Int64) (be : Nat → Int32) (si : Int32) (pl : Int32) (cu : Int32) (ge : Int32) (fa : Int32) (p1 : Int32) (p2 : Int32) : gx_Mi l yX1_cut wsX1_cut 7 2 103 (dC, dI) [(cI, .int), (cL, .long)] [.ref (ad 0), .int p1, .int p2] (gv_V cI cL ad f0 c0 f1 c1 f2 c2 lo up be si pl cu ge fa) (fun (r : Int32) (u : (Nat → Int32) × (Nat → Int32) × (Int32)) => .inr (r, u) = spX1_cut f0 c0 f1 c1 f2 c2 lo up be si pl cu ge fa p1 p2) (fun (u : (Nat → Int32) × (Nat → Int32) × (Int32)) => (gv_V cI cL ad u.1 u.2.1 f1 c1 f2 c2 lo up be si pl u.2.2 ge fa)) (fun E => .inl E = spX1_cut f0 c0 f1 c1 f2 c2 lo up be si pl cu ge fa p1 p2 ∧ E ∈ [gE_I, gE_S]) := by
  refine gx_ofi (cc := cX1_cut) (maxL := 3) hst (Nat.le_of_ble_eq_true rfl) (Nat.le_of_ble_eq_true rfl) (by decide) rfl (Nat.le_of_ble_eq_true rfl) rfl ?_
  intro A p e s m args below meth c Q ls H locs hx hb hml hts hown hP hK hD hN hX hS hl kr kt ko
  have inX0 : ∀ w ∈ wsX00, w ∈ wsX1_cut := (fun _ h => List.mem_cons_of_mem _ (List.mem_append_left _ (List.mem_append_left _ (List.mem_append_right _ h))))
  have inX1 : ∀ w ∈ wsX10, w ∈ wsX1_cut := (fun _ h => List.mem_cons_of_mem _ (List.mem_append_left _ (List.mem_append_left _ (List.mem_append_left _ (List.mem_append_right _ h)))))
  have hl : lv_has ls 3 [(0, .ref (ad 0)), (1, .int p1), (2, .int p2)] := hl
  have he := (spX1_cut_e f0 c0 f1 c1 f2 c2 lo up be si pl cu ge fa p1 p2).symm
  refine lv_iload_n hx hb dX1_cut_0 rfl (lv_at hl 1 rfl) ?_
  refine lv_iload_n hx hb dX1_cut_1 rfl (lv_at hl 2 rfl) ?_
  have hPc : va_P (dC, dI) vwCl ([] : va_W) H := gv_P0
  have hDc : va_D (gv_in ([] : va_W)) ([] : va_W) := gv_D0
  have hXc : gx_T (gv_in ([] : va_W)) s H := hX.to hS.2.1 (gv_inA hD [] rfl)
  refine gx_kv (xp := (fun E => .inl E = spX1_requireCell p1 p2 ∧ E ∈ [gE_I])) (wf := (fun (_ : Unit) => ([] : va_W))) (wc := ([] : va_W)) [] (fun _ => rfl) hP hD hS rfl (vx_runS (As := [.int p1, .int p2]) (rest := []) ⟨hx, hb, hml, hown, hts⟩ (kX1_requireCell l hst dC dI cI cL p1 p2 (gv_in ([] : va_W))) (va_cwS (rm := gx_R 6 1 82) 2 hts gX1_cut_X1_requireCell rfl rfl rfl (by decide +kernel) ⟨Nat.le_of_ble_eq_true rfl, Nat.le_of_ble_eq_true rfl⟩) (gx_preS hK hPc hDc hN hXc) rfl rfl hl.1 rfl (lv_room (Nat.le_of_ble_eq_true rfl)) dX1_cut_2 ⟨Nat.le_of_ble_eq_true rfl, Nat.le_of_ble_eq_true rfl⟩) (fun E ce q9 H locs hw hP hD hS hc1 hc2 hc3 => ko E ce q9 _ _ _ _ _ _ _ (Nat.le_of_ble_eq_true rfl) (Nat.le_of_ble_eq_true rfl) ⟨gx_l hw.1 he, by rw [List.mem_singleton.mp hw.2]; exact List.mem_cons_self⟩ hP hS hc1 hc2 hc3) (fun u H locs hw hP hD hS => ?_)
  have he := gx_r hw he
  have hP : va_P (dC, dI) vwCl (gv_V cI cL ad f0 c0 f1 c1 f2 c2 lo up be si pl cu ge fa) H := hP
  have hD : va_D A (gv_V cI cL ad f0 c0 f1 c1 f2 c2 lo up be si pl cu ge fa) := hD
  refine lv_aload_n hx hb dX1_cut_5 rfl (lv_at hl 0 rfl) ?_
  refine va_get (D := (dC, dI)) (ci := 1) (v := .ref (ad 1)) (C := RX1) (T := TX1) (N := 11) hx hb hts inX1 hown hK hP 0 rfl rfl 0 (by decide) (hts (.fieldLink RX1 10 "VineWall" "wall" "LVineWall$Wall;") (List.mem_of_getElem? (i := 3) rfl)) (fun _ h9 => h9) rfl dX1_cut_6 ?_
  refine lv_iload_n hx hb dX1_cut_9 rfl (lv_at hl 1 rfl) ?_
  refine lv_iload_n hx hb dX1_cut_10 rfl (lv_at hl 2 rfl) ?_
  have hPc : va_P (dC, dI) vwCl (gv_W cI (ad 1) (ad 2) (ad 3) f0 c0) H := gv_sub [1, 2, 3] hP rfl
  have hDc : va_D (gv_in (gv_W cI (ad 1) (ad 2) (ad 3) f0 c0)) (gv_W cI (ad 1) (ad 2) (ad 3) f0 c0) := gv_D hD [1, 2, 3] (by decide) rfl
  refine gv_ki (wf := (fun (_ : Unit) => (gv_W cI (ad 1) (ad 2) (ad 3) f0 c0))) (wc := (gv_W cI (ad 1) (ad 2) (ad 3) f0 c0)) [1, 2, 3] (fun _ => rfl) hP hD hS rfl rfl (va_runV (As := [.int p1, .int p2]) (rest := []) ⟨hx, hb, hml, hown, hts⟩ (kX0_hasLeafAt l dC dI cI cL (ad 1) (ad 2) (ad 3) f0 c0 p1 p2 (gv_in (gv_W cI (ad 1) (ad 2) (ad 3) f0 c0))) (cwV (rm := gv_R 1 21) 2 hts gX1_cut_X0_hasLeafAt rfl rfl rfl (by decide +kernel) ⟨Nat.le_of_ble_eq_true rfl, Nat.le_of_ble_eq_true rfl⟩) (gv_preV (ci := 0) hK hPc hDc hN rfl rfl) rfl rfl hl.1 rfl (lv_room (Nat.le_of_ble_eq_true rfl)) dX1_cut_11 ⟨Nat.le_of_ble_eq_true rfl, Nat.le_of_ble_eq_true rfl⟩) (fun q11 u H locs hw hP hD hS => ?_)
  have he := gv_q hw he
  have hP : va_P (dC, dI) vwCl (gv_V cI cL ad f0 c0 f1 c1 f2 c2 lo up be si pl cu ge fa) H := hP
  have hD : va_D A (gv_V cI cL ad f0 c0 f1 c1 f2 c2 lo up be si pl cu ge fa) := hD
  refine lv_if_ne (tgt := 27) hx hb dX1_cut_14 (by decide) (fun cd14 => ?_) (fun cd14 => ?_)
  · have he := gv_f cd14 he
    refine lv_aload_n hx hb dX1_cut_27 rfl (lv_at hl 0 rfl) ?_
    have hPc : va_P (dC, dI) vwCl (gv_V cI cL ad f0 c0 f1 c1 f2 c2 lo up be si pl cu ge fa) H := gv_sub [0, 1, 2, 3, 4, 5, 6, 7, 8, 9, 10, 11, 12] hP rfl
    have hDc : va_D (gv_in (gv_V cI cL ad f0 c0 f1 c1 f2 c2 lo up be si pl cu ge fa)) (gv_V cI cL ad f0 c0 f1 c1 f2 c2 lo up be si pl cu ge fa) := gv_D hD [0, 1, 2, 3, 4, 5, 6, 7, 8, 9, 10, 11, 12] (by decide) rfl
    refine gv_ki (wf := (fun (_ : Unit) => (gv_V cI cL ad f0 c0 f1 c1 f2 c2 lo up be si pl cu ge fa))) (wc := (gv_V cI cL ad f0 c0 f1 c1 f2 c2 lo up be si pl cu ge fa)) [0, 1, 2, 3, 4, 5, 6, 7, 8, 9, 10, 11, 12] (fun _ => rfl) hP hD hS rfl rfl (va_runV (As := []) (rest := []) ⟨hx, hb, hml, hown, hts⟩ (kX1_cutsLeft l dC dI cI cL ad f0 c0 f1 c1 f2 c2 lo up be si pl cu ge fa (gv_in (gv_V cI cL ad f0 c0 f1 c1 f2 c2 lo up be si pl cu ge fa))) (cwV (rm := gv_R 0 0) 0 hts gX1_cut_X1_cutsLeft rfl rfl rfl (by decide +kernel) ⟨Nat.le_of_ble_eq_true rfl, Nat.le_of_ble_eq_true rfl⟩) (gv_preV (ci := 1) hK hPc hDc hN rfl rfl) rfl rfl hl.1 rfl (lv_room (Nat.le_of_ble_eq_true rfl)) dX1_cut_28 ⟨Nat.le_of_ble_eq_true rfl, Nat.le_of_ble_eq_true rfl⟩) (fun q28 u H locs hw hP hD hS => ?_)
    have he := gv_q hw he
    have hP : va_P (dC, dI) vwCl (gv_V cI cL ad f0 c0 f1 c1 f2 c2 lo up be si pl cu ge fa) H := hP
    have hD : va_D A (gv_V cI cL ad f0 c0 f1 c1 f2 c2 lo up be si pl cu ge fa) := hD
    refine lv_if_ne (tgt := 44) hx hb dX1_cut_31 (by decide) (fun cd31 => ?_) (fun cd31 => ?_)
    · have he := gv_f cd31 he
      refine lv_aload_n hx hb dX1_cut_44 rfl (lv_at hl 0 rfl) ?_
      refine va_get (D := (dC, dI)) (ci := 1) (v := .ref (ad 1)) (C := RX1) (T := TX1) (N := 11) hx hb hts inX1 hown hK hP 0 rfl rfl 0 (by decide) (hts (.fieldLink RX1 10 "VineWall" "wall" "LVineWall$Wall;") (List.mem_of_getElem? (i := 3) rfl)) (fun _ h9 => h9) rfl dX1_cut_45 ?_
      refine lv_iload_n hx hb dX1_cut_48 rfl (lv_at hl 1 rfl) ?_
      refine lv_iload_n hx hb dX1_cut_49 rfl (lv_at hl 2 rfl) ?_
      have hPc : va_P (dC, dI) vwCl (gv_W cI (ad 1) (ad 2) (ad 3) f0 c0) H := gv_sub [1, 2, 3] hP rfl
      have hDc : va_D (gv_in (gv_W cI (ad 1) (ad 2) (ad 3) f0 c0)) (gv_W cI (ad 1) (ad 2) (ad 3) f0 c0) := gv_D hD [1, 2, 3] (by decide) rfl
      refine gv_kv (wf := (fun (u : (Nat → Int32) × (Nat → Int32)) => (gv_W cI (ad 1) (ad 2) (ad 3) u.1 u.2))) (wc := (gv_W cI (ad 1) (ad 2) (ad 3) f0 c0)) [1, 2, 3] (fun _ => rfl) hP hD hS rfl rfl (va_runV (As := [.int p1, .int p2]) (rest := []) ⟨hx, hb, hml, hown, hts⟩ (kX0_cutLeaf l dC dI cI cL (ad 1) (ad 2) (ad 3) f0 c0 p1 p2 (gv_in (gv_W cI (ad 1) (ad 2) (ad 3) f0 c0))) (cwV (rm := gv_R 2 43) 2 hts gX1_cut_X0_cutLeaf rfl rfl rfl (by decide +kernel) ⟨Nat.le_of_ble_eq_true rfl, Nat.le_of_ble_eq_true rfl⟩) (gv_preV (ci := 0) hK hPc hDc hN rfl rfl) rfl rfl hl.1 rfl (lv_room (Nat.le_of_ble_eq_true rfl)) dX1_cut_50 ⟨Nat.le_of_ble_eq_true rfl, Nat.le_of_ble_eq_true rfl⟩) (fun u H locs hw hP hD hS => ?_)
      obtain ⟨f_q50, h_q50⟩ := u
      have he := gv_q2 hw he
      have hP : va_P (dC, dI) vwCl (gv_V cI cL ad f_q50 h_q50 f1 c1 f2 c2 lo up be si pl cu ge fa) H := hP
      have hD : va_D A (gv_V cI cL ad f_q50 h_q50 f1 c1 f2 c2 lo up be si pl cu ge fa) := hD
      refine lv_aload_n hx hb dX1_cut_53 rfl (lv_at hl 0 rfl) ?_
      refine lv_dup hx hb dX1_cut_54 rfl ?_
      refine va_get (D := (dC, dI)) (ci := 1) (v := .int cu) (C := RX1) (T := TX1) (N := 11) hx hb hts inX1 hown hK hP 0 rfl rfl 8 (by decide) (hts (.fieldLink RX1 40 "VineWall" "cutsDone" "I") (List.mem_of_getElem? (i := 4) rfl)) (fun _ h9 => h9) rfl dX1_cut_55 ?_
      refine lv_iconst (v := 1) hx hb dX1_cut_58 (by decide) ?_
      refine lv_iadd hx hb dX1_cut_59 ?_
      refine va_put (D := (dC, dI)) (ci := 1) (v := .int (cu + 1)) (ty := .int) (C := RX1) (T := TX1) (N := 11) hx hb hts inX1 tyX1 tyX1_ok nmX1 hown hK hP hD hS 0 rfl rfl 8 (by decide) (hts (.fieldLink RX1 40 "VineWall" "cutsDone" "I") (List.mem_of_getElem? (i := 4) rfl)) (fun _ h9 => h9) rfl (by decide +kernel) rfl rfl (Nat.le_of_ble_eq_true rfl) dX1_cut_60 (fun H locs hP hD hS => ?_)
      have hP : va_P (dC, dI) vwCl (gv_V cI cL ad f_q50 h_q50 f1 c1 f2 c2 lo up be si pl (cu + 1) ge fa) H := hP
      have hD : va_D A (gv_V cI cL ad f_q50 h_q50 f1 c1 f2 c2 lo up be si pl (cu + 1) ge fa) := hD
      refine lv_aload_n hx hb dX1_cut_63 rfl (lv_at hl 0 rfl) ?_
      have hPc : va_P (dC, dI) vwCl (gv_V cI cL ad f_q50 h_q50 f1 c1 f2 c2 lo up be si pl (cu + 1) ge fa) H := gv_sub [0, 1, 2, 3, 4, 5, 6, 7, 8, 9, 10, 11, 12] hP rfl
      have hDc : va_D (gv_in (gv_V cI cL ad f_q50 h_q50 f1 c1 f2 c2 lo up be si pl (cu + 1) ge fa)) (gv_V cI cL ad f_q50 h_q50 f1 c1 f2 c2 lo up be si pl (cu + 1) ge fa) := gv_D hD [0, 1, 2, 3, 4, 5, 6, 7, 8, 9, 10, 11, 12] (by decide) rfl
      refine gv_ki (wf := (fun (_ : Unit) => (gv_V cI cL ad f_q50 h_q50 f1 c1 f2 c2 lo up be si pl (cu + 1) ge fa))) (wc := (gv_V cI cL ad f_q50 h_q50 f1 c1 f2 c2 lo up be si pl (cu + 1) ge fa)) [0, 1, 2, 3, 4, 5, 6, 7, 8, 9, 10, 11, 12] (fun _ => rfl) hP hD hS rfl rfl (va_runV (As := []) (rest := []) ⟨hx, hb, hml, hown, hts⟩ (kX1_cutsLeft l dC dI cI cL ad f_q50 h_q50 f1 c1 f2 c2 lo up be si pl (cu + 1) ge fa (gv_in (gv_V cI cL ad f_q50 h_q50 f1 c1 f2 c2 lo up be si pl (cu + 1) ge fa))) (cwV (rm := gv_R 0 0) 0 hts gX1_cut_X1_cutsLeft rfl rfl rfl (by decide +kernel) ⟨Nat.le_of_ble_eq_true rfl, Nat.le_of_ble_eq_true rfl⟩) (gv_preV (ci := 1) hK hPc hDc hN rfl rfl) rfl rfl hl.1 rfl (lv_room (Nat.le_of_ble_eq_true rfl)) dX1_cut_64 ⟨Nat.le_of_ble_eq_true rfl, Nat.le_of_ble_eq_true rfl⟩) (fun q64 u H locs hw hP hD hS => ?_)
      have he := gv_q hw he
      have hP : va_P (dC, dI) vwCl (gv_V cI cL ad f_q50 h_q50 f1 c1 f2 c2 lo up be si pl (cu + 1) ge fa) H := hP
      have hD : va_D A (gv_V cI cL ad f_q50 h_q50 f1 c1 f2 c2 lo up be si pl (cu + 1) ge fa) := hD
      exact kr q64 (f_q50, h_q50, cu + 1) _ _ _ _ _ _ (Nat.le_of_ble_eq_true rfl) (Nat.le_of_ble_eq_true rfl) he hP hS dX1_cut_67
    · have he := gv_t cd31 he
      exact kt gE_S 56 91 60 "no cut is left" _ _ _ _ _ _ ⟨he, List.mem_cons_of_mem _ List.mem_cons_self⟩ hP hS (hl.1.trans hml.symm) (Nat.le_of_ble_eq_true rfl) (Nat.le_of_ble_eq_true rfl) (by decide) (hts (.classLink RX1 56 "java/lang/IllegalStateException") (List.mem_of_getElem? (i := 1) rfl)) (hts (.initialized "java/lang/IllegalStateException") (List.mem_of_getElem? (i := 2) rfl)) (by decide) (fun w h => hts w (List.mem_cons_of_mem _ (List.mem_append_left _ (List.mem_append_right _ h)))) gx_b60 gx_o60 dX1_cut_34 dX1_cut_37 dX1_cut_38 dX1_cut_40 dX1_cut_43
  · have he := gv_t cd14 he
    exact kt gE_S 56 85 60 "there is no leaf" _ _ _ _ _ _ ⟨he, List.mem_cons_of_mem _ List.mem_cons_self⟩ hP hS (hl.1.trans hml.symm) (Nat.le_of_ble_eq_true rfl) (Nat.le_of_ble_eq_true rfl) (by decide) (hts (.classLink RX1 56 "java/lang/IllegalStateException") (List.mem_of_getElem? (i := 1) rfl)) (hts (.initialized "java/lang/IllegalStateException") (List.mem_of_getElem? (i := 2) rfl)) (by decide) (fun w h => hts w (List.mem_cons_of_mem _ (List.mem_append_left _ (List.mem_append_right _ h)))) gx_b60 gx_o60 dX1_cut_17 dX1_cut_20 dX1_cut_21 dX1_cut_23 dX1_cut_26
def spX1_grow (f0 : Nat → Int32) (c0 : Nat → Int32) (f1 : Nat → Int32) (c1 : Nat → Int32) (f2 : Nat → Int32) (c2 : Nat → Int32) (lo : Nat → Int64) (up : Nat → Int64) (be : Nat → Int32) (si : Int32) (pl : Int32) (cu : Int32) (ge : Int32) (fa : Int32) : String ⊕ (Int32 × (Nat → Int32) × (Nat → Int32) × (Nat → Int32) × (Nat → Int32) × (Int32) × (Int32) × (Int32)) := (if ge < 60 then gv_b (spX1_leaves f0 c0 f1 c1 f2 c2 lo up be si pl cu ge fa) (fun q20 => gv_b3 (spX0_becomeNextOf f2 c2 f0 c0 be si) (fun q45 f_q45 h_q45 => gv_b2 (spX0_copyFrom f0 c0 f_q45 h_q45) (fun f_q60 h_q60 => gv_b (spX1_leaves f_q60 h_q60 f1 c1 f_q45 h_q45 lo up be si pl 0 (ge + 1) (fa + q45)) (fun q79 => .inr (q79 - q20, f_q60, h_q60, f_q45, h_q45, 0, ge + 1, fa + q45))))) else .inl gE_S)
theorem spX1_grow_e (f0 : Nat → Int32) (c0 : Nat → Int32) (f1 : Nat → Int32) (c1 : Nat → Int32) (f2 : Nat → Int32) (c2 : Nat → Int32) (lo : Nat → Int64) (up : Nat → Int64) (be : Nat → Int32) (si : Int32) (pl : Int32) (cu : Int32) (ge : Int32) (fa : Int32) : spX1_grow f0 c0 f1 c1 f2 c2 lo up be si pl cu ge fa = (if ge < 60 then gv_b (spX1_leaves f0 c0 f1 c1 f2 c2 lo up be si pl cu ge fa) (fun q20 => gv_b3 (spX0_becomeNextOf f2 c2 f0 c0 be si) (fun q45 f_q45 h_q45 => gv_b2 (spX0_copyFrom f0 c0 f_q45 h_q45) (fun f_q60 h_q60 => gv_b (spX1_leaves f_q60 h_q60 f1 c1 f_q45 h_q45 lo up be si pl 0 (ge + 1) (fa + q45)) (fun q79 => .inr (q79 - q20, f_q60, h_q60, f_q45, h_q45, 0, ge + 1, fa + q45))))) else .inl gE_S) := rfl
set_option maxHeartbeats 4000000 in
set_option maxRecDepth 100000 in
theorem kX1_grow (l : Launch) (hst : l.stackTraces = false) (dC : Nat → ClassId) (dI : Nat → Nat → Nat) (cI cL : ClassId) (ad : Nat → Nat) (f0 : Nat → Int32) (c0 : Nat → Int32) (f1 : Nat → Int32) (c1 : Nat → Int32) (f2 : Nat → Int32) (c2 : Nat → Int32) (lo : Nat → Int64) (up : Nat → Int64) (be : Nat → Int32) (si : Int32) (pl : Int32) (cu : Int32) (ge : Int32) (fa : Int32) : gx_Mi l yX1_grow wsX1_grow 6 1 124 (dC, dI) [(cI, .int), (cL, .long)] [.ref (ad 0)] (gv_V cI cL ad f0 c0 f1 c1 f2 c2 lo up be si pl cu ge fa) (fun (r : Int32) (u : (Nat → Int32) × (Nat → Int32) × (Nat → Int32) × (Nat → Int32) × (Int32) × (Int32) × (Int32)) => .inr (r, u) = spX1_grow f0 c0 f1 c1 f2 c2 lo up be si pl cu ge fa) (fun (u : (Nat → Int32) × (Nat → Int32) × (Nat → Int32) × (Nat → Int32) × (Int32) × (Int32) × (Int32)) => (gv_V cI cL ad u.1 u.2.1 f1 c1 u.2.2.1 u.2.2.2.1 lo up be si pl u.2.2.2.2.1 u.2.2.2.2.2.1 u.2.2.2.2.2.2)) (fun E => .inl E = spX1_grow f0 c0 f1 c1 f2 c2 lo up be si pl cu ge fa ∧ E ∈ [gE_S]) := by
  refine gx_ofi (cc := cX1_grow) (maxL := 2) hst (Nat.le_of_ble_eq_true rfl) (Nat.le_of_ble_eq_true rfl) (by decide) rfl (Nat.le_of_ble_eq_true rfl) rfl ?_
  intro A p e s m args below meth c Q ls H locs hx hb hml hts hown hP hK hD hN hX hS hl kr kt ko
  have inX0 : ∀ w ∈ wsX00, w ∈ wsX1_grow := (fun _ h => List.mem_cons_of_mem _ (List.mem_append_left _ (List.mem_append_right _ h)))
  have inX1 : ∀ w ∈ wsX10, w ∈ wsX1_grow := (fun _ h => List.mem_cons_of_mem _ (List.mem_append_left _ (List.mem_append_left _ (List.mem_append_right _ h))))
  have hl : lv_has ls 2 [(0, .ref (ad 0))] := hl
  have he := (spX1_grow_e f0 c0 f1 c1 f2 c2 lo up be si pl cu ge fa).symm
  refine lv_aload_n hx hb dX1_grow_0 rfl (lv_at hl 0 rfl) ?_
  refine va_get (D := (dC, dI)) (ci := 1) (v := .int ge) (C := RX1) (T := TX1) (N := 11) hx hb hts inX1 hown hK hP 0 rfl rfl 9 (by decide) (hts (.fieldLink RX1 43 "VineWall" "generationsGone" "I") (List.mem_of_getElem? (i := 3) rfl)) (fun _ h9 => h9) rfl dX1_grow_1 ?_
  refine lv_bipush (v := 60) hx hb dX1_grow_4 (by decide) ?_
  refine lv_icmp_lt (tgt := 19) hx hb dX1_grow_6 (by decide) (fun cd6 => ?_) (fun cd6 => ?_)
  · have he := gv_t cd6 he
    refine lv_aload_n hx hb dX1_grow_19 rfl (lv_at hl 0 rfl) ?_
    have hPc : va_P (dC, dI) vwCl (gv_V cI cL ad f0 c0 f1 c1 f2 c2 lo up be si pl cu ge fa) H := gv_sub [0, 1, 2, 3, 4, 5, 6, 7, 8, 9, 10, 11, 12] hP rfl
    have hDc : va_D (gv_in (gv_V cI cL ad f0 c0 f1 c1 f2 c2 lo up be si pl cu ge fa)) (gv_V cI cL ad f0 c0 f1 c1 f2 c2 lo up be si pl cu ge fa) := gv_D hD [0, 1, 2, 3, 4, 5, 6, 7, 8, 9, 10, 11, 12] (by decide) rfl
    refine gv_ki (wf := (fun (_ : Unit) => (gv_V cI cL ad f0 c0 f1 c1 f2 c2 lo up be si pl cu ge fa))) (wc := (gv_V cI cL ad f0 c0 f1 c1 f2 c2 lo up be si pl cu ge fa)) [0, 1, 2, 3, 4, 5, 6, 7, 8, 9, 10, 11, 12] (fun _ => rfl) hP hD hS rfl rfl (va_runV (As := []) (rest := []) ⟨hx, hb, hml, hown, hts⟩ (kX1_leaves l dC dI cI cL ad f0 c0 f1 c1 f2 c2 lo up be si pl cu ge fa (gv_in (gv_V cI cL ad f0 c0 f1 c1 f2 c2 lo up be si pl cu ge fa))) (cwV (rm := gv_R 2 42) 0 hts gX1_grow_X1_leaves rfl rfl rfl (by decide +kernel) ⟨Nat.le_of_ble_eq_true rfl, Nat.le_of_ble_eq_true rfl⟩) (gv_preV (ci := 1) hK hPc hDc hN rfl rfl) rfl rfl hl.1 rfl (lv_room (Nat.le_of_ble_eq_true rfl)) dX1_grow_20 ⟨Nat.le_of_ble_eq_true rfl, Nat.le_of_ble_eq_true rfl⟩) (fun q20 u H locs hw hP hD hS => ?_)
    have he := gv_q hw he
    have hP : va_P (dC, dI) vwCl (gv_V cI cL ad f0 c0 f1 c1 f2 c2 lo up be si pl cu ge fa) H := hP
    have hD : va_D A (gv_V cI cL ad f0 c0 f1 c1 f2 c2 lo up be si pl cu ge fa) := hD
    refine lv_istore_n (lv' := [(1, .int q20), (0, .ref (ad 0))]) hx hb dX1_grow_23 rfl hl (by decide) rfl (fun ls hl => ?_)
    refine lv_aload_n hx hb dX1_grow_24 rfl (lv_at hl 1 rfl) ?_
    refine lv_dup hx hb dX1_grow_25 rfl ?_
    refine va_get (D := (dC, dI)) (ci := 1) (v := .int fa) (C := RX1) (T := TX1) (N := 11) hx hb hts inX1 hown hK hP 0 rfl rfl 10 (by decide) (hts (.fieldLink RX1 46 "VineWall" "fallen" "I") (List.mem_of_getElem? (i := 4) rfl)) (fun _ h9 => h9) rfl dX1_grow_26 ?_
    refine lv_aload_n hx hb dX1_grow_29 rfl (lv_at hl 1 rfl) ?_
    refine va_get (D := (dC, dI)) (ci := 1) (v := .ref (ad 7)) (C := RX1) (T := TX1) (N := 11) hx hb hts inX1 hown hK hP 0 rfl rfl 2 (by decide) (hts (.fieldLink RX1 19 "VineWall" "behind" "LVineWall$Wall;") (List.mem_of_getElem? (i := 5) rfl)) (fun _ h9 => h9) rfl dX1_grow_30 ?_
    refine lv_aload_n hx hb dX1_grow_33 rfl (lv_at hl 1 rfl) ?_
    refine va_get (D := (dC, dI)) (ci := 1) (v := .ref (ad 1)) (C := RX1) (T := TX1) (N := 11) hx hb hts inX1 hown hK hP 0 rfl rfl 0 (by decide) (hts (.fieldLink RX1 10 "VineWall" "wall" "LVineWall$Wall;") (List.mem_of_getElem? (i := 6) rfl)) (fun _ h9 => h9) rfl dX1_grow_34 ?_
    refine lv_aload_n hx hb dX1_grow_37 rfl (lv_at hl 1 rfl) ?_
    refine va_get (D := (dC, dI)) (ci := 1) (v := .int si) (C := RX1) (T := TX1) (N := 11) hx hb hts inX1 hown hK hP 0 rfl rfl 6 (by decide) (hts (.fieldLink RX1 33 "VineWall" "beyond" "I") (List.mem_of_getElem? (i := 7) rfl)) (fun _ h9 => h9) rfl dX1_grow_38 ?_
    refine lv_aload_n hx hb dX1_grow_41 rfl (lv_at hl 1 rfl) ?_
    refine va_get (D := (dC, dI)) (ci := 1) (v := .ref (ad 12)) (C := RX1) (T := TX1) (N := 11) hx hb hts inX1 hown hK hP 0 rfl rfl 5 (by decide) (hts (.fieldLink RX1 29 "VineWall" "bearings" "[I") (List.mem_of_getElem? (i := 8) rfl)) (fun _ h9 => h9) rfl dX1_grow_42 ?_
    have hPc : va_P (dC, dI) vwCl (gv_WWA cI (ad 7) (ad 8) (ad 9) (ad 1) (ad 2) (ad 3) (ad 12) f2 c2 f0 c0 be) H := gv_sub [7, 8, 9, 1, 2, 3, 12] hP rfl
    have hDc : va_D (gv_in (gv_WWA cI (ad 7) (ad 8) (ad 9) (ad 1) (ad 2) (ad 3) (ad 12) f2 c2 f0 c0 be)) (gv_WWA cI (ad 7) (ad 8) (ad 9) (ad 1) (ad 2) (ad 3) (ad 12) f2 c2 f0 c0 be) := gv_D hD [7, 8, 9, 1, 2, 3, 12] (by decide) rfl
    refine gv_ki (wf := (fun (u : (Nat → Int32) × (Nat → Int32)) => (gv_WWA cI (ad 7) (ad 8) (ad 9) (ad 1) (ad 2) (ad 3) (ad 12) u.1 u.2 f0 c0 be))) (wc := (gv_WWA cI (ad 7) (ad 8) (ad 9) (ad 1) (ad 2) (ad 3) (ad 12) f2 c2 f0 c0 be)) [7, 8, 9, 1, 2, 3, 12] (fun _ => rfl) hP hD hS rfl rfl (va_runV (As := [.ref (ad 1), .int si, .ref (ad 12)]) (rest := [.int fa, .ref (ad 0)]) ⟨hx, hb, hml, hown, hts⟩ (kX0_becomeNextOf l dC dI cI cL (ad 7) (ad 8) (ad 9) (ad 1) (ad 2) (ad 3) (ad 12) f2 c2 f0 c0 be si (gv_in (gv_WWA cI (ad 7) (ad 8) (ad 9) (ad 1) (ad 2) (ad 3) (ad 12) f2 c2 f0 c0 be))) (cwV (rm := gv_R 4 99) 3 hts gX1_grow_X0_becomeNextOf rfl rfl rfl (by decide +kernel) ⟨Nat.le_of_ble_eq_true rfl, Nat.le_of_ble_eq_true rfl⟩) (gv_preV (ci := 0) hK hPc hDc hN rfl rfl) rfl rfl hl.1 rfl (lv_room (Nat.le_of_ble_eq_true rfl)) dX1_grow_45 ⟨Nat.le_of_ble_eq_true rfl, Nat.le_of_ble_eq_true rfl⟩) (fun q45 u H locs hw hP hD hS => ?_)
    obtain ⟨f_q45, h_q45⟩ := u
    have he := gv_q3 hw he
    have hP : va_P (dC, dI) vwCl (gv_V cI cL ad f0 c0 f1 c1 f_q45 h_q45 lo up be si pl cu ge fa) H := hP
    have hD : va_D A (gv_V cI cL ad f0 c0 f1 c1 f_q45 h_q45 lo up be si pl cu ge fa) := hD
    refine lv_iadd hx hb dX1_grow_48 ?_
    refine va_put (D := (dC, dI)) (ci := 1) (v := .int (fa + q45)) (ty := .int) (C := RX1) (T := TX1) (N := 11) hx hb hts inX1 tyX1 tyX1_ok nmX1 hown hK hP hD hS 0 rfl rfl 10 (by decide) (hts (.fieldLink RX1 46 "VineWall" "fallen" "I") (List.mem_of_getElem? (i := 4) rfl)) (fun _ h9 => h9) rfl (by decide +kernel) rfl rfl (Nat.le_of_ble_eq_true rfl) dX1_grow_49 (fun H locs hP hD hS => ?_)
    have hP : va_P (dC, dI) vwCl (gv_V cI cL ad f0 c0 f1 c1 f_q45 h_q45 lo up be si pl cu ge (fa + q45)) H := hP
    have hD : va_D A (gv_V cI cL ad f0 c0 f1 c1 f_q45 h_q45 lo up be si pl cu ge (fa + q45)) := hD
    refine lv_aload_n hx hb dX1_grow_52 rfl (lv_at hl 1 rfl) ?_
    refine va_get (D := (dC, dI)) (ci := 1) (v := .ref (ad 1)) (C := RX1) (T := TX1) (N := 11) hx hb hts inX1 hown hK hP 0 rfl rfl 0 (by decide) (hts (.fieldLink RX1 10 "VineWall" "wall" "LVineWall$Wall;") (List.mem_of_getElem? (i := 6) rfl)) (fun _ h9 => h9) rfl dX1_grow_53 ?_
    refine lv_aload_n hx hb dX1_grow_56 rfl (lv_at hl 1 rfl) ?_
    refine va_get (D := (dC, dI)) (ci := 1) (v := .ref (ad 7)) (C := RX1) (T := TX1) (N := 11) hx hb hts inX1 hown hK hP 0 rfl rfl 2 (by decide) (hts (.fieldLink RX1 19 "VineWall" "behind" "LVineWall$Wall;") (List.mem_of_getElem? (i := 5) rfl)) (fun _ h9 => h9) rfl dX1_grow_57 ?_
    have hPc : va_P (dC, dI) vwCl (gv_WW cI (ad 1) (ad 2) (ad 3) (ad 7) (ad 8) (ad 9) f0 c0 f_q45 h_q45) H := gv_sub [1, 2, 3, 7, 8, 9] hP rfl
    have hDc : va_D (gv_in (gv_WW cI (ad 1) (ad 2) (ad 3) (ad 7) (ad 8) (ad 9) f0 c0 f_q45 h_q45)) (gv_WW cI (ad 1) (ad 2) (ad 3) (ad 7) (ad 8) (ad 9) f0 c0 f_q45 h_q45) := gv_D hD [1, 2, 3, 7, 8, 9] (by decide) rfl
    refine gv_kv (wf := (fun (u : (Nat → Int32) × (Nat → Int32)) => (gv_WW cI (ad 1) (ad 2) (ad 3) (ad 7) (ad 8) (ad 9) u.1 u.2 f_q45 h_q45))) (wc := (gv_WW cI (ad 1) (ad 2) (ad 3) (ad 7) (ad 8) (ad 9) f0 c0 f_q45 h_q45)) [1, 2, 3, 7, 8, 9] (fun _ => rfl) hP hD hS rfl rfl (va_runV (As := [.ref (ad 7)]) (rest := []) ⟨hx, hb, hml, hown, hts⟩ (kX0_copyFrom l dC dI cI cL (ad 1) (ad 2) (ad 3) (ad 7) (ad 8) (ad 9) f0 c0 f_q45 h_q45 (gv_in (gv_WW cI (ad 1) (ad 2) (ad 3) (ad 7) (ad 8) (ad 9) f0 c0 f_q45 h_q45))) (cwV (rm := gv_R 0 0) 1 hts gX1_grow_X0_copyFrom rfl rfl rfl (by decide +kernel) ⟨Nat.le_of_ble_eq_true rfl, Nat.le_of_ble_eq_true rfl⟩) (gv_preV (ci := 0) hK hPc hDc hN rfl rfl) rfl rfl hl.1 rfl (lv_room (Nat.le_of_ble_eq_true rfl)) dX1_grow_60 ⟨Nat.le_of_ble_eq_true rfl, Nat.le_of_ble_eq_true rfl⟩) (fun u H locs hw hP hD hS => ?_)
    obtain ⟨f_q60, h_q60⟩ := u
    have he := gv_q2 hw he
    have hP : va_P (dC, dI) vwCl (gv_V cI cL ad f_q60 h_q60 f1 c1 f_q45 h_q45 lo up be si pl cu ge (fa + q45)) H := hP
    have hD : va_D A (gv_V cI cL ad f_q60 h_q60 f1 c1 f_q45 h_q45 lo up be si pl cu ge (fa + q45)) := hD
    refine lv_aload_n hx hb dX1_grow_63 rfl (lv_at hl 1 rfl) ?_
    refine lv_dup hx hb dX1_grow_64 rfl ?_
    refine va_get (D := (dC, dI)) (ci := 1) (v := .int ge) (C := RX1) (T := TX1) (N := 11) hx hb hts inX1 hown hK hP 0 rfl rfl 9 (by decide) (hts (.fieldLink RX1 43 "VineWall" "generationsGone" "I") (List.mem_of_getElem? (i := 3) rfl)) (fun _ h9 => h9) rfl dX1_grow_65 ?_
    refine lv_iconst (v := 1) hx hb dX1_grow_68 (by decide) ?_
    refine lv_iadd hx hb dX1_grow_69 ?_
    refine va_put (D := (dC, dI)) (ci := 1) (v := .int (ge + 1)) (ty := .int) (C := RX1) (T := TX1) (N := 11) hx hb hts inX1 tyX1 tyX1_ok nmX1 hown hK hP hD hS 0 rfl rfl 9 (by decide) (hts (.fieldLink RX1 43 "VineWall" "generationsGone" "I") (List.mem_of_getElem? (i := 3) rfl)) (fun _ h9 => h9) rfl (by decide +kernel) rfl rfl (Nat.le_of_ble_eq_true rfl) dX1_grow_70 (fun H locs hP hD hS => ?_)
    have hP : va_P (dC, dI) vwCl (gv_V cI cL ad f_q60 h_q60 f1 c1 f_q45 h_q45 lo up be si pl cu (ge + 1) (fa + q45)) H := hP
    have hD : va_D A (gv_V cI cL ad f_q60 h_q60 f1 c1 f_q45 h_q45 lo up be si pl cu (ge + 1) (fa + q45)) := hD
    refine lv_aload_n hx hb dX1_grow_73 rfl (lv_at hl 1 rfl) ?_
    refine lv_iconst (v := 0) hx hb dX1_grow_74 (by decide) ?_
    refine va_put (D := (dC, dI)) (ci := 1) (v := .int 0) (ty := .int) (C := RX1) (T := TX1) (N := 11) hx hb hts inX1 tyX1 tyX1_ok nmX1 hown hK hP hD hS 0 rfl rfl 8 (by decide) (hts (.fieldLink RX1 40 "VineWall" "cutsDone" "I") (List.mem_of_getElem? (i := 9) rfl)) (fun _ h9 => h9) rfl (by decide +kernel) rfl rfl (Nat.le_of_ble_eq_true rfl) dX1_grow_75 (fun H locs hP hD hS => ?_)
    have hP : va_P (dC, dI) vwCl (gv_V cI cL ad f_q60 h_q60 f1 c1 f_q45 h_q45 lo up be si pl 0 (ge + 1) (fa + q45)) H := hP
    have hD : va_D A (gv_V cI cL ad f_q60 h_q60 f1 c1 f_q45 h_q45 lo up be si pl 0 (ge + 1) (fa + q45)) := hD
    refine lv_aload_n hx hb dX1_grow_78 rfl (lv_at hl 1 rfl) ?_
    have hPc : va_P (dC, dI) vwCl (gv_V cI cL ad f_q60 h_q60 f1 c1 f_q45 h_q45 lo up be si pl 0 (ge + 1) (fa + q45)) H := gv_sub [0, 1, 2, 3, 4, 5, 6, 7, 8, 9, 10, 11, 12] hP rfl
    have hDc : va_D (gv_in (gv_V cI cL ad f_q60 h_q60 f1 c1 f_q45 h_q45 lo up be si pl 0 (ge + 1) (fa + q45))) (gv_V cI cL ad f_q60 h_q60 f1 c1 f_q45 h_q45 lo up be si pl 0 (ge + 1) (fa + q45)) := gv_D hD [0, 1, 2, 3, 4, 5, 6, 7, 8, 9, 10, 11, 12] (by decide) rfl
    refine gv_ki (wf := (fun (_ : Unit) => (gv_V cI cL ad f_q60 h_q60 f1 c1 f_q45 h_q45 lo up be si pl 0 (ge + 1) (fa + q45)))) (wc := (gv_V cI cL ad f_q60 h_q60 f1 c1 f_q45 h_q45 lo up be si pl 0 (ge + 1) (fa + q45))) [0, 1, 2, 3, 4, 5, 6, 7, 8, 9, 10, 11, 12] (fun _ => rfl) hP hD hS rfl rfl (va_runV (As := []) (rest := []) ⟨hx, hb, hml, hown, hts⟩ (kX1_leaves l dC dI cI cL ad f_q60 h_q60 f1 c1 f_q45 h_q45 lo up be si pl 0 (ge + 1) (fa + q45) (gv_in (gv_V cI cL ad f_q60 h_q60 f1 c1 f_q45 h_q45 lo up be si pl 0 (ge + 1) (fa + q45)))) (cwV (rm := gv_R 2 42) 0 hts gX1_grow_X1_leaves rfl rfl rfl (by decide +kernel) ⟨Nat.le_of_ble_eq_true rfl, Nat.le_of_ble_eq_true rfl⟩) (gv_preV (ci := 1) hK hPc hDc hN rfl rfl) rfl rfl hl.1 rfl (lv_room (Nat.le_of_ble_eq_true rfl)) dX1_grow_79 ⟨Nat.le_of_ble_eq_true rfl, Nat.le_of_ble_eq_true rfl⟩) (fun q79 u H locs hw hP hD hS => ?_)
    have he := gv_q hw he
    have hP : va_P (dC, dI) vwCl (gv_V cI cL ad f_q60 h_q60 f1 c1 f_q45 h_q45 lo up be si pl 0 (ge + 1) (fa + q45)) H := hP
    have hD : va_D A (gv_V cI cL ad f_q60 h_q60 f1 c1 f_q45 h_q45 lo up be si pl 0 (ge + 1) (fa + q45)) := hD
    refine lv_iload_n hx hb dX1_grow_82 rfl (lv_at hl 0 rfl) ?_
    refine lv_isub hx hb dX1_grow_83 ?_
    exact kr (q79 - q20) (f_q60, h_q60, f_q45, h_q45, 0, ge + 1, fa + q45) _ _ _ _ _ _ (Nat.le_of_ble_eq_true rfl) (Nat.le_of_ble_eq_true rfl) he hP hS dX1_grow_84
  · have he := gv_f cd6 he
    exact kt gE_S 56 96 60 "the game is over" _ _ _ _ _ _ ⟨he, List.mem_cons_self⟩ hP hS (hl.1.trans hml.symm) (Nat.le_of_ble_eq_true rfl) (Nat.le_of_ble_eq_true rfl) (by decide) (hts (.classLink RX1 56 "java/lang/IllegalStateException") (List.mem_of_getElem? (i := 1) rfl)) (hts (.initialized "java/lang/IllegalStateException") (List.mem_of_getElem? (i := 2) rfl)) (by decide) (fun w h => hts w (List.mem_cons_of_mem _ (List.mem_append_right _ h))) gx_b60 gx_o60 dX1_grow_9 dX1_grow_12 dX1_grow_13 dX1_grow_15 dX1_grow_18
def spX1_look (f0 : Nat → Int32) (c0 : Nat → Int32) (f1 : Nat → Int32) (c1 : Nat → Int32) (f2 : Nat → Int32) (c2 : Nat → Int32) (lo : Nat → Int64) (up : Nat → Int64) (be : Nat → Int32) (si : Int32) (pl : Int32) (cu : Int32) (ge : Int32) (fa : Int32) (p1 : Int32) (p2 : Int32) : String ⊕ (Int32) := gx_b (spX1_requireCell p1 p2) (fun _ => gv_b (spX0_hasLeafAt f0 c0 p1 p2) (fun q11 => (if q11 = 0 then gv_b (spX0_isBareAt f0 c0 p1 p2) (fun q26 => (if q26 = 0 then .inr 120 else .inr 46)) else .inr 35)))
theorem spX1_look_e (f0 : Nat → Int32) (c0 : Nat → Int32) (f1 : Nat → Int32) (c1 : Nat → Int32) (f2 : Nat → Int32) (c2 : Nat → Int32) (lo : Nat → Int64) (up : Nat → Int64) (be : Nat → Int32) (si : Int32) (pl : Int32) (cu : Int32) (ge : Int32) (fa : Int32) (p1 : Int32) (p2 : Int32) : spX1_look f0 c0 f1 c1 f2 c2 lo up be si pl cu ge fa p1 p2 = gx_b (spX1_requireCell p1 p2) (fun _ => gv_b (spX0_hasLeafAt f0 c0 p1 p2) (fun q11 => (if q11 = 0 then gv_b (spX0_isBareAt f0 c0 p1 p2) (fun q26 => (if q26 = 0 then .inr 120 else .inr 46)) else .inr 35))) := rfl
set_option maxHeartbeats 4000000 in
set_option maxRecDepth 100000 in
theorem kX1_look (l : Launch) (hst : l.stackTraces = false) (dC : Nat → ClassId) (dI : Nat → Nat → Nat) (cI cL : ClassId) (ad : Nat → Nat) (f0 : Nat → Int32) (c0 : Nat → Int32) (f1 : Nat → Int32) (c1 : Nat → Int32) (f2 : Nat → Int32) (c2 : Nat → Int32) (lo : Nat → Int64) (up : Nat → Int64) (be : Nat → Int32) (si : Int32) (pl : Int32) (cu : Int32) (ge : Int32) (fa : Int32) (p1 : Int32) (p2 : Int32) : gx_Mi l yX1_look wsX1_look 7 1 103 (dC, dI) [(cI, .int), (cL, .long)] [.ref (ad 0), .int p1, .int p2] (gv_V cI cL ad f0 c0 f1 c1 f2 c2 lo up be si pl cu ge fa) (fun (r : Int32) (_ : Unit) => .inr r = spX1_look f0 c0 f1 c1 f2 c2 lo up be si pl cu ge fa p1 p2) (fun (_ : Unit) => (gv_V cI cL ad f0 c0 f1 c1 f2 c2 lo up be si pl cu ge fa)) (fun E => .inl E = spX1_look f0 c0 f1 c1 f2 c2 lo up be si pl cu ge fa p1 p2 ∧ E ∈ [gE_I]) := by
  refine gx_ofz (cc := cX1_look) (maxL := 3) (ty := .char) hst (Nat.le_of_ble_eq_true rfl) (Nat.le_of_ble_eq_true rfl) (by decide) rfl (Nat.le_of_ble_eq_true rfl) rfl ?_
  intro A p e s m args below meth c Q ls H locs hx hb hml hts hown hP hK hD hN hX hS hl kr kt ko
  have inX0 : ∀ w ∈ wsX00, w ∈ wsX1_look := (fun _ h => List.mem_cons_of_mem _ (List.mem_append_left _ (List.mem_append_right _ h)))
  have inX1 : ∀ w ∈ wsX10, w ∈ wsX1_look := (fun _ h => List.mem_cons_of_mem _ (List.mem_append_left _ (List.mem_append_left _ (List.mem_append_right _ h))))
  have hl : lv_has ls 3 [(0, .ref (ad 0)), (1, .int p1), (2, .int p2)] := hl
  have he := (spX1_look_e f0 c0 f1 c1 f2 c2 lo up be si pl cu ge fa p1 p2).symm
  refine lv_iload_n hx hb dX1_look_0 rfl (lv_at hl 1 rfl) ?_
  refine lv_iload_n hx hb dX1_look_1 rfl (lv_at hl 2 rfl) ?_
  have hPc : va_P (dC, dI) vwCl ([] : va_W) H := gv_P0
  have hDc : va_D (gv_in ([] : va_W)) ([] : va_W) := gv_D0
  have hXc : gx_T (gv_in ([] : va_W)) s H := hX.to hS.2.1 (gv_inA hD [] rfl)
  refine gx_kv (xp := (fun E => .inl E = spX1_requireCell p1 p2 ∧ E ∈ [gE_I])) (wf := (fun (_ : Unit) => ([] : va_W))) (wc := ([] : va_W)) [] (fun _ => rfl) hP hD hS rfl (vx_runS (As := [.int p1, .int p2]) (rest := []) ⟨hx, hb, hml, hown, hts⟩ (kX1_requireCell l hst dC dI cI cL p1 p2 (gv_in ([] : va_W))) (va_cwS (rm := gx_R 6 1 82) 2 hts gX1_look_X1_requireCell rfl rfl rfl (by decide +kernel) ⟨Nat.le_of_ble_eq_true rfl, Nat.le_of_ble_eq_true rfl⟩) (gx_preS hK hPc hDc hN hXc) rfl rfl hl.1 rfl (lv_room (Nat.le_of_ble_eq_true rfl)) dX1_look_2 ⟨Nat.le_of_ble_eq_true rfl, Nat.le_of_ble_eq_true rfl⟩) (fun E ce q9 H locs hw hP hD hS hc1 hc2 hc3 => ko E ce q9 _ _ _ _ _ _ _ (Nat.le_of_ble_eq_true rfl) (Nat.le_of_ble_eq_true rfl) ⟨gx_l hw.1 he, by rw [List.mem_singleton.mp hw.2]; exact List.mem_cons_self⟩ hP hS hc1 hc2 hc3) (fun u H locs hw hP hD hS => ?_)
  have he := gx_r hw he
  have hP : va_P (dC, dI) vwCl (gv_V cI cL ad f0 c0 f1 c1 f2 c2 lo up be si pl cu ge fa) H := hP
  have hD : va_D A (gv_V cI cL ad f0 c0 f1 c1 f2 c2 lo up be si pl cu ge fa) := hD
  refine lv_aload_n hx hb dX1_look_5 rfl (lv_at hl 0 rfl) ?_
  refine va_get (D := (dC, dI)) (ci := 1) (v := .ref (ad 1)) (C := RX1) (T := TX1) (N := 11) hx hb hts inX1 hown hK hP 0 rfl rfl 0 (by decide) (hts (.fieldLink RX1 10 "VineWall" "wall" "LVineWall$Wall;") (List.mem_of_getElem? (i := 1) rfl)) (fun _ h9 => h9) rfl dX1_look_6 ?_
  refine lv_iload_n hx hb dX1_look_9 rfl (lv_at hl 1 rfl) ?_
  refine lv_iload_n hx hb dX1_look_10 rfl (lv_at hl 2 rfl) ?_
  have hPc : va_P (dC, dI) vwCl (gv_W cI (ad 1) (ad 2) (ad 3) f0 c0) H := gv_sub [1, 2, 3] hP rfl
  have hDc : va_D (gv_in (gv_W cI (ad 1) (ad 2) (ad 3) f0 c0)) (gv_W cI (ad 1) (ad 2) (ad 3) f0 c0) := gv_D hD [1, 2, 3] (by decide) rfl
  refine gv_ki (wf := (fun (_ : Unit) => (gv_W cI (ad 1) (ad 2) (ad 3) f0 c0))) (wc := (gv_W cI (ad 1) (ad 2) (ad 3) f0 c0)) [1, 2, 3] (fun _ => rfl) hP hD hS rfl rfl (va_runV (As := [.int p1, .int p2]) (rest := []) ⟨hx, hb, hml, hown, hts⟩ (kX0_hasLeafAt l dC dI cI cL (ad 1) (ad 2) (ad 3) f0 c0 p1 p2 (gv_in (gv_W cI (ad 1) (ad 2) (ad 3) f0 c0))) (cwV (rm := gv_R 1 21) 2 hts gX1_look_X0_hasLeafAt rfl rfl rfl (by decide +kernel) ⟨Nat.le_of_ble_eq_true rfl, Nat.le_of_ble_eq_true rfl⟩) (gv_preV (ci := 0) hK hPc hDc hN rfl rfl) rfl rfl hl.1 rfl (lv_room (Nat.le_of_ble_eq_true rfl)) dX1_look_11 ⟨Nat.le_of_ble_eq_true rfl, Nat.le_of_ble_eq_true rfl⟩) (fun q11 u H locs hw hP hD hS => ?_)
  have he := gv_q hw he
  have hP : va_P (dC, dI) vwCl (gv_V cI cL ad f0 c0 f1 c1 f2 c2 lo up be si pl cu ge fa) H := hP
  have hD : va_D A (gv_V cI cL ad f0 c0 f1 c1 f2 c2 lo up be si pl cu ge fa) := hD
  refine lv_if_eq (tgt := 20) hx hb dX1_look_14 (by decide) (fun cd14 => ?_) (fun cd14 => ?_)
  · have he := gv_t cd14 he
    refine lv_aload_n hx hb dX1_look_20 rfl (lv_at hl 0 rfl) ?_
    refine va_get (D := (dC, dI)) (ci := 1) (v := .ref (ad 1)) (C := RX1) (T := TX1) (N := 11) hx hb hts inX1 hown hK hP 0 rfl rfl 0 (by decide) (hts (.fieldLink RX1 10 "VineWall" "wall" "LVineWall$Wall;") (List.mem_of_getElem? (i := 1) rfl)) (fun _ h9 => h9) rfl dX1_look_21 ?_
    refine lv_iload_n hx hb dX1_look_24 rfl (lv_at hl 1 rfl) ?_
    refine lv_iload_n hx hb dX1_look_25 rfl (lv_at hl 2 rfl) ?_
    have hPc : va_P (dC, dI) vwCl (gv_W cI (ad 1) (ad 2) (ad 3) f0 c0) H := gv_sub [1, 2, 3] hP rfl
    have hDc : va_D (gv_in (gv_W cI (ad 1) (ad 2) (ad 3) f0 c0)) (gv_W cI (ad 1) (ad 2) (ad 3) f0 c0) := gv_D hD [1, 2, 3] (by decide) rfl
    refine gv_ki (wf := (fun (_ : Unit) => (gv_W cI (ad 1) (ad 2) (ad 3) f0 c0))) (wc := (gv_W cI (ad 1) (ad 2) (ad 3) f0 c0)) [1, 2, 3] (fun _ => rfl) hP hD hS rfl rfl (va_runV (As := [.int p1, .int p2]) (rest := []) ⟨hx, hb, hml, hown, hts⟩ (kX0_isBareAt l dC dI cI cL (ad 1) (ad 2) (ad 3) f0 c0 p1 p2 (gv_in (gv_W cI (ad 1) (ad 2) (ad 3) f0 c0))) (cwV (rm := gv_R 2 43) 2 hts gX1_look_X0_isBareAt rfl rfl rfl (by decide +kernel) ⟨Nat.le_of_ble_eq_true rfl, Nat.le_of_ble_eq_true rfl⟩) (gv_preV (ci := 0) hK hPc hDc hN rfl rfl) rfl rfl hl.1 rfl (lv_room (Nat.le_of_ble_eq_true rfl)) dX1_look_26 ⟨Nat.le_of_ble_eq_true rfl, Nat.le_of_ble_eq_true rfl⟩) (fun q26 u H locs hw hP hD hS => ?_)
    have he := gv_q hw he
    have hP : va_P (dC, dI) vwCl (gv_V cI cL ad f0 c0 f1 c1 f2 c2 lo up be si pl cu ge fa) H := hP
    have hD : va_D A (gv_V cI cL ad f0 c0 f1 c1 f2 c2 lo up be si pl cu ge fa) := hD
    refine lv_if_eq (tgt := 37) hx hb dX1_look_29 (by decide) (fun cd29 => ?_) (fun cd29 => ?_)
    · have he := gv_t cd29 he
      refine lv_bipush (v := 120) hx hb dX1_look_37 (by decide) ?_
      exact kr 120 () _ _ _ _ _ _ (Nat.le_of_ble_eq_true rfl) (Nat.le_of_ble_eq_true rfl) rfl he hP hS dX1_look_39
    · have he := gv_f cd29 he
      refine lv_bipush (v := 46) hx hb dX1_look_32 (by decide) ?_
      refine lv_goto (tgt := 39) hx hb dX1_look_34 (by decide) ?_
      exact kr 46 () _ _ _ _ _ _ (Nat.le_of_ble_eq_true rfl) (Nat.le_of_ble_eq_true rfl) rfl he hP hS dX1_look_39
  · have he := gv_f cd14 he
    refine lv_bipush (v := 35) hx hb dX1_look_17 (by decide) ?_
    exact kr 35 () _ _ _ _ _ _ (Nat.le_of_ble_eq_true rfl) (Nat.le_of_ble_eq_true rfl) rfl he hP hS dX1_look_19
def spX1_shadeOf (f0 : Nat → Int32) (c0 : Nat → Int32) (f1 : Nat → Int32) (c1 : Nat → Int32) (f2 : Nat → Int32) (c2 : Nat → Int32) (lo : Nat → Int64) (up : Nat → Int64) (be : Nat → Int32) (si : Int32) (pl : Int32) (cu : Int32) (ge : Int32) (fa : Int32) (p1 : Int32) (p2 : Int32) : String ⊕ (Int32) := gx_b (spX1_requireCell p1 p2) (fun _ => gv_b (spX0_shadeAt f0 c0 (p1.toNatClampNeg + 1) p2) (fun q11 => .inr q11))
theorem spX1_shadeOf_e (f0 : Nat → Int32) (c0 : Nat → Int32) (f1 : Nat → Int32) (c1 : Nat → Int32) (f2 : Nat → Int32) (c2 : Nat → Int32) (lo : Nat → Int64) (up : Nat → Int64) (be : Nat → Int32) (si : Int32) (pl : Int32) (cu : Int32) (ge : Int32) (fa : Int32) (p1 : Int32) (p2 : Int32) : spX1_shadeOf f0 c0 f1 c1 f2 c2 lo up be si pl cu ge fa p1 p2 = gx_b (spX1_requireCell p1 p2) (fun _ => gv_b (spX0_shadeAt f0 c0 (p1.toNatClampNeg + 1) p2) (fun q11 => .inr q11)) := rfl
set_option maxHeartbeats 4000000 in
set_option maxRecDepth 100000 in
theorem kX1_shadeOf (l : Launch) (hst : l.stackTraces = false) (dC : Nat → ClassId) (dI : Nat → Nat → Nat) (cI cL : ClassId) (ad : Nat → Nat) (f0 : Nat → Int32) (c0 : Nat → Int32) (f1 : Nat → Int32) (c1 : Nat → Int32) (f2 : Nat → Int32) (c2 : Nat → Int32) (lo : Nat → Int64) (up : Nat → Int64) (be : Nat → Int32) (si : Int32) (pl : Int32) (cu : Int32) (ge : Int32) (fa : Int32) (p1 : Int32) (p2 : Int32) : gx_Mi l yX1_shadeOf wsX1_shadeOf 7 1 103 (dC, dI) [(cI, .int), (cL, .long)] [.ref (ad 0), .int p1, .int p2] (gv_V cI cL ad f0 c0 f1 c1 f2 c2 lo up be si pl cu ge fa) (fun (r : Int32) (_ : Unit) => .inr r = spX1_shadeOf f0 c0 f1 c1 f2 c2 lo up be si pl cu ge fa p1 p2) (fun (_ : Unit) => (gv_V cI cL ad f0 c0 f1 c1 f2 c2 lo up be si pl cu ge fa)) (fun E => .inl E = spX1_shadeOf f0 c0 f1 c1 f2 c2 lo up be si pl cu ge fa p1 p2 ∧ E ∈ [gE_I]) := by
  refine gx_ofi (cc := cX1_shadeOf) (maxL := 3) hst (Nat.le_of_ble_eq_true rfl) (Nat.le_of_ble_eq_true rfl) (by decide) rfl (Nat.le_of_ble_eq_true rfl) rfl ?_
  intro A p e s m args below meth c Q ls H locs hx hb hml hts hown hP hK hD hN hX hS hl kr kt ko
  have inX0 : ∀ w ∈ wsX00, w ∈ wsX1_shadeOf := (fun _ h => List.mem_cons_of_mem _ (List.mem_append_left _ (List.mem_append_right _ h)))
  have inX1 : ∀ w ∈ wsX10, w ∈ wsX1_shadeOf := (fun _ h => List.mem_cons_of_mem _ (List.mem_append_left _ (List.mem_append_left _ (List.mem_append_right _ h))))
  have hl : lv_has ls 3 [(0, .ref (ad 0)), (1, .int p1), (2, .int p2)] := hl
  have he := (spX1_shadeOf_e f0 c0 f1 c1 f2 c2 lo up be si pl cu ge fa p1 p2).symm
  refine lv_iload_n hx hb dX1_shadeOf_0 rfl (lv_at hl 1 rfl) ?_
  refine lv_iload_n hx hb dX1_shadeOf_1 rfl (lv_at hl 2 rfl) ?_
  have hPc : va_P (dC, dI) vwCl ([] : va_W) H := gv_P0
  have hDc : va_D (gv_in ([] : va_W)) ([] : va_W) := gv_D0
  have hXc : gx_T (gv_in ([] : va_W)) s H := hX.to hS.2.1 (gv_inA hD [] rfl)
  refine gx_kv (xp := (fun E => .inl E = spX1_requireCell p1 p2 ∧ E ∈ [gE_I])) (wf := (fun (_ : Unit) => ([] : va_W))) (wc := ([] : va_W)) [] (fun _ => rfl) hP hD hS rfl (vx_runS (As := [.int p1, .int p2]) (rest := []) ⟨hx, hb, hml, hown, hts⟩ (kX1_requireCell l hst dC dI cI cL p1 p2 (gv_in ([] : va_W))) (va_cwS (rm := gx_R 6 1 82) 2 hts gX1_shadeOf_X1_requireCell rfl rfl rfl (by decide +kernel) ⟨Nat.le_of_ble_eq_true rfl, Nat.le_of_ble_eq_true rfl⟩) (gx_preS hK hPc hDc hN hXc) rfl rfl hl.1 rfl (lv_room (Nat.le_of_ble_eq_true rfl)) dX1_shadeOf_2 ⟨Nat.le_of_ble_eq_true rfl, Nat.le_of_ble_eq_true rfl⟩) (fun E ce q9 H locs hw hP hD hS hc1 hc2 hc3 => ko E ce q9 _ _ _ _ _ _ _ (Nat.le_of_ble_eq_true rfl) (Nat.le_of_ble_eq_true rfl) ⟨gx_l hw.1 he, by rw [List.mem_singleton.mp hw.2]; exact List.mem_cons_self⟩ hP hS hc1 hc2 hc3) (fun u H locs hw hP hD hS => ?_)
  have he := gx_r hw he
  have hP : va_P (dC, dI) vwCl (gv_V cI cL ad f0 c0 f1 c1 f2 c2 lo up be si pl cu ge fa) H := hP
  have hD : va_D A (gv_V cI cL ad f0 c0 f1 c1 f2 c2 lo up be si pl cu ge fa) := hD
  have hv7 := gx_cell hw
  obtain ⟨hk1, hb1⟩ := gm_nat hv7.1 (by decide)
  refine lv_aload_n hx hb dX1_shadeOf_5 rfl (lv_at hl 0 rfl) ?_
  refine va_get (D := (dC, dI)) (ci := 1) (v := .ref (ad 1)) (C := RX1) (T := TX1) (N := 11) hx hb hts inX1 hown hK hP 0 rfl rfl 0 (by decide) (hts (.fieldLink RX1 10 "VineWall" "wall" "LVineWall$Wall;") (List.mem_of_getElem? (i := 1) rfl)) (fun _ h9 => h9) rfl dX1_shadeOf_6 ?_
  refine lv_iload_n hx hb dX1_shadeOf_9 rfl (lv_at hl 1 rfl) ?_
  refine lv_iload_n hx hb dX1_shadeOf_10 rfl (lv_at hl 2 rfl) ?_
  have hPc : va_P (dC, dI) vwCl (gv_W cI (ad 1) (ad 2) (ad 3) f0 c0) H := gv_sub [1, 2, 3] hP rfl
  have hDc : va_D (gv_in (gv_W cI (ad 1) (ad 2) (ad 3) f0 c0)) (gv_W cI (ad 1) (ad 2) (ad 3) f0 c0) := gv_D hD [1, 2, 3] (by decide) rfl
  refine gv_ki (wf := (fun (_ : Unit) => (gv_W cI (ad 1) (ad 2) (ad 3) f0 c0))) (wc := (gv_W cI (ad 1) (ad 2) (ad 3) f0 c0)) [1, 2, 3] (fun _ => rfl) hP hD hS rfl rfl (va_runV (As := [.int p1, .int p2]) (rest := []) ⟨hx, hb, hml, hown, hts⟩ (kX0_shadeAt l dC dI cI cL (ad 1) (ad 2) (ad 3) f0 c0 p1 (p1.toNatClampNeg + 1) (gn_add hk1 (rfl : (1 : Int32) = nI 1)) p2 (by omega) (gv_in (gv_W cI (ad 1) (ad 2) (ad 3) f0 c0))) (cwV (rm := gv_R 1 21) 2 hts gX1_shadeOf_X0_shadeAt rfl rfl rfl (by decide +kernel) ⟨Nat.le_of_ble_eq_true rfl, Nat.le_of_ble_eq_true rfl⟩) (gv_preV (ci := 0) hK hPc hDc hN rfl rfl) rfl rfl hl.1 rfl (lv_room (Nat.le_of_ble_eq_true rfl)) dX1_shadeOf_11 ⟨Nat.le_of_ble_eq_true rfl, Nat.le_of_ble_eq_true rfl⟩) (fun q11 u H locs hw hP hD hS => ?_)
  have he := gv_q hw he
  have hP : va_P (dC, dI) vwCl (gv_V cI cL ad f0 c0 f1 c1 f2 c2 lo up be si pl cu ge fa) H := hP
  have hD : va_D A (gv_V cI cL ad f0 c0 f1 c1 f2 c2 lo up be si pl cu ge fa) := hD
  exact kr q11 () _ _ _ _ _ _ (Nat.le_of_ble_eq_true rfl) (Nat.le_of_ble_eq_true rfl) he hP hS dX1_shadeOf_14
def spX1_holdersOf (f0 : Nat → Int32) (c0 : Nat → Int32) (f1 : Nat → Int32) (c1 : Nat → Int32) (f2 : Nat → Int32) (c2 : Nat → Int32) (lo : Nat → Int64) (up : Nat → Int64) (be : Nat → Int32) (si : Int32) (pl : Int32) (cu : Int32) (ge : Int32) (fa : Int32) (p1 : Int32) (p2 : Int32) : String ⊕ (Int32) := gx_b (spX1_requireCell p1 p2) (fun _ => gv_b (spX0_holdersAt f0 c0 p1 p2 si) (fun q15 => .inr q15))
theorem spX1_holdersOf_e (f0 : Nat → Int32) (c0 : Nat → Int32) (f1 : Nat → Int32) (c1 : Nat → Int32) (f2 : Nat → Int32) (c2 : Nat → Int32) (lo : Nat → Int64) (up : Nat → Int64) (be : Nat → Int32) (si : Int32) (pl : Int32) (cu : Int32) (ge : Int32) (fa : Int32) (p1 : Int32) (p2 : Int32) : spX1_holdersOf f0 c0 f1 c1 f2 c2 lo up be si pl cu ge fa p1 p2 = gx_b (spX1_requireCell p1 p2) (fun _ => gv_b (spX0_holdersAt f0 c0 p1 p2 si) (fun q15 => .inr q15)) := rfl
set_option maxHeartbeats 4000000 in
set_option maxRecDepth 100000 in
theorem kX1_holdersOf (l : Launch) (hst : l.stackTraces = false) (dC : Nat → ClassId) (dI : Nat → Nat → Nat) (cI cL : ClassId) (ad : Nat → Nat) (f0 : Nat → Int32) (c0 : Nat → Int32) (f1 : Nat → Int32) (c1 : Nat → Int32) (f2 : Nat → Int32) (c2 : Nat → Int32) (lo : Nat → Int64) (up : Nat → Int64) (be : Nat → Int32) (si : Int32) (pl : Int32) (cu : Int32) (ge : Int32) (fa : Int32) (p1 : Int32) (p2 : Int32) : gx_Mi l yX1_holdersOf wsX1_holdersOf 7 1 103 (dC, dI) [(cI, .int), (cL, .long)] [.ref (ad 0), .int p1, .int p2] (gv_V cI cL ad f0 c0 f1 c1 f2 c2 lo up be si pl cu ge fa) (fun (r : Int32) (_ : Unit) => .inr r = spX1_holdersOf f0 c0 f1 c1 f2 c2 lo up be si pl cu ge fa p1 p2) (fun (_ : Unit) => (gv_V cI cL ad f0 c0 f1 c1 f2 c2 lo up be si pl cu ge fa)) (fun E => .inl E = spX1_holdersOf f0 c0 f1 c1 f2 c2 lo up be si pl cu ge fa p1 p2 ∧ E ∈ [gE_I]) := by
  refine gx_ofi (cc := cX1_holdersOf) (maxL := 3) hst (Nat.le_of_ble_eq_true rfl) (Nat.le_of_ble_eq_true rfl) (by decide) rfl (Nat.le_of_ble_eq_true rfl) rfl ?_
  intro A p e s m args below meth c Q ls H locs hx hb hml hts hown hP hK hD hN hX hS hl kr kt ko
  have inX0 : ∀ w ∈ wsX00, w ∈ wsX1_holdersOf := (fun _ h => List.mem_cons_of_mem _ (List.mem_append_left _ (List.mem_append_right _ h)))
  have inX1 : ∀ w ∈ wsX10, w ∈ wsX1_holdersOf := (fun _ h => List.mem_cons_of_mem _ (List.mem_append_left _ (List.mem_append_left _ (List.mem_append_right _ h))))
  have hl : lv_has ls 3 [(0, .ref (ad 0)), (1, .int p1), (2, .int p2)] := hl
  have he := (spX1_holdersOf_e f0 c0 f1 c1 f2 c2 lo up be si pl cu ge fa p1 p2).symm
  refine lv_iload_n hx hb dX1_holdersOf_0 rfl (lv_at hl 1 rfl) ?_
  refine lv_iload_n hx hb dX1_holdersOf_1 rfl (lv_at hl 2 rfl) ?_
  have hPc : va_P (dC, dI) vwCl ([] : va_W) H := gv_P0
  have hDc : va_D (gv_in ([] : va_W)) ([] : va_W) := gv_D0
  have hXc : gx_T (gv_in ([] : va_W)) s H := hX.to hS.2.1 (gv_inA hD [] rfl)
  refine gx_kv (xp := (fun E => .inl E = spX1_requireCell p1 p2 ∧ E ∈ [gE_I])) (wf := (fun (_ : Unit) => ([] : va_W))) (wc := ([] : va_W)) [] (fun _ => rfl) hP hD hS rfl (vx_runS (As := [.int p1, .int p2]) (rest := []) ⟨hx, hb, hml, hown, hts⟩ (kX1_requireCell l hst dC dI cI cL p1 p2 (gv_in ([] : va_W))) (va_cwS (rm := gx_R 6 1 82) 2 hts gX1_holdersOf_X1_requireCell rfl rfl rfl (by decide +kernel) ⟨Nat.le_of_ble_eq_true rfl, Nat.le_of_ble_eq_true rfl⟩) (gx_preS hK hPc hDc hN hXc) rfl rfl hl.1 rfl (lv_room (Nat.le_of_ble_eq_true rfl)) dX1_holdersOf_2 ⟨Nat.le_of_ble_eq_true rfl, Nat.le_of_ble_eq_true rfl⟩) (fun E ce q9 H locs hw hP hD hS hc1 hc2 hc3 => ko E ce q9 _ _ _ _ _ _ _ (Nat.le_of_ble_eq_true rfl) (Nat.le_of_ble_eq_true rfl) ⟨gx_l hw.1 he, by rw [List.mem_singleton.mp hw.2]; exact List.mem_cons_self⟩ hP hS hc1 hc2 hc3) (fun u H locs hw hP hD hS => ?_)
  have he := gx_r hw he
  have hP : va_P (dC, dI) vwCl (gv_V cI cL ad f0 c0 f1 c1 f2 c2 lo up be si pl cu ge fa) H := hP
  have hD : va_D A (gv_V cI cL ad f0 c0 f1 c1 f2 c2 lo up be si pl cu ge fa) := hD
  refine lv_aload_n hx hb dX1_holdersOf_5 rfl (lv_at hl 0 rfl) ?_
  refine va_get (D := (dC, dI)) (ci := 1) (v := .ref (ad 1)) (C := RX1) (T := TX1) (N := 11) hx hb hts inX1 hown hK hP 0 rfl rfl 0 (by decide) (hts (.fieldLink RX1 10 "VineWall" "wall" "LVineWall$Wall;") (List.mem_of_getElem? (i := 1) rfl)) (fun _ h9 => h9) rfl dX1_holdersOf_6 ?_
  refine lv_iload_n hx hb dX1_holdersOf_9 rfl (lv_at hl 1 rfl) ?_
  refine lv_iload_n hx hb dX1_holdersOf_10 rfl (lv_at hl 2 rfl) ?_
  refine lv_aload_n hx hb dX1_holdersOf_11 rfl (lv_at hl 0 rfl) ?_
  refine va_get (D := (dC, dI)) (ci := 1) (v := .int si) (C := RX1) (T := TX1) (N := 11) hx hb hts inX1 hown hK hP 0 rfl rfl 6 (by decide) (hts (.fieldLink RX1 33 "VineWall" "beyond" "I") (List.mem_of_getElem? (i := 2) rfl)) (fun _ h9 => h9) rfl dX1_holdersOf_12 ?_
  have hPc : va_P (dC, dI) vwCl (gv_W cI (ad 1) (ad 2) (ad 3) f0 c0) H := gv_sub [1, 2, 3] hP rfl
  have hDc : va_D (gv_in (gv_W cI (ad 1) (ad 2) (ad 3) f0 c0)) (gv_W cI (ad 1) (ad 2) (ad 3) f0 c0) := gv_D hD [1, 2, 3] (by decide) rfl
  refine gv_ki (wf := (fun (_ : Unit) => (gv_W cI (ad 1) (ad 2) (ad 3) f0 c0))) (wc := (gv_W cI (ad 1) (ad 2) (ad 3) f0 c0)) [1, 2, 3] (fun _ => rfl) hP hD hS rfl rfl (va_runV (As := [.int p1, .int p2, .int si]) (rest := []) ⟨hx, hb, hml, hown, hts⟩ (kX0_holdersAt l dC dI cI cL (ad 1) (ad 2) (ad 3) f0 c0 p1 p2 si (gv_in (gv_W cI (ad 1) (ad 2) (ad 3) f0 c0))) (cwV (rm := gv_R 2 47) 3 hts gX1_holdersOf_X0_holdersAt rfl rfl rfl (by decide +kernel) ⟨Nat.le_of_ble_eq_true rfl, Nat.le_of_ble_eq_true rfl⟩) (gv_preV (ci := 0) hK hPc hDc hN rfl rfl) rfl rfl hl.1 rfl (lv_room (Nat.le_of_ble_eq_true rfl)) dX1_holdersOf_15 ⟨Nat.le_of_ble_eq_true rfl, Nat.le_of_ble_eq_true rfl⟩) (fun q15 u H locs hw hP hD hS => ?_)
  have he := gv_q hw he
  have hP : va_P (dC, dI) vwCl (gv_V cI cL ad f0 c0 f1 c1 f2 c2 lo up be si pl cu ge fa) H := hP
  have hD : va_D A (gv_V cI cL ad f0 c0 f1 c1 f2 c2 lo up be si pl cu ge fa) := hD
  exact kr q15 () _ _ _ _ _ _ (Nat.le_of_ble_eq_true rfl) (Nat.le_of_ble_eq_true rfl) he hP hS dX1_holdersOf_18
def spX1_neighboursOf (f0 : Nat → Int32) (c0 : Nat → Int32) (f1 : Nat → Int32) (c1 : Nat → Int32) (f2 : Nat → Int32) (c2 : Nat → Int32) (lo : Nat → Int64) (up : Nat → Int64) (be : Nat → Int32) (si : Int32) (pl : Int32) (cu : Int32) (ge : Int32) (fa : Int32) (p1 : Int32) (p2 : Int32) : String ⊕ (Int32) := gx_b (spX1_requireCell p1 p2) (fun _ => gv_b (spX0_neighboursAt f0 c0 p1 p2 si) (fun q15 => .inr q15))
theorem spX1_neighboursOf_e (f0 : Nat → Int32) (c0 : Nat → Int32) (f1 : Nat → Int32) (c1 : Nat → Int32) (f2 : Nat → Int32) (c2 : Nat → Int32) (lo : Nat → Int64) (up : Nat → Int64) (be : Nat → Int32) (si : Int32) (pl : Int32) (cu : Int32) (ge : Int32) (fa : Int32) (p1 : Int32) (p2 : Int32) : spX1_neighboursOf f0 c0 f1 c1 f2 c2 lo up be si pl cu ge fa p1 p2 = gx_b (spX1_requireCell p1 p2) (fun _ => gv_b (spX0_neighboursAt f0 c0 p1 p2 si) (fun q15 => .inr q15)) := rfl
set_option maxHeartbeats 4000000 in
set_option maxRecDepth 100000 in
theorem kX1_neighboursOf (l : Launch) (hst : l.stackTraces = false) (dC : Nat → ClassId) (dI : Nat → Nat → Nat) (cI cL : ClassId) (ad : Nat → Nat) (f0 : Nat → Int32) (c0 : Nat → Int32) (f1 : Nat → Int32) (c1 : Nat → Int32) (f2 : Nat → Int32) (c2 : Nat → Int32) (lo : Nat → Int64) (up : Nat → Int64) (be : Nat → Int32) (si : Int32) (pl : Int32) (cu : Int32) (ge : Int32) (fa : Int32) (p1 : Int32) (p2 : Int32) : gx_Mi l yX1_neighboursOf wsX1_neighboursOf 7 1 103 (dC, dI) [(cI, .int), (cL, .long)] [.ref (ad 0), .int p1, .int p2] (gv_V cI cL ad f0 c0 f1 c1 f2 c2 lo up be si pl cu ge fa) (fun (r : Int32) (_ : Unit) => .inr r = spX1_neighboursOf f0 c0 f1 c1 f2 c2 lo up be si pl cu ge fa p1 p2) (fun (_ : Unit) => (gv_V cI cL ad f0 c0 f1 c1 f2 c2 lo up be si pl cu ge fa)) (fun E => .inl E = spX1_neighboursOf f0 c0 f1 c1 f2 c2 lo up be si pl cu ge fa p1 p2 ∧ E ∈ [gE_I]) := by
  refine gx_ofi (cc := cX1_neighboursOf) (maxL := 3) hst (Nat.le_of_ble_eq_true rfl) (Nat.le_of_ble_eq_true rfl) (by decide) rfl (Nat.le_of_ble_eq_true rfl) rfl ?_
  intro A p e s m args below meth c Q ls H locs hx hb hml hts hown hP hK hD hN hX hS hl kr kt ko
  have inX0 : ∀ w ∈ wsX00, w ∈ wsX1_neighboursOf := (fun _ h => List.mem_cons_of_mem _ (List.mem_append_left _ (List.mem_append_right _ h)))
  have inX1 : ∀ w ∈ wsX10, w ∈ wsX1_neighboursOf := (fun _ h => List.mem_cons_of_mem _ (List.mem_append_left _ (List.mem_append_left _ (List.mem_append_right _ h))))
  have hl : lv_has ls 3 [(0, .ref (ad 0)), (1, .int p1), (2, .int p2)] := hl
  have he := (spX1_neighboursOf_e f0 c0 f1 c1 f2 c2 lo up be si pl cu ge fa p1 p2).symm
  refine lv_iload_n hx hb dX1_neighboursOf_0 rfl (lv_at hl 1 rfl) ?_
  refine lv_iload_n hx hb dX1_neighboursOf_1 rfl (lv_at hl 2 rfl) ?_
  have hPc : va_P (dC, dI) vwCl ([] : va_W) H := gv_P0
  have hDc : va_D (gv_in ([] : va_W)) ([] : va_W) := gv_D0
  have hXc : gx_T (gv_in ([] : va_W)) s H := hX.to hS.2.1 (gv_inA hD [] rfl)
  refine gx_kv (xp := (fun E => .inl E = spX1_requireCell p1 p2 ∧ E ∈ [gE_I])) (wf := (fun (_ : Unit) => ([] : va_W))) (wc := ([] : va_W)) [] (fun _ => rfl) hP hD hS rfl (vx_runS (As := [.int p1, .int p2]) (rest := []) ⟨hx, hb, hml, hown, hts⟩ (kX1_requireCell l hst dC dI cI cL p1 p2 (gv_in ([] : va_W))) (va_cwS (rm := gx_R 6 1 82) 2 hts gX1_neighboursOf_X1_requireCell rfl rfl rfl (by decide +kernel) ⟨Nat.le_of_ble_eq_true rfl, Nat.le_of_ble_eq_true rfl⟩) (gx_preS hK hPc hDc hN hXc) rfl rfl hl.1 rfl (lv_room (Nat.le_of_ble_eq_true rfl)) dX1_neighboursOf_2 ⟨Nat.le_of_ble_eq_true rfl, Nat.le_of_ble_eq_true rfl⟩) (fun E ce q9 H locs hw hP hD hS hc1 hc2 hc3 => ko E ce q9 _ _ _ _ _ _ _ (Nat.le_of_ble_eq_true rfl) (Nat.le_of_ble_eq_true rfl) ⟨gx_l hw.1 he, by rw [List.mem_singleton.mp hw.2]; exact List.mem_cons_self⟩ hP hS hc1 hc2 hc3) (fun u H locs hw hP hD hS => ?_)
  have he := gx_r hw he
  have hP : va_P (dC, dI) vwCl (gv_V cI cL ad f0 c0 f1 c1 f2 c2 lo up be si pl cu ge fa) H := hP
  have hD : va_D A (gv_V cI cL ad f0 c0 f1 c1 f2 c2 lo up be si pl cu ge fa) := hD
  refine lv_aload_n hx hb dX1_neighboursOf_5 rfl (lv_at hl 0 rfl) ?_
  refine va_get (D := (dC, dI)) (ci := 1) (v := .ref (ad 1)) (C := RX1) (T := TX1) (N := 11) hx hb hts inX1 hown hK hP 0 rfl rfl 0 (by decide) (hts (.fieldLink RX1 10 "VineWall" "wall" "LVineWall$Wall;") (List.mem_of_getElem? (i := 1) rfl)) (fun _ h9 => h9) rfl dX1_neighboursOf_6 ?_
  refine lv_iload_n hx hb dX1_neighboursOf_9 rfl (lv_at hl 1 rfl) ?_
  refine lv_iload_n hx hb dX1_neighboursOf_10 rfl (lv_at hl 2 rfl) ?_
  refine lv_aload_n hx hb dX1_neighboursOf_11 rfl (lv_at hl 0 rfl) ?_
  refine va_get (D := (dC, dI)) (ci := 1) (v := .int si) (C := RX1) (T := TX1) (N := 11) hx hb hts inX1 hown hK hP 0 rfl rfl 6 (by decide) (hts (.fieldLink RX1 33 "VineWall" "beyond" "I") (List.mem_of_getElem? (i := 2) rfl)) (fun _ h9 => h9) rfl dX1_neighboursOf_12 ?_
  have hPc : va_P (dC, dI) vwCl (gv_W cI (ad 1) (ad 2) (ad 3) f0 c0) H := gv_sub [1, 2, 3] hP rfl
  have hDc : va_D (gv_in (gv_W cI (ad 1) (ad 2) (ad 3) f0 c0)) (gv_W cI (ad 1) (ad 2) (ad 3) f0 c0) := gv_D hD [1, 2, 3] (by decide) rfl
  refine gv_ki (wf := (fun (_ : Unit) => (gv_W cI (ad 1) (ad 2) (ad 3) f0 c0))) (wc := (gv_W cI (ad 1) (ad 2) (ad 3) f0 c0)) [1, 2, 3] (fun _ => rfl) hP hD hS rfl rfl (va_runV (As := [.int p1, .int p2, .int si]) (rest := []) ⟨hx, hb, hml, hown, hts⟩ (kX0_neighboursAt l dC dI cI cL (ad 1) (ad 2) (ad 3) f0 c0 p1 p2 si (gv_in (gv_W cI (ad 1) (ad 2) (ad 3) f0 c0))) (cwV (rm := gv_R 2 47) 3 hts gX1_neighboursOf_X0_neighboursAt rfl rfl rfl (by decide +kernel) ⟨Nat.le_of_ble_eq_true rfl, Nat.le_of_ble_eq_true rfl⟩) (gv_preV (ci := 0) hK hPc hDc hN rfl rfl) rfl rfl hl.1 rfl (lv_room (Nat.le_of_ble_eq_true rfl)) dX1_neighboursOf_15 ⟨Nat.le_of_ble_eq_true rfl, Nat.le_of_ble_eq_true rfl⟩) (fun q15 u H locs hw hP hD hS => ?_)
  have he := gv_q hw he
  have hP : va_P (dC, dI) vwCl (gv_V cI cL ad f0 c0 f1 c1 f2 c2 lo up be si pl cu ge fa) H := hP
  have hD : va_D A (gv_V cI cL ad f0 c0 f1 c1 f2 c2 lo up be si pl cu ge fa) := hD
  exact kr q15 () _ _ _ _ _ _ (Nat.le_of_ble_eq_true rfl) (Nat.le_of_ble_eq_true rfl) he hP hS dX1_neighboursOf_18
def spX1_leavesIn (f0 : Nat → Int32) (c0 : Nat → Int32) (f1 : Nat → Int32) (c1 : Nat → Int32) (f2 : Nat → Int32) (c2 : Nat → Int32) (lo : Nat → Int64) (up : Nat → Int64) (be : Nat → Int32) (si : Int32) (pl : Int32) (cu : Int32) (ge : Int32) (fa : Int32) (p1 : Int32) : String ⊕ (Int32) := gx_b (spX1_requireColumn p1) (fun _ => gv_b (spX0_countInColumn f0 c0 p1) (fun q9 => .inr q9))
theorem spX1_leavesIn_e (f0 : Nat → Int32) (c0 : Nat → Int32) (f1 : Nat → Int32) (c1 : Nat → Int32) (f2 : Nat → Int32) (c2 : Nat → Int32) (lo : Nat → Int64) (up : Nat → Int64) (be : Nat → Int32) (si : Int32) (pl : Int32) (cu : Int32) (ge : Int32) (fa : Int32) (p1 : Int32) : spX1_leavesIn f0 c0 f1 c1 f2 c2 lo up be si pl cu ge fa p1 = gx_b (spX1_requireColumn p1) (fun _ => gv_b (spX0_countInColumn f0 c0 p1) (fun q9 => .inr q9)) := rfl
set_option maxHeartbeats 4000000 in
set_option maxRecDepth 100000 in
theorem kX1_leavesIn (l : Launch) (hst : l.stackTraces = false) (dC : Nat → ClassId) (dI : Nat → Nat → Nat) (cI cL : ClassId) (ad : Nat → Nat) (f0 : Nat → Int32) (c0 : Nat → Int32) (f1 : Nat → Int32) (c1 : Nat → Int32) (f2 : Nat → Int32) (c2 : Nat → Int32) (lo : Nat → Int64) (up : Nat → Int64) (be : Nat → Int32) (si : Int32) (pl : Int32) (cu : Int32) (ge : Int32) (fa : Int32) (p1 : Int32) : gx_Mi l yX1_leavesIn wsX1_leavesIn 7 1 102 (dC, dI) [(cI, .int), (cL, .long)] [.ref (ad 0), .int p1] (gv_V cI cL ad f0 c0 f1 c1 f2 c2 lo up be si pl cu ge fa) (fun (r : Int32) (_ : Unit) => .inr r = spX1_leavesIn f0 c0 f1 c1 f2 c2 lo up be si pl cu ge fa p1) (fun (_ : Unit) => (gv_V cI cL ad f0 c0 f1 c1 f2 c2 lo up be si pl cu ge fa)) (fun E => .inl E = spX1_leavesIn f0 c0 f1 c1 f2 c2 lo up be si pl cu ge fa p1 ∧ E ∈ [gE_I]) := by
  refine gx_ofi (cc := cX1_leavesIn) (maxL := 2) hst (Nat.le_of_ble_eq_true rfl) (Nat.le_of_ble_eq_true rfl) (by decide) rfl (Nat.le_of_ble_eq_true rfl) rfl ?_
  intro A p e s m args below meth c Q ls H locs hx hb hml hts hown hP hK hD hN hX hS hl kr kt ko
  have inX0 : ∀ w ∈ wsX00, w ∈ wsX1_leavesIn := (fun _ h => List.mem_cons_of_mem _ (List.mem_append_left _ (List.mem_append_right _ h)))
  have inX1 : ∀ w ∈ wsX10, w ∈ wsX1_leavesIn := (fun _ h => List.mem_cons_of_mem _ (List.mem_append_left _ (List.mem_append_left _ (List.mem_append_right _ h))))
  have hl : lv_has ls 2 [(0, .ref (ad 0)), (1, .int p1)] := hl
  have he := (spX1_leavesIn_e f0 c0 f1 c1 f2 c2 lo up be si pl cu ge fa p1).symm
  refine lv_iload_n hx hb dX1_leavesIn_0 rfl (lv_at hl 1 rfl) ?_
  have hPc : va_P (dC, dI) vwCl ([] : va_W) H := gv_P0
  have hDc : va_D (gv_in ([] : va_W)) ([] : va_W) := gv_D0
  have hXc : gx_T (gv_in ([] : va_W)) s H := hX.to hS.2.1 (gv_inA hD [] rfl)
  refine gx_kv (xp := (fun E => .inl E = spX1_requireColumn p1 ∧ E ∈ [gE_I])) (wf := (fun (_ : Unit) => ([] : va_W))) (wc := ([] : va_W)) [] (fun _ => rfl) hP hD hS rfl (vx_runS (As := [.int p1]) (rest := []) ⟨hx, hb, hml, hown, hts⟩ (kX1_requireColumn l hst dC dI cI cL p1 (gv_in ([] : va_W))) (va_cwS (rm := gx_R 6 1 82) 1 hts gX1_leavesIn_X1_requireColumn rfl rfl rfl (by decide +kernel) ⟨Nat.le_of_ble_eq_true rfl, Nat.le_of_ble_eq_true rfl⟩) (gx_preS hK hPc hDc hN hXc) rfl rfl hl.1 rfl (lv_room (Nat.le_of_ble_eq_true rfl)) dX1_leavesIn_1 ⟨Nat.le_of_ble_eq_true rfl, Nat.le_of_ble_eq_true rfl⟩) (fun E ce q9 H locs hw hP hD hS hc1 hc2 hc3 => ko E ce q9 _ _ _ _ _ _ _ (Nat.le_of_ble_eq_true rfl) (Nat.le_of_ble_eq_true rfl) ⟨gx_l hw.1 he, by rw [List.mem_singleton.mp hw.2]; exact List.mem_cons_self⟩ hP hS hc1 hc2 hc3) (fun u H locs hw hP hD hS => ?_)
  have he := gx_r hw he
  have hP : va_P (dC, dI) vwCl (gv_V cI cL ad f0 c0 f1 c1 f2 c2 lo up be si pl cu ge fa) H := hP
  have hD : va_D A (gv_V cI cL ad f0 c0 f1 c1 f2 c2 lo up be si pl cu ge fa) := hD
  refine lv_aload_n hx hb dX1_leavesIn_4 rfl (lv_at hl 0 rfl) ?_
  refine va_get (D := (dC, dI)) (ci := 1) (v := .ref (ad 1)) (C := RX1) (T := TX1) (N := 11) hx hb hts inX1 hown hK hP 0 rfl rfl 0 (by decide) (hts (.fieldLink RX1 10 "VineWall" "wall" "LVineWall$Wall;") (List.mem_of_getElem? (i := 1) rfl)) (fun _ h9 => h9) rfl dX1_leavesIn_5 ?_
  refine lv_iload_n hx hb dX1_leavesIn_8 rfl (lv_at hl 1 rfl) ?_
  have hPc : va_P (dC, dI) vwCl (gv_W cI (ad 1) (ad 2) (ad 3) f0 c0) H := gv_sub [1, 2, 3] hP rfl
  have hDc : va_D (gv_in (gv_W cI (ad 1) (ad 2) (ad 3) f0 c0)) (gv_W cI (ad 1) (ad 2) (ad 3) f0 c0) := gv_D hD [1, 2, 3] (by decide) rfl
  refine gv_ki (wf := (fun (_ : Unit) => (gv_W cI (ad 1) (ad 2) (ad 3) f0 c0))) (wc := (gv_W cI (ad 1) (ad 2) (ad 3) f0 c0)) [1, 2, 3] (fun _ => rfl) hP hD hS rfl rfl (va_runV (As := [.int p1]) (rest := []) ⟨hx, hb, hml, hown, hts⟩ (kX0_countInColumn l dC dI cI cL (ad 1) (ad 2) (ad 3) f0 c0 p1 (gv_in (gv_W cI (ad 1) (ad 2) (ad 3) f0 c0))) (cwV (rm := gv_R 2 45) 1 hts gX1_leavesIn_X0_countInColumn rfl rfl rfl (by decide +kernel) ⟨Nat.le_of_ble_eq_true rfl, Nat.le_of_ble_eq_true rfl⟩) (gv_preV (ci := 0) hK hPc hDc hN rfl rfl) rfl rfl hl.1 rfl (lv_room (Nat.le_of_ble_eq_true rfl)) dX1_leavesIn_9 ⟨Nat.le_of_ble_eq_true rfl, Nat.le_of_ble_eq_true rfl⟩) (fun q9 u H locs hw hP hD hS => ?_)
  have he := gv_q hw he
  have hP : va_P (dC, dI) vwCl (gv_V cI cL ad f0 c0 f1 c1 f2 c2 lo up be si pl cu ge fa) H := hP
  have hD : va_D A (gv_V cI cL ad f0 c0 f1 c1 f2 c2 lo up be si pl cu ge fa) := hD
  exact kr q9 () _ _ _ _ _ _ (Nat.le_of_ble_eq_true rfl) (Nat.le_of_ble_eq_true rfl) he hP hS dX1_leavesIn_12
