def spX1_leaves (f0 : Nat → Int32) (c0 : Nat → Int32) (f1 : Nat → Int32) (c1 : Nat → Int32) (f2 : Nat → Int32) (c2 : Nat → Int32) (lo : Nat → Int64) (up : Nat → Int64) (be : Nat → Int32) (si : Int32) (pl : Int32) (cu : Int32) (ge : Int32) (fa : Int32) : Int32 := gv_b (spX0_countLeaves f0 c0) (fun q4 => q4)
theorem spX1_leaves_e (f0 : Nat → Int32) (c0 : Nat → Int32) (f1 : Nat → Int32) (c1 : Nat → Int32) (f2 : Nat → Int32) (c2 : Nat → Int32) (lo : Nat → Int64) (up : Nat → Int64) (be : Nat → Int32) (si : Int32) (pl : Int32) (cu : Int32) (ge : Int32) (fa : Int32) : spX1_leaves f0 c0 f1 c1 f2 c2 lo up be si pl cu ge fa = gv_b (spX0_countLeaves f0 c0) (fun q4 => q4) := rfl
set_option maxHeartbeats 4000000 in
set_option maxRecDepth 100000 in
theorem kX1_leaves (l : Launch) (dC : Nat → ClassId) (dI : Nat → Nat → Nat) (cI cL : ClassId) (ad : Nat → Nat) (f0 : Nat → Int32) (c0 : Nat → Int32) (f1 : Nat → Int32) (c1 : Nat → Int32) (f2 : Nat → Int32) (c2 : Nat → Int32) (lo : Nat → Int64) (up : Nat → Int64) (be : Nat → Int32) (si : Int32) (pl : Int32) (cu : Int32) (ge : Int32) (fa : Int32) : gv_Mi l yX1_leaves wsX1_leaves 2 42 (dC, dI) [(cI, .int), (cL, .long)] [.ref (ad 0)] (gv_V cI cL ad f0 c0 f1 c1 f2 c2 lo up be si pl cu ge fa) (fun (r : Int32) (_ : Unit) => r = spX1_leaves f0 c0 f1 c1 f2 c2 lo up be si pl cu ge fa) (fun (_ : Unit) => (gv_V cI cL ad f0 c0 f1 c1 f2 c2 lo up be si pl cu ge fa)) := by
  refine gv_ofi (cc := cX1_leaves) (maxL := 1) (own := RX1) (by decide) rfl (Nat.le_of_ble_eq_true rfl) rfl ?_
  intro A p e s m args below meth c Q ls H locs hx hb hml hts hown hP hK hD hN hS hl kr
  have inX0 : ∀ w ∈ wsX00, w ∈ wsX1_leaves := (fun _ h => List.mem_cons_of_mem _ (List.mem_append_right _ h))
  have inX1 : ∀ w ∈ wsX10, w ∈ wsX1_leaves := (fun _ h => List.mem_cons_of_mem _ (List.mem_append_left _ (List.mem_append_right _ h)))
  have hl : lv_has ls 1 [(0, .ref (ad 0))] := hl
  have he := (spX1_leaves_e f0 c0 f1 c1 f2 c2 lo up be si pl cu ge fa).symm
  refine lv_aload_n hx hb dX1_leaves_0 rfl (lv_at hl 0 rfl) ?_
  refine va_get (D := (dC, dI)) (ci := 1) (v := .ref (ad 1)) (C := RX1) (T := TX1) (N := 11) hx hb hts inX1 hown hK hP 0 rfl rfl 0 (by decide) (hts (.fieldLink RX1 10 "VineWall" "wall" "LVineWall$Wall;") (List.mem_of_getElem? (i := 1) rfl)) (fun _ h9 => h9) rfl dX1_leaves_1 ?_
  have hPc : va_P (dC, dI) vwCl (gv_W cI (ad 1) (ad 2) (ad 3) f0 c0) H := gv_sub [1, 2, 3] hP rfl
  have hDc : va_D (gv_in (gv_W cI (ad 1) (ad 2) (ad 3) f0 c0)) (gv_W cI (ad 1) (ad 2) (ad 3) f0 c0) := gv_D hD [1, 2, 3] (by decide) rfl
  refine gv_ki (wf := (fun (_ : Unit) => (gv_W cI (ad 1) (ad 2) (ad 3) f0 c0))) (wc := (gv_W cI (ad 1) (ad 2) (ad 3) f0 c0)) [1, 2, 3] (fun _ => rfl) hP hD hS rfl rfl (va_runV (As := []) (rest := []) ⟨hx, hb, hml, hown, hts⟩ (kX0_countLeaves l dC dI cI cL (ad 1) (ad 2) (ad 3) f0 c0 (gv_in (gv_W cI (ad 1) (ad 2) (ad 3) f0 c0))) (cwV (rm := gv_R 1 20) 0 hts gX1_leaves_X0_countLeaves rfl rfl rfl (by decide +kernel) ⟨Nat.le_of_ble_eq_true rfl, Nat.le_of_ble_eq_true rfl⟩) (gv_preV (ci := 0) hK hPc hDc hN rfl rfl) rfl rfl hl.1 rfl (lv_room (Nat.le_of_ble_eq_true rfl)) dX1_leaves_4 ⟨Nat.zero_le _, Nat.zero_le _⟩) (fun q4 u H locs hw hP hD hS => ?_)
  have he := gv_q hw he
  have hP : va_P (dC, dI) vwCl (gv_V cI cL ad f0 c0 f1 c1 f2 c2 lo up be si pl cu ge fa) H := hP
  have hD : va_D A (gv_V cI cL ad f0 c0 f1 c1 f2 c2 lo up be si pl cu ge fa) := hD
  exact kr q4 () _ _ _ _ he hP hS dX1_leaves_7
def spX1_lit (f0 : Nat → Int32) (c0 : Nat → Int32) (f1 : Nat → Int32) (c1 : Nat → Int32) (f2 : Nat → Int32) (c2 : Nat → Int32) (lo : Nat → Int64) (up : Nat → Int64) (be : Nat → Int32) (si : Int32) (pl : Int32) (cu : Int32) (ge : Int32) (fa : Int32) : Int32 := gv_b (spX0_countLit f0 c0) (fun q4 => q4)
theorem spX1_lit_e (f0 : Nat → Int32) (c0 : Nat → Int32) (f1 : Nat → Int32) (c1 : Nat → Int32) (f2 : Nat → Int32) (c2 : Nat → Int32) (lo : Nat → Int64) (up : Nat → Int64) (be : Nat → Int32) (si : Int32) (pl : Int32) (cu : Int32) (ge : Int32) (fa : Int32) : spX1_lit f0 c0 f1 c1 f2 c2 lo up be si pl cu ge fa = gv_b (spX0_countLit f0 c0) (fun q4 => q4) := rfl
set_option maxHeartbeats 4000000 in
set_option maxRecDepth 100000 in
theorem kX1_lit (l : Launch) (dC : Nat → ClassId) (dI : Nat → Nat → Nat) (cI cL : ClassId) (ad : Nat → Nat) (f0 : Nat → Int32) (c0 : Nat → Int32) (f1 : Nat → Int32) (c1 : Nat → Int32) (f2 : Nat → Int32) (c2 : Nat → Int32) (lo : Nat → Int64) (up : Nat → Int64) (be : Nat → Int32) (si : Int32) (pl : Int32) (cu : Int32) (ge : Int32) (fa : Int32) : gv_Mi l yX1_lit wsX1_lit 2 42 (dC, dI) [(cI, .int), (cL, .long)] [.ref (ad 0)] (gv_V cI cL ad f0 c0 f1 c1 f2 c2 lo up be si pl cu ge fa) (fun (r : Int32) (_ : Unit) => r = spX1_lit f0 c0 f1 c1 f2 c2 lo up be si pl cu ge fa) (fun (_ : Unit) => (gv_V cI cL ad f0 c0 f1 c1 f2 c2 lo up be si pl cu ge fa)) := by
  refine gv_ofi (cc := cX1_lit) (maxL := 1) (own := RX1) (by decide) rfl (Nat.le_of_ble_eq_true rfl) rfl ?_
  intro A p e s m args below meth c Q ls H locs hx hb hml hts hown hP hK hD hN hS hl kr
  have inX0 : ∀ w ∈ wsX00, w ∈ wsX1_lit := (fun _ h => List.mem_cons_of_mem _ (List.mem_append_right _ h))
  have inX1 : ∀ w ∈ wsX10, w ∈ wsX1_lit := (fun _ h => List.mem_cons_of_mem _ (List.mem_append_left _ (List.mem_append_right _ h)))
  have hl : lv_has ls 1 [(0, .ref (ad 0))] := hl
  have he := (spX1_lit_e f0 c0 f1 c1 f2 c2 lo up be si pl cu ge fa).symm
  refine lv_aload_n hx hb dX1_lit_0 rfl (lv_at hl 0 rfl) ?_
  refine va_get (D := (dC, dI)) (ci := 1) (v := .ref (ad 1)) (C := RX1) (T := TX1) (N := 11) hx hb hts inX1 hown hK hP 0 rfl rfl 0 (by decide) (hts (.fieldLink RX1 10 "VineWall" "wall" "LVineWall$Wall;") (List.mem_of_getElem? (i := 1) rfl)) (fun _ h9 => h9) rfl dX1_lit_1 ?_
  have hPc : va_P (dC, dI) vwCl (gv_W cI (ad 1) (ad 2) (ad 3) f0 c0) H := gv_sub [1, 2, 3] hP rfl
  have hDc : va_D (gv_in (gv_W cI (ad 1) (ad 2) (ad 3) f0 c0)) (gv_W cI (ad 1) (ad 2) (ad 3) f0 c0) := gv_D hD [1, 2, 3] (by decide) rfl
  refine gv_ki (wf := (fun (_ : Unit) => (gv_W cI (ad 1) (ad 2) (ad 3) f0 c0))) (wc := (gv_W cI (ad 1) (ad 2) (ad 3) f0 c0)) [1, 2, 3] (fun _ => rfl) hP hD hS rfl rfl (va_runV (As := []) (rest := []) ⟨hx, hb, hml, hown, hts⟩ (kX0_countLit l dC dI cI cL (ad 1) (ad 2) (ad 3) f0 c0 (gv_in (gv_W cI (ad 1) (ad 2) (ad 3) f0 c0))) (cwV (rm := gv_R 1 20) 0 hts gX1_lit_X0_countLit rfl rfl rfl (by decide +kernel) ⟨Nat.le_of_ble_eq_true rfl, Nat.le_of_ble_eq_true rfl⟩) (gv_preV (ci := 0) hK hPc hDc hN rfl rfl) rfl rfl hl.1 rfl (lv_room (Nat.le_of_ble_eq_true rfl)) dX1_lit_4 ⟨Nat.zero_le _, Nat.zero_le _⟩) (fun q4 u H locs hw hP hD hS => ?_)
  have he := gv_q hw he
  have hP : va_P (dC, dI) vwCl (gv_V cI cL ad f0 c0 f1 c1 f2 c2 lo up be si pl cu ge fa) H := hP
  have hD : va_D A (gv_V cI cL ad f0 c0 f1 c1 f2 c2 lo up be si pl cu ge fa) := hD
  exact kr q4 () _ _ _ _ he hP hS dX1_lit_7
def spX1_generation (f0 : Nat → Int32) (c0 : Nat → Int32) (f1 : Nat → Int32) (c1 : Nat → Int32) (f2 : Nat → Int32) (c2 : Nat → Int32) (lo : Nat → Int64) (up : Nat → Int64) (be : Nat → Int32) (si : Int32) (pl : Int32) (cu : Int32) (ge : Int32) (fa : Int32) : Int32 := ge
theorem spX1_generation_e (f0 : Nat → Int32) (c0 : Nat → Int32) (f1 : Nat → Int32) (c1 : Nat → Int32) (f2 : Nat → Int32) (c2 : Nat → Int32) (lo : Nat → Int64) (up : Nat → Int64) (be : Nat → Int32) (si : Int32) (pl : Int32) (cu : Int32) (ge : Int32) (fa : Int32) : spX1_generation f0 c0 f1 c1 f2 c2 lo up be si pl cu ge fa = ge := rfl
set_option maxHeartbeats 4000000 in
set_option maxRecDepth 100000 in
theorem kX1_generation (l : Launch) (dC : Nat → ClassId) (dI : Nat → Nat → Nat) (cI cL : ClassId) (ad : Nat → Nat) (f0 : Nat → Int32) (c0 : Nat → Int32) (f1 : Nat → Int32) (c1 : Nat → Int32) (f2 : Nat → Int32) (c2 : Nat → Int32) (lo : Nat → Int64) (up : Nat → Int64) (be : Nat → Int32) (si : Int32) (pl : Int32) (cu : Int32) (ge : Int32) (fa : Int32) : gv_Mi l yX1_generation wsX1_generation 0 0 (dC, dI) [(cI, .int), (cL, .long)] [.ref (ad 0)] (gv_V cI cL ad f0 c0 f1 c1 f2 c2 lo up be si pl cu ge fa) (fun (r : Int32) (_ : Unit) => r = spX1_generation f0 c0 f1 c1 f2 c2 lo up be si pl cu ge fa) (fun (_ : Unit) => (gv_V cI cL ad f0 c0 f1 c1 f2 c2 lo up be si pl cu ge fa)) := by
  refine gv_ofi (cc := cX1_generation) (maxL := 1) (own := RX1) (by decide) rfl (Nat.le_of_ble_eq_true rfl) rfl ?_
  intro A p e s m args below meth c Q ls H locs hx hb hml hts hown hP hK hD hN hS hl kr
  have inX1 : ∀ w ∈ wsX10, w ∈ wsX1_generation := (fun _ h => List.mem_cons_of_mem _ (List.mem_append_right _ h))
  have hl : lv_has ls 1 [(0, .ref (ad 0))] := hl
  have he := (spX1_generation_e f0 c0 f1 c1 f2 c2 lo up be si pl cu ge fa).symm
  refine lv_aload_n hx hb dX1_generation_0 rfl (lv_at hl 0 rfl) ?_
  refine va_get (D := (dC, dI)) (ci := 1) (v := .int ge) (C := RX1) (T := TX1) (N := 11) hx hb hts inX1 hown hK hP 0 rfl rfl 9 (by decide) (hts (.fieldLink RX1 43 "VineWall" "generationsGone" "I") (List.mem_of_getElem? (i := 1) rfl)) (fun _ h9 => h9) rfl dX1_generation_1 ?_
  exact kr ge () _ _ _ _ he hP hS dX1_generation_4
def spX1_cutsLeft (f0 : Nat → Int32) (c0 : Nat → Int32) (f1 : Nat → Int32) (c1 : Nat → Int32) (f2 : Nat → Int32) (c2 : Nat → Int32) (lo : Nat → Int64) (up : Nat → Int64) (be : Nat → Int32) (si : Int32) (pl : Int32) (cu : Int32) (ge : Int32) (fa : Int32) : Int32 := 3 - cu
theorem spX1_cutsLeft_e (f0 : Nat → Int32) (c0 : Nat → Int32) (f1 : Nat → Int32) (c1 : Nat → Int32) (f2 : Nat → Int32) (c2 : Nat → Int32) (lo : Nat → Int64) (up : Nat → Int64) (be : Nat → Int32) (si : Int32) (pl : Int32) (cu : Int32) (ge : Int32) (fa : Int32) : spX1_cutsLeft f0 c0 f1 c1 f2 c2 lo up be si pl cu ge fa = 3 - cu := rfl
set_option maxHeartbeats 4000000 in
set_option maxRecDepth 100000 in
theorem kX1_cutsLeft (l : Launch) (dC : Nat → ClassId) (dI : Nat → Nat → Nat) (cI cL : ClassId) (ad : Nat → Nat) (f0 : Nat → Int32) (c0 : Nat → Int32) (f1 : Nat → Int32) (c1 : Nat → Int32) (f2 : Nat → Int32) (c2 : Nat → Int32) (lo : Nat → Int64) (up : Nat → Int64) (be : Nat → Int32) (si : Int32) (pl : Int32) (cu : Int32) (ge : Int32) (fa : Int32) : gv_Mi l yX1_cutsLeft wsX1_cutsLeft 0 0 (dC, dI) [(cI, .int), (cL, .long)] [.ref (ad 0)] (gv_V cI cL ad f0 c0 f1 c1 f2 c2 lo up be si pl cu ge fa) (fun (r : Int32) (_ : Unit) => r = spX1_cutsLeft f0 c0 f1 c1 f2 c2 lo up be si pl cu ge fa) (fun (_ : Unit) => (gv_V cI cL ad f0 c0 f1 c1 f2 c2 lo up be si pl cu ge fa)) := by
  refine gv_ofi (cc := cX1_cutsLeft) (maxL := 1) (own := RX1) (by decide) rfl (Nat.le_of_ble_eq_true rfl) rfl ?_
  intro A p e s m args below meth c Q ls H locs hx hb hml hts hown hP hK hD hN hS hl kr
  have inX1 : ∀ w ∈ wsX10, w ∈ wsX1_cutsLeft := (fun _ h => List.mem_cons_of_mem _ (List.mem_append_right _ h))
  have hl : lv_has ls 1 [(0, .ref (ad 0))] := hl
  have he := (spX1_cutsLeft_e f0 c0 f1 c1 f2 c2 lo up be si pl cu ge fa).symm
  refine lv_iconst (v := 3) hx hb dX1_cutsLeft_0 (by decide) ?_
  refine lv_aload_n hx hb dX1_cutsLeft_1 rfl (lv_at hl 0 rfl) ?_
  refine va_get (D := (dC, dI)) (ci := 1) (v := .int cu) (C := RX1) (T := TX1) (N := 11) hx hb hts inX1 hown hK hP 0 rfl rfl 8 (by decide) (hts (.fieldLink RX1 40 "VineWall" "cutsDone" "I") (List.mem_of_getElem? (i := 1) rfl)) (fun _ h9 => h9) rfl dX1_cutsLeft_2 ?_
  refine lv_isub hx hb dX1_cutsLeft_5 ?_
  exact kr (3 - cu) () _ _ _ _ he hP hS dX1_cutsLeft_6
def spX1_broken (f0 : Nat → Int32) (c0 : Nat → Int32) (f1 : Nat → Int32) (c1 : Nat → Int32) (f2 : Nat → Int32) (c2 : Nat → Int32) (lo : Nat → Int64) (up : Nat → Int64) (be : Nat → Int32) (si : Int32) (pl : Int32) (cu : Int32) (ge : Int32) (fa : Int32) : Int32 := fa
theorem spX1_broken_e (f0 : Nat → Int32) (c0 : Nat → Int32) (f1 : Nat → Int32) (c1 : Nat → Int32) (f2 : Nat → Int32) (c2 : Nat → Int32) (lo : Nat → Int64) (up : Nat → Int64) (be : Nat → Int32) (si : Int32) (pl : Int32) (cu : Int32) (ge : Int32) (fa : Int32) : spX1_broken f0 c0 f1 c1 f2 c2 lo up be si pl cu ge fa = fa := rfl
set_option maxHeartbeats 4000000 in
set_option maxRecDepth 100000 in
theorem kX1_broken (l : Launch) (dC : Nat → ClassId) (dI : Nat → Nat → Nat) (cI cL : ClassId) (ad : Nat → Nat) (f0 : Nat → Int32) (c0 : Nat → Int32) (f1 : Nat → Int32) (c1 : Nat → Int32) (f2 : Nat → Int32) (c2 : Nat → Int32) (lo : Nat → Int64) (up : Nat → Int64) (be : Nat → Int32) (si : Int32) (pl : Int32) (cu : Int32) (ge : Int32) (fa : Int32) : gv_Mi l yX1_broken wsX1_broken 0 0 (dC, dI) [(cI, .int), (cL, .long)] [.ref (ad 0)] (gv_V cI cL ad f0 c0 f1 c1 f2 c2 lo up be si pl cu ge fa) (fun (r : Int32) (_ : Unit) => r = spX1_broken f0 c0 f1 c1 f2 c2 lo up be si pl cu ge fa) (fun (_ : Unit) => (gv_V cI cL ad f0 c0 f1 c1 f2 c2 lo up be si pl cu ge fa)) := by
  refine gv_ofi (cc := cX1_broken) (maxL := 1) (own := RX1) (by decide) rfl (Nat.le_of_ble_eq_true rfl) rfl ?_
  intro A p e s m args below meth c Q ls H locs hx hb hml hts hown hP hK hD hN hS hl kr
  have inX1 : ∀ w ∈ wsX10, w ∈ wsX1_broken := (fun _ h => List.mem_cons_of_mem _ (List.mem_append_right _ h))
  have hl : lv_has ls 1 [(0, .ref (ad 0))] := hl
  have he := (spX1_broken_e f0 c0 f1 c1 f2 c2 lo up be si pl cu ge fa).symm
  refine lv_aload_n hx hb dX1_broken_0 rfl (lv_at hl 0 rfl) ?_
  refine va_get (D := (dC, dI)) (ci := 1) (v := .int fa) (C := RX1) (T := TX1) (N := 11) hx hb hts inX1 hown hK hP 0 rfl rfl 10 (by decide) (hts (.fieldLink RX1 46 "VineWall" "fallen" "I") (List.mem_of_getElem? (i := 1) rfl)) (fun _ h9 => h9) rfl dX1_broken_1 ?_
  exact kr fa () _ _ _ _ he hP hS dX1_broken_4
def spX1_litBehindCut (f0 : Nat → Int32) (c0 : Nat → Int32) (f1 : Nat → Int32) (c1 : Nat → Int32) (f2 : Nat → Int32) (c2 : Nat → Int32) (lo : Nat → Int64) (up : Nat → Int64) (be : Nat → Int32) (si : Int32) (pl : Int32) (cu : Int32) (ge : Int32) (fa : Int32) (p1 : Int32) (p2 : Int32) : Int32 × (Nat → Int32) × (Nat → Int32) × (Nat → Int32) × (Nat → Int32) := gv_b2 (spX0_copyFrom f1 c1 f0 c0) (fun f_q8 h_q8 => gv_b2 (spX0_cutLeaf f_q8 h_q8 p1 p2) (fun f_q17 h_q17 => gv_b3 (spX0_becomeNextOf f2 c2 f_q17 h_q17 be si) (fun q36 f_q36 h_q36 => gv_b (spX0_countLit f_q36 h_q36) (fun q44 => (q44, f_q17, h_q17, f_q36, h_q36)))))
theorem spX1_litBehindCut_e (f0 : Nat → Int32) (c0 : Nat → Int32) (f1 : Nat → Int32) (c1 : Nat → Int32) (f2 : Nat → Int32) (c2 : Nat → Int32) (lo : Nat → Int64) (up : Nat → Int64) (be : Nat → Int32) (si : Int32) (pl : Int32) (cu : Int32) (ge : Int32) (fa : Int32) (p1 : Int32) (p2 : Int32) : spX1_litBehindCut f0 c0 f1 c1 f2 c2 lo up be si pl cu ge fa p1 p2 = gv_b2 (spX0_copyFrom f1 c1 f0 c0) (fun f_q8 h_q8 => gv_b2 (spX0_cutLeaf f_q8 h_q8 p1 p2) (fun f_q17 h_q17 => gv_b3 (spX0_becomeNextOf f2 c2 f_q17 h_q17 be si) (fun q36 f_q36 h_q36 => gv_b (spX0_countLit f_q36 h_q36) (fun q44 => (q44, f_q17, h_q17, f_q36, h_q36))))) := rfl
set_option maxHeartbeats 4000000 in
set_option maxRecDepth 100000 in
theorem kX1_litBehindCut (l : Launch) (dC : Nat → ClassId) (dI : Nat → Nat → Nat) (cI cL : ClassId) (ad : Nat → Nat) (f0 : Nat → Int32) (c0 : Nat → Int32) (f1 : Nat → Int32) (c1 : Nat → Int32) (f2 : Nat → Int32) (c2 : Nat → Int32) (lo : Nat → Int64) (up : Nat → Int64) (be : Nat → Int32) (si : Int32) (pl : Int32) (cu : Int32) (ge : Int32) (fa : Int32) (p1 : Int32) (p2 : Int32) : gv_Mi l yX1_litBehindCut wsX1_litBehindCut 5 124 (dC, dI) [(cI, .int), (cL, .long)] [.ref (ad 0), .int p1, .int p2] (gv_V cI cL ad f0 c0 f1 c1 f2 c2 lo up be si pl cu ge fa) (fun (r : Int32) (u : (Nat → Int32) × (Nat → Int32) × (Nat → Int32) × (Nat → Int32)) => (r, u) = spX1_litBehindCut f0 c0 f1 c1 f2 c2 lo up be si pl cu ge fa p1 p2) (fun (u : (Nat → Int32) × (Nat → Int32) × (Nat → Int32) × (Nat → Int32)) => (gv_V cI cL ad f0 c0 u.1 u.2.1 u.2.2.1 u.2.2.2 lo up be si pl cu ge fa)) := by
  refine gv_ofi (cc := cX1_litBehindCut) (maxL := 3) (own := RX1) (by decide) rfl (Nat.le_of_ble_eq_true rfl) rfl ?_
  intro A p e s m args below meth c Q ls H locs hx hb hml hts hown hP hK hD hN hS hl kr
  have inX0 : ∀ w ∈ wsX00, w ∈ wsX1_litBehindCut := (fun _ h => List.mem_cons_of_mem _ (List.mem_append_right _ h))
  have inX1 : ∀ w ∈ wsX10, w ∈ wsX1_litBehindCut := (fun _ h => List.mem_cons_of_mem _ (List.mem_append_left _ (List.mem_append_right _ h)))
  have hl : lv_has ls 3 [(0, .ref (ad 0)), (1, .int p1), (2, .int p2)] := hl
  have he := (spX1_litBehindCut_e f0 c0 f1 c1 f2 c2 lo up be si pl cu ge fa p1 p2).symm
  refine lv_aload_n hx hb dX1_litBehindCut_0 rfl (lv_at hl 0 rfl) ?_
  refine va_get (D := (dC, dI)) (ci := 1) (v := .ref (ad 4)) (C := RX1) (T := TX1) (N := 11) hx hb hts inX1 hown hK hP 0 rfl rfl 1 (by decide) (hts (.fieldLink RX1 16 "VineWall" "trial" "LVineWall$Wall;") (List.mem_of_getElem? (i := 1) rfl)) (fun _ h9 => h9) rfl dX1_litBehindCut_1 ?_
  refine lv_aload_n hx hb dX1_litBehindCut_4 rfl (lv_at hl 0 rfl) ?_
  refine va_get (D := (dC, dI)) (ci := 1) (v := .ref (ad 1)) (C := RX1) (T := TX1) (N := 11) hx hb hts inX1 hown hK hP 0 rfl rfl 0 (by decide) (hts (.fieldLink RX1 10 "VineWall" "wall" "LVineWall$Wall;") (List.mem_of_getElem? (i := 2) rfl)) (fun _ h9 => h9) rfl dX1_litBehindCut_5 ?_
  have hPc : va_P (dC, dI) vwCl (gv_WW cI (ad 4) (ad 5) (ad 6) (ad 1) (ad 2) (ad 3) f1 c1 f0 c0) H := gv_sub [4, 5, 6, 1, 2, 3] hP rfl
  have hDc : va_D (gv_in (gv_WW cI (ad 4) (ad 5) (ad 6) (ad 1) (ad 2) (ad 3) f1 c1 f0 c0)) (gv_WW cI (ad 4) (ad 5) (ad 6) (ad 1) (ad 2) (ad 3) f1 c1 f0 c0) := gv_D hD [4, 5, 6, 1, 2, 3] (by decide) rfl
  refine gv_kv (wf := (fun (u : (Nat → Int32) × (Nat → Int32)) => (gv_WW cI (ad 4) (ad 5) (ad 6) (ad 1) (ad 2) (ad 3) u.1 u.2 f0 c0))) (wc := (gv_WW cI (ad 4) (ad 5) (ad 6) (ad 1) (ad 2) (ad 3) f1 c1 f0 c0)) [4, 5, 6, 1, 2, 3] (fun _ => rfl) hP hD hS rfl rfl (va_runV (As := [.ref (ad 1)]) (rest := []) ⟨hx, hb, hml, hown, hts⟩ (kX0_copyFrom l dC dI cI cL (ad 4) (ad 5) (ad 6) (ad 1) (ad 2) (ad 3) f1 c1 f0 c0 (gv_in (gv_WW cI (ad 4) (ad 5) (ad 6) (ad 1) (ad 2) (ad 3) f1 c1 f0 c0))) (cwV (rm := gv_R 0 0) 1 hts gX1_litBehindCut_X0_copyFrom rfl rfl rfl (by decide +kernel) ⟨Nat.le_of_ble_eq_true rfl, Nat.le_of_ble_eq_true rfl⟩) (gv_preV (ci := 0) hK hPc hDc hN rfl rfl) rfl rfl hl.1 rfl (lv_room (Nat.le_of_ble_eq_true rfl)) dX1_litBehindCut_8 ⟨Nat.zero_le _, Nat.zero_le _⟩) (fun u H locs hw hP hD hS => ?_)
  obtain ⟨f_q8, h_q8⟩ := u
  have he := gv_q2 hw he
  have hP : va_P (dC, dI) vwCl (gv_V cI cL ad f0 c0 f_q8 h_q8 f2 c2 lo up be si pl cu ge fa) H := hP
  have hD : va_D A (gv_V cI cL ad f0 c0 f_q8 h_q8 f2 c2 lo up be si pl cu ge fa) := hD
  refine lv_aload_n hx hb dX1_litBehindCut_11 rfl (lv_at hl 0 rfl) ?_
  refine va_get (D := (dC, dI)) (ci := 1) (v := .ref (ad 4)) (C := RX1) (T := TX1) (N := 11) hx hb hts inX1 hown hK hP 0 rfl rfl 1 (by decide) (hts (.fieldLink RX1 16 "VineWall" "trial" "LVineWall$Wall;") (List.mem_of_getElem? (i := 1) rfl)) (fun _ h9 => h9) rfl dX1_litBehindCut_12 ?_
  refine lv_iload_n hx hb dX1_litBehindCut_15 rfl (lv_at hl 1 rfl) ?_
  refine lv_iload_n hx hb dX1_litBehindCut_16 rfl (lv_at hl 2 rfl) ?_
  have hPc : va_P (dC, dI) vwCl (gv_W cI (ad 4) (ad 5) (ad 6) f_q8 h_q8) H := gv_sub [4, 5, 6] hP rfl
  have hDc : va_D (gv_in (gv_W cI (ad 4) (ad 5) (ad 6) f_q8 h_q8)) (gv_W cI (ad 4) (ad 5) (ad 6) f_q8 h_q8) := gv_D hD [4, 5, 6] (by decide) rfl
  refine gv_kv (wf := (fun (u : (Nat → Int32) × (Nat → Int32)) => (gv_W cI (ad 4) (ad 5) (ad 6) u.1 u.2))) (wc := (gv_W cI (ad 4) (ad 5) (ad 6) f_q8 h_q8)) [4, 5, 6] (fun _ => rfl) hP hD hS rfl rfl (va_runV (As := [.int p1, .int p2]) (rest := []) ⟨hx, hb, hml, hown, hts⟩ (kX0_cutLeaf l dC dI cI cL (ad 4) (ad 5) (ad 6) f_q8 h_q8 p1 p2 (gv_in (gv_W cI (ad 4) (ad 5) (ad 6) f_q8 h_q8))) (cwV (rm := gv_R 2 43) 2 hts gX1_litBehindCut_X0_cutLeaf rfl rfl rfl (by decide +kernel) ⟨Nat.le_of_ble_eq_true rfl, Nat.le_of_ble_eq_true rfl⟩) (gv_preV (ci := 0) hK hPc hDc hN rfl rfl) rfl rfl hl.1 rfl (lv_room (Nat.le_of_ble_eq_true rfl)) dX1_litBehindCut_17 ⟨Nat.zero_le _, Nat.zero_le _⟩) (fun u H locs hw hP hD hS => ?_)
  obtain ⟨f_q17, h_q17⟩ := u
  have he := gv_q2 hw he
  have hP : va_P (dC, dI) vwCl (gv_V cI cL ad f0 c0 f_q17 h_q17 f2 c2 lo up be si pl cu ge fa) H := hP
  have hD : va_D A (gv_V cI cL ad f0 c0 f_q17 h_q17 f2 c2 lo up be si pl cu ge fa) := hD
  refine lv_aload_n hx hb dX1_litBehindCut_20 rfl (lv_at hl 0 rfl) ?_
  refine va_get (D := (dC, dI)) (ci := 1) (v := .ref (ad 7)) (C := RX1) (T := TX1) (N := 11) hx hb hts inX1 hown hK hP 0 rfl rfl 2 (by decide) (hts (.fieldLink RX1 19 "VineWall" "behind" "LVineWall$Wall;") (List.mem_of_getElem? (i := 3) rfl)) (fun _ h9 => h9) rfl dX1_litBehindCut_21 ?_
  refine lv_aload_n hx hb dX1_litBehindCut_24 rfl (lv_at hl 0 rfl) ?_
  refine va_get (D := (dC, dI)) (ci := 1) (v := .ref (ad 4)) (C := RX1) (T := TX1) (N := 11) hx hb hts inX1 hown hK hP 0 rfl rfl 1 (by decide) (hts (.fieldLink RX1 16 "VineWall" "trial" "LVineWall$Wall;") (List.mem_of_getElem? (i := 1) rfl)) (fun _ h9 => h9) rfl dX1_litBehindCut_25 ?_
  refine lv_aload_n hx hb dX1_litBehindCut_28 rfl (lv_at hl 0 rfl) ?_
  refine va_get (D := (dC, dI)) (ci := 1) (v := .int si) (C := RX1) (T := TX1) (N := 11) hx hb hts inX1 hown hK hP 0 rfl rfl 6 (by decide) (hts (.fieldLink RX1 33 "VineWall" "beyond" "I") (List.mem_of_getElem? (i := 4) rfl)) (fun _ h9 => h9) rfl dX1_litBehindCut_29 ?_
  refine lv_aload_n hx hb dX1_litBehindCut_32 rfl (lv_at hl 0 rfl) ?_
  refine va_get (D := (dC, dI)) (ci := 1) (v := .ref (ad 12)) (C := RX1) (T := TX1) (N := 11) hx hb hts inX1 hown hK hP 0 rfl rfl 5 (by decide) (hts (.fieldLink RX1 29 "VineWall" "bearings" "[I") (List.mem_of_getElem? (i := 5) rfl)) (fun _ h9 => h9) rfl dX1_litBehindCut_33 ?_
  have hPc : va_P (dC, dI) vwCl (gv_WWA cI (ad 7) (ad 8) (ad 9) (ad 4) (ad 5) (ad 6) (ad 12) f2 c2 f_q17 h_q17 be) H := gv_sub [7, 8, 9, 4, 5, 6, 12] hP rfl
  have hDc : va_D (gv_in (gv_WWA cI (ad 7) (ad 8) (ad 9) (ad 4) (ad 5) (ad 6) (ad 12) f2 c2 f_q17 h_q17 be)) (gv_WWA cI (ad 7) (ad 8) (ad 9) (ad 4) (ad 5) (ad 6) (ad 12) f2 c2 f_q17 h_q17 be) := gv_D hD [7, 8, 9, 4, 5, 6, 12] (by decide) rfl
  refine gv_ki (wf := (fun (u : (Nat → Int32) × (Nat → Int32)) => (gv_WWA cI (ad 7) (ad 8) (ad 9) (ad 4) (ad 5) (ad 6) (ad 12) u.1 u.2 f_q17 h_q17 be))) (wc := (gv_WWA cI (ad 7) (ad 8) (ad 9) (ad 4) (ad 5) (ad 6) (ad 12) f2 c2 f_q17 h_q17 be)) [7, 8, 9, 4, 5, 6, 12] (fun _ => rfl) hP hD hS rfl rfl (va_runV (As := [.ref (ad 4), .int si, .ref (ad 12)]) (rest := []) ⟨hx, hb, hml, hown, hts⟩ (kX0_becomeNextOf l dC dI cI cL (ad 7) (ad 8) (ad 9) (ad 4) (ad 5) (ad 6) (ad 12) f2 c2 f_q17 h_q17 be si (gv_in (gv_WWA cI (ad 7) (ad 8) (ad 9) (ad 4) (ad 5) (ad 6) (ad 12) f2 c2 f_q17 h_q17 be))) (cwV (rm := gv_R 4 99) 3 hts gX1_litBehindCut_X0_becomeNextOf rfl rfl rfl (by decide +kernel) ⟨Nat.le_of_ble_eq_true rfl, Nat.le_of_ble_eq_true rfl⟩) (gv_preV (ci := 0) hK hPc hDc hN rfl rfl) rfl rfl hl.1 rfl (lv_room (Nat.le_of_ble_eq_true rfl)) dX1_litBehindCut_36 ⟨Nat.zero_le _, Nat.zero_le _⟩) (fun q36 u H locs hw hP hD hS => ?_)
  obtain ⟨f_q36, h_q36⟩ := u
  have he := gv_q3 hw he
  have hP : va_P (dC, dI) vwCl (gv_V cI cL ad f0 c0 f_q17 h_q17 f_q36 h_q36 lo up be si pl cu ge fa) H := hP
  have hD : va_D A (gv_V cI cL ad f0 c0 f_q17 h_q17 f_q36 h_q36 lo up be si pl cu ge fa) := hD
  refine lv_pop hx hb dX1_litBehindCut_39 rfl ?_
  refine lv_aload_n hx hb dX1_litBehindCut_40 rfl (lv_at hl 0 rfl) ?_
  refine va_get (D := (dC, dI)) (ci := 1) (v := .ref (ad 7)) (C := RX1) (T := TX1) (N := 11) hx hb hts inX1 hown hK hP 0 rfl rfl 2 (by decide) (hts (.fieldLink RX1 19 "VineWall" "behind" "LVineWall$Wall;") (List.mem_of_getElem? (i := 3) rfl)) (fun _ h9 => h9) rfl dX1_litBehindCut_41 ?_
  have hPc : va_P (dC, dI) vwCl (gv_W cI (ad 7) (ad 8) (ad 9) f_q36 h_q36) H := gv_sub [7, 8, 9] hP rfl
  have hDc : va_D (gv_in (gv_W cI (ad 7) (ad 8) (ad 9) f_q36 h_q36)) (gv_W cI (ad 7) (ad 8) (ad 9) f_q36 h_q36) := gv_D hD [7, 8, 9] (by decide) rfl
  refine gv_ki (wf := (fun (_ : Unit) => (gv_W cI (ad 7) (ad 8) (ad 9) f_q36 h_q36))) (wc := (gv_W cI (ad 7) (ad 8) (ad 9) f_q36 h_q36)) [7, 8, 9] (fun _ => rfl) hP hD hS rfl rfl (va_runV (As := []) (rest := []) ⟨hx, hb, hml, hown, hts⟩ (kX0_countLit l dC dI cI cL (ad 7) (ad 8) (ad 9) f_q36 h_q36 (gv_in (gv_W cI (ad 7) (ad 8) (ad 9) f_q36 h_q36))) (cwV (rm := gv_R 1 20) 0 hts gX1_litBehindCut_X0_countLit rfl rfl rfl (by decide +kernel) ⟨Nat.le_of_ble_eq_true rfl, Nat.le_of_ble_eq_true rfl⟩) (gv_preV (ci := 0) hK hPc hDc hN rfl rfl) rfl rfl hl.1 rfl (lv_room (Nat.le_of_ble_eq_true rfl)) dX1_litBehindCut_44 ⟨Nat.zero_le _, Nat.zero_le _⟩) (fun q44 u H locs hw hP hD hS => ?_)
  have he := gv_q hw he
  have hP : va_P (dC, dI) vwCl (gv_V cI cL ad f0 c0 f_q17 h_q17 f_q36 h_q36 lo up be si pl cu ge fa) H := hP
  have hD : va_D A (gv_V cI cL ad f0 c0 f_q17 h_q17 f_q36 h_q36 lo up be si pl cu ge fa) := hD
  exact kr q44 (f_q17, h_q17, f_q36, h_q36) _ _ _ _ he hP hS dX1_litBehindCut_47
def spX1_leavesNext (f0 : Nat → Int32) (c0 : Nat → Int32) (f1 : Nat → Int32) (c1 : Nat → Int32) (f2 : Nat → Int32) (c2 : Nat → Int32) (lo : Nat → Int64) (up : Nat → Int64) (be : Nat → Int32) (si : Int32) (pl : Int32) (cu : Int32) (ge : Int32) (fa : Int32) : Int32 × (Nat → Int32) × (Nat → Int32) := gv_b3 (spX0_becomeNextOf f2 c2 f0 c0 be si) (fun q16 f_q16 h_q16 => gv_b (spX0_countLeaves f_q16 h_q16) (fun q24 => (q24, f_q16, h_q16)))
theorem spX1_leavesNext_e (f0 : Nat → Int32) (c0 : Nat → Int32) (f1 : Nat → Int32) (c1 : Nat → Int32) (f2 : Nat → Int32) (c2 : Nat → Int32) (lo : Nat → Int64) (up : Nat → Int64) (be : Nat → Int32) (si : Int32) (pl : Int32) (cu : Int32) (ge : Int32) (fa : Int32) : spX1_leavesNext f0 c0 f1 c1 f2 c2 lo up be si pl cu ge fa = gv_b3 (spX0_becomeNextOf f2 c2 f0 c0 be si) (fun q16 f_q16 h_q16 => gv_b (spX0_countLeaves f_q16 h_q16) (fun q24 => (q24, f_q16, h_q16))) := rfl
set_option maxHeartbeats 4000000 in
set_option maxRecDepth 100000 in
theorem kX1_leavesNext (l : Launch) (dC : Nat → ClassId) (dI : Nat → Nat → Nat) (cI cL : ClassId) (ad : Nat → Nat) (f0 : Nat → Int32) (c0 : Nat → Int32) (f1 : Nat → Int32) (c1 : Nat → Int32) (f2 : Nat → Int32) (c2 : Nat → Int32) (lo : Nat → Int64) (up : Nat → Int64) (be : Nat → Int32) (si : Int32) (pl : Int32) (cu : Int32) (ge : Int32) (fa : Int32) : gv_Mi l yX1_leavesNext wsX1_leavesNext 5 124 (dC, dI) [(cI, .int), (cL, .long)] [.ref (ad 0)] (gv_V cI cL ad f0 c0 f1 c1 f2 c2 lo up be si pl cu ge fa) (fun (r : Int32) (u : (Nat → Int32) × (Nat → Int32)) => (r, u) = spX1_leavesNext f0 c0 f1 c1 f2 c2 lo up be si pl cu ge fa) (fun (u : (Nat → Int32) × (Nat → Int32)) => (gv_V cI cL ad f0 c0 f1 c1 u.1 u.2 lo up be si pl cu ge fa)) := by
  refine gv_ofi (cc := cX1_leavesNext) (maxL := 1) (own := RX1) (by decide) rfl (Nat.le_of_ble_eq_true rfl) rfl ?_
  intro A p e s m args below meth c Q ls H locs hx hb hml hts hown hP hK hD hN hS hl kr
  have inX0 : ∀ w ∈ wsX00, w ∈ wsX1_leavesNext := (fun _ h => List.mem_cons_of_mem _ (List.mem_append_right _ h))
  have inX1 : ∀ w ∈ wsX10, w ∈ wsX1_leavesNext := (fun _ h => List.mem_cons_of_mem _ (List.mem_append_left _ (List.mem_append_right _ h)))
  have hl : lv_has ls 1 [(0, .ref (ad 0))] := hl
  have he := (spX1_leavesNext_e f0 c0 f1 c1 f2 c2 lo up be si pl cu ge fa).symm
  refine lv_aload_n hx hb dX1_leavesNext_0 rfl (lv_at hl 0 rfl) ?_
  refine va_get (D := (dC, dI)) (ci := 1) (v := .ref (ad 7)) (C := RX1) (T := TX1) (N := 11) hx hb hts inX1 hown hK hP 0 rfl rfl 2 (by decide) (hts (.fieldLink RX1 19 "VineWall" "behind" "LVineWall$Wall;") (List.mem_of_getElem? (i := 1) rfl)) (fun _ h9 => h9) rfl dX1_leavesNext_1 ?_
  refine lv_aload_n hx hb dX1_leavesNext_4 rfl (lv_at hl 0 rfl) ?_
  refine va_get (D := (dC, dI)) (ci := 1) (v := .ref (ad 1)) (C := RX1) (T := TX1) (N := 11) hx hb hts inX1 hown hK hP 0 rfl rfl 0 (by decide) (hts (.fieldLink RX1 10 "VineWall" "wall" "LVineWall$Wall;") (List.mem_of_getElem? (i := 2) rfl)) (fun _ h9 => h9) rfl dX1_leavesNext_5 ?_
  refine lv_aload_n hx hb dX1_leavesNext_8 rfl (lv_at hl 0 rfl) ?_
  refine va_get (D := (dC, dI)) (ci := 1) (v := .int si) (C := RX1) (T := TX1) (N := 11) hx hb hts inX1 hown hK hP 0 rfl rfl 6 (by decide) (hts (.fieldLink RX1 33 "VineWall" "beyond" "I") (List.mem_of_getElem? (i := 3) rfl)) (fun _ h9 => h9) rfl dX1_leavesNext_9 ?_
  refine lv_aload_n hx hb dX1_leavesNext_12 rfl (lv_at hl 0 rfl) ?_
  refine va_get (D := (dC, dI)) (ci := 1) (v := .ref (ad 12)) (C := RX1) (T := TX1) (N := 11) hx hb hts inX1 hown hK hP 0 rfl rfl 5 (by decide) (hts (.fieldLink RX1 29 "VineWall" "bearings" "[I") (List.mem_of_getElem? (i := 4) rfl)) (fun _ h9 => h9) rfl dX1_leavesNext_13 ?_
  have hPc : va_P (dC, dI) vwCl (gv_WWA cI (ad 7) (ad 8) (ad 9) (ad 1) (ad 2) (ad 3) (ad 12) f2 c2 f0 c0 be) H := gv_sub [7, 8, 9, 1, 2, 3, 12] hP rfl
  have hDc : va_D (gv_in (gv_WWA cI (ad 7) (ad 8) (ad 9) (ad 1) (ad 2) (ad 3) (ad 12) f2 c2 f0 c0 be)) (gv_WWA cI (ad 7) (ad 8) (ad 9) (ad 1) (ad 2) (ad 3) (ad 12) f2 c2 f0 c0 be) := gv_D hD [7, 8, 9, 1, 2, 3, 12] (by decide) rfl
  refine gv_ki (wf := (fun (u : (Nat → Int32) × (Nat → Int32)) => (gv_WWA cI (ad 7) (ad 8) (ad 9) (ad 1) (ad 2) (ad 3) (ad 12) u.1 u.2 f0 c0 be))) (wc := (gv_WWA cI (ad 7) (ad 8) (ad 9) (ad 1) (ad 2) (ad 3) (ad 12) f2 c2 f0 c0 be)) [7, 8, 9, 1, 2, 3, 12] (fun _ => rfl) hP hD hS rfl rfl (va_runV (As := [.ref (ad 1), .int si, .ref (ad 12)]) (rest := []) ⟨hx, hb, hml, hown, hts⟩ (kX0_becomeNextOf l dC dI cI cL (ad 7) (ad 8) (ad 9) (ad 1) (ad 2) (ad 3) (ad 12) f2 c2 f0 c0 be si (gv_in (gv_WWA cI (ad 7) (ad 8) (ad 9) (ad 1) (ad 2) (ad 3) (ad 12) f2 c2 f0 c0 be))) (cwV (rm := gv_R 4 99) 3 hts gX1_leavesNext_X0_becomeNextOf rfl rfl rfl (by decide +kernel) ⟨Nat.le_of_ble_eq_true rfl, Nat.le_of_ble_eq_true rfl⟩) (gv_preV (ci := 0) hK hPc hDc hN rfl rfl) rfl rfl hl.1 rfl (lv_room (Nat.le_of_ble_eq_true rfl)) dX1_leavesNext_16 ⟨Nat.zero_le _, Nat.zero_le _⟩) (fun q16 u H locs hw hP hD hS => ?_)
  obtain ⟨f_q16, h_q16⟩ := u
  have he := gv_q3 hw he
  have hP : va_P (dC, dI) vwCl (gv_V cI cL ad f0 c0 f1 c1 f_q16 h_q16 lo up be si pl cu ge fa) H := hP
  have hD : va_D A (gv_V cI cL ad f0 c0 f1 c1 f_q16 h_q16 lo up be si pl cu ge fa) := hD
  refine lv_pop hx hb dX1_leavesNext_19 rfl ?_
  refine lv_aload_n hx hb dX1_leavesNext_20 rfl (lv_at hl 0 rfl) ?_
  refine va_get (D := (dC, dI)) (ci := 1) (v := .ref (ad 7)) (C := RX1) (T := TX1) (N := 11) hx hb hts inX1 hown hK hP 0 rfl rfl 2 (by decide) (hts (.fieldLink RX1 19 "VineWall" "behind" "LVineWall$Wall;") (List.mem_of_getElem? (i := 1) rfl)) (fun _ h9 => h9) rfl dX1_leavesNext_21 ?_
  have hPc : va_P (dC, dI) vwCl (gv_W cI (ad 7) (ad 8) (ad 9) f_q16 h_q16) H := gv_sub [7, 8, 9] hP rfl
  have hDc : va_D (gv_in (gv_W cI (ad 7) (ad 8) (ad 9) f_q16 h_q16)) (gv_W cI (ad 7) (ad 8) (ad 9) f_q16 h_q16) := gv_D hD [7, 8, 9] (by decide) rfl
  refine gv_ki (wf := (fun (_ : Unit) => (gv_W cI (ad 7) (ad 8) (ad 9) f_q16 h_q16))) (wc := (gv_W cI (ad 7) (ad 8) (ad 9) f_q16 h_q16)) [7, 8, 9] (fun _ => rfl) hP hD hS rfl rfl (va_runV (As := []) (rest := []) ⟨hx, hb, hml, hown, hts⟩ (kX0_countLeaves l dC dI cI cL (ad 7) (ad 8) (ad 9) f_q16 h_q16 (gv_in (gv_W cI (ad 7) (ad 8) (ad 9) f_q16 h_q16))) (cwV (rm := gv_R 1 20) 0 hts gX1_leavesNext_X0_countLeaves rfl rfl rfl (by decide +kernel) ⟨Nat.le_of_ble_eq_true rfl, Nat.le_of_ble_eq_true rfl⟩) (gv_preV (ci := 0) hK hPc hDc hN rfl rfl) rfl rfl hl.1 rfl (lv_room (Nat.le_of_ble_eq_true rfl)) dX1_leavesNext_24 ⟨Nat.zero_le _, Nat.zero_le _⟩) (fun q24 u H locs hw hP hD hS => ?_)
  have he := gv_q hw he
  have hP : va_P (dC, dI) vwCl (gv_V cI cL ad f0 c0 f1 c1 f_q16 h_q16 lo up be si pl cu ge fa) H := hP
  have hD : va_D A (gv_V cI cL ad f0 c0 f1 c1 f_q16 h_q16 lo up be si pl cu ge fa) := hD
  exact kr q24 (f_q16, h_q16) _ _ _ _ he hP hS dX1_leavesNext_27
def spX1_remember (f0 : Nat → Int32) (c0 : Nat → Int32) (f1 : Nat → Int32) (c1 : Nat → Int32) (f2 : Nat → Int32) (c2 : Nat → Int32) (lo : Nat → Int64) (up : Nat → Int64) (be : Nat → Int32) (si : Int32) (pl : Int32) (cu : Int32) (ge : Int32) (fa : Int32) (w1 : Nat) : (Nat → Int64) × (Nat → Int64) := gv_b (spX0_leavesOfHalf f1 c1 0) (fun q10 => gv_b (spX0_leavesOfHalf f1 c1 4) (fun q24 => (vp_updL lo w1 q10, vp_updL up w1 q24)))
theorem spX1_remember_e (f0 : Nat → Int32) (c0 : Nat → Int32) (f1 : Nat → Int32) (c1 : Nat → Int32) (f2 : Nat → Int32) (c2 : Nat → Int32) (lo : Nat → Int64) (up : Nat → Int64) (be : Nat → Int32) (si : Int32) (pl : Int32) (cu : Int32) (ge : Int32) (fa : Int32) (w1 : Nat) : spX1_remember f0 c0 f1 c1 f2 c2 lo up be si pl cu ge fa w1 = gv_b (spX0_leavesOfHalf f1 c1 0) (fun q10 => gv_b (spX0_leavesOfHalf f1 c1 4) (fun q24 => (vp_updL lo w1 q10, vp_updL up w1 q24))) := rfl
set_option maxHeartbeats 4000000 in
set_option maxRecDepth 100000 in
theorem kX1_remember (l : Launch) (dC : Nat → ClassId) (dI : Nat → Nat → Nat) (cI cL : ClassId) (ad : Nat → Nat) (f0 : Nat → Int32) (c0 : Nat → Int32) (f1 : Nat → Int32) (c1 : Nat → Int32) (f2 : Nat → Int32) (c2 : Nat → Int32) (lo : Nat → Int64) (up : Nat → Int64) (be : Nat → Int32) (si : Int32) (pl : Int32) (cu : Int32) (ge : Int32) (fa : Int32) (p1 : Int32) (w1 : Nat) (hw1 : p1 = nI w1) (hy0 : w1 < 61) : gv_Mv l yX1_remember wsX1_remember 2 45 (dC, dI) [(cI, .int), (cL, .long)] [.ref (ad 0), .int p1] (gv_V cI cL ad f0 c0 f1 c1 f2 c2 lo up be si pl cu ge fa) (fun (u : (Nat → Int64) × (Nat → Int64)) => u = spX1_remember f0 c0 f1 c1 f2 c2 lo up be si pl cu ge fa w1) (fun (u : (Nat → Int64) × (Nat → Int64)) => (gv_V cI cL ad f0 c0 f1 c1 f2 c2 u.1 u.2 be si pl cu ge fa)) := by
  subst hw1
  refine gv_ofv (cc := cX1_remember) (maxL := 2) (own := RX1) (by decide) rfl (Nat.le_of_ble_eq_true rfl) rfl ?_
  intro A p e s m args below meth c Q ls H locs hx hb hml hts hown hP hK hD hN hS hl kr
  have inX0 : ∀ w ∈ wsX00, w ∈ wsX1_remember := (fun _ h => List.mem_cons_of_mem _ (List.mem_append_right _ h))
  have inX1 : ∀ w ∈ wsX10, w ∈ wsX1_remember := (fun _ h => List.mem_cons_of_mem _ (List.mem_append_left _ (List.mem_append_right _ h)))
  have hl : lv_has ls 2 [(0, .ref (ad 0)), (1, .int (nI w1))] := hl
  have he := (spX1_remember_e f0 c0 f1 c1 f2 c2 lo up be si pl cu ge fa w1).symm
  refine lv_aload_n hx hb dX1_remember_0 rfl (lv_at hl 0 rfl) ?_
  refine va_get (D := (dC, dI)) (ci := 1) (v := .ref (ad 10)) (C := RX1) (T := TX1) (N := 11) hx hb hts inX1 hown hK hP 0 rfl rfl 3 (by decide) (hts (.fieldLink RX1 22 "VineWall" "lowerHalves" "[J") (List.mem_of_getElem? (i := 1) rfl)) (fun _ h9 => h9) rfl dX1_remember_1 ?_
  refine lv_iload_n hx hb dX1_remember_4 rfl (lv_at hl 1 rfl) ?_
  refine lv_aload_n hx hb dX1_remember_5 rfl (lv_at hl 0 rfl) ?_
  refine va_get (D := (dC, dI)) (ci := 1) (v := .ref (ad 4)) (C := RX1) (T := TX1) (N := 11) hx hb hts inX1 hown hK hP 0 rfl rfl 1 (by decide) (hts (.fieldLink RX1 16 "VineWall" "trial" "LVineWall$Wall;") (List.mem_of_getElem? (i := 2) rfl)) (fun _ h9 => h9) rfl dX1_remember_6 ?_
  refine lv_iconst (v := 0) hx hb dX1_remember_9 (by decide) ?_
  have hPc : va_P (dC, dI) vwCl (gv_W cI (ad 4) (ad 5) (ad 6) f1 c1) H := gv_sub [4, 5, 6] hP rfl
  have hDc : va_D (gv_in (gv_W cI (ad 4) (ad 5) (ad 6) f1 c1)) (gv_W cI (ad 4) (ad 5) (ad 6) f1 c1) := gv_D hD [4, 5, 6] (by decide) rfl
  refine gv_kl (wf := (fun (_ : Unit) => (gv_W cI (ad 4) (ad 5) (ad 6) f1 c1))) (wc := (gv_W cI (ad 4) (ad 5) (ad 6) f1 c1)) [4, 5, 6] (fun _ => rfl) hP hD hS rfl rfl (va_runV (As := [.int 0]) (rest := [.int (nI w1), .ref (ad 10)]) ⟨hx, hb, hml, hown, hts⟩ (kX0_leavesOfHalf l dC dI cI cL (ad 4) (ad 5) (ad 6) f1 c1 0 0 (rfl : (0 : Int32) = nI 0) (by omega) (gv_in (gv_W cI (ad 4) (ad 5) (ad 6) f1 c1))) (cwV (rm := gv_R 1 21) 1 hts gX1_remember_X0_leavesOfHalf rfl rfl rfl (by decide +kernel) ⟨Nat.le_of_ble_eq_true rfl, Nat.le_of_ble_eq_true rfl⟩) (gv_preV (ci := 0) hK hPc hDc hN rfl rfl) rfl rfl hl.1 rfl (lv_room (Nat.le_of_ble_eq_true rfl)) dX1_remember_10 ⟨Nat.zero_le _, Nat.zero_le _⟩) (fun q10 u H locs hw hP hD hS => ?_)
  have he := gv_q hw he
  have hP : va_P (dC, dI) vwCl (gv_V cI cL ad f0 c0 f1 c1 f2 c2 lo up be si pl cu ge fa) H := hP
  have hD : va_D A (gv_V cI cL ad f0 c0 f1 c1 f2 c2 lo up be si pl cu ge fa) := hD
  refine gv_last (cA := cL) (k := w1) hx hb hK hP hD hS 10 1 rfl rfl rfl (by omega) (by decide) dX1_remember_13 (fun H locs hP hD hS => ?_)
  have hP : va_P (dC, dI) vwCl (gv_V cI cL ad f0 c0 f1 c1 f2 c2 (vp_updL lo w1 q10) up be si pl cu ge fa) H := hP
  have hD : va_D A (gv_V cI cL ad f0 c0 f1 c1 f2 c2 (vp_updL lo w1 q10) up be si pl cu ge fa) := hD
  refine lv_aload_n hx hb dX1_remember_14 rfl (lv_at hl 0 rfl) ?_
  refine va_get (D := (dC, dI)) (ci := 1) (v := .ref (ad 11)) (C := RX1) (T := TX1) (N := 11) hx hb hts inX1 hown hK hP 0 rfl rfl 4 (by decide) (hts (.fieldLink RX1 26 "VineWall" "upperHalves" "[J") (List.mem_of_getElem? (i := 3) rfl)) (fun _ h9 => h9) rfl dX1_remember_15 ?_
  refine lv_iload_n hx hb dX1_remember_18 rfl (lv_at hl 1 rfl) ?_
  refine lv_aload_n hx hb dX1_remember_19 rfl (lv_at hl 0 rfl) ?_
  refine va_get (D := (dC, dI)) (ci := 1) (v := .ref (ad 4)) (C := RX1) (T := TX1) (N := 11) hx hb hts inX1 hown hK hP 0 rfl rfl 1 (by decide) (hts (.fieldLink RX1 16 "VineWall" "trial" "LVineWall$Wall;") (List.mem_of_getElem? (i := 2) rfl)) (fun _ h9 => h9) rfl dX1_remember_20 ?_
  refine lv_iconst (v := 4) hx hb dX1_remember_23 (by decide) ?_
  have hPc : va_P (dC, dI) vwCl (gv_W cI (ad 4) (ad 5) (ad 6) f1 c1) H := gv_sub [4, 5, 6] hP rfl
  have hDc : va_D (gv_in (gv_W cI (ad 4) (ad 5) (ad 6) f1 c1)) (gv_W cI (ad 4) (ad 5) (ad 6) f1 c1) := gv_D hD [4, 5, 6] (by decide) rfl
  refine gv_kl (wf := (fun (_ : Unit) => (gv_W cI (ad 4) (ad 5) (ad 6) f1 c1))) (wc := (gv_W cI (ad 4) (ad 5) (ad 6) f1 c1)) [4, 5, 6] (fun _ => rfl) hP hD hS rfl rfl (va_runV (As := [.int 4]) (rest := [.int (nI w1), .ref (ad 11)]) ⟨hx, hb, hml, hown, hts⟩ (kX0_leavesOfHalf l dC dI cI cL (ad 4) (ad 5) (ad 6) f1 c1 4 4 (rfl : (4 : Int32) = nI 4) (by omega) (gv_in (gv_W cI (ad 4) (ad 5) (ad 6) f1 c1))) (cwV (rm := gv_R 1 21) 1 hts gX1_remember_X0_leavesOfHalf rfl rfl rfl (by decide +kernel) ⟨Nat.le_of_ble_eq_true rfl, Nat.le_of_ble_eq_true rfl⟩) (gv_preV (ci := 0) hK hPc hDc hN rfl rfl) rfl rfl hl.1 rfl (lv_room (Nat.le_of_ble_eq_true rfl)) dX1_remember_24 ⟨Nat.zero_le _, Nat.zero_le _⟩) (fun q24 u H locs hw hP hD hS => ?_)
  have he := gv_q hw he
  have hP : va_P (dC, dI) vwCl (gv_V cI cL ad f0 c0 f1 c1 f2 c2 (vp_updL lo w1 q10) up be si pl cu ge fa) H := hP
  have hD : va_D A (gv_V cI cL ad f0 c0 f1 c1 f2 c2 (vp_updL lo w1 q10) up be si pl cu ge fa) := hD
  refine gv_last (cA := cL) (k := w1) hx hb hK hP hD hS 11 1 rfl rfl rfl (by omega) (by decide) dX1_remember_27 (fun H locs hP hD hS => ?_)
  have hP : va_P (dC, dI) vwCl (gv_V cI cL ad f0 c0 f1 c1 f2 c2 (vp_updL lo w1 q10) (vp_updL up w1 q24) be si pl cu ge fa) H := hP
  have hD : va_D A (gv_V cI cL ad f0 c0 f1 c1 f2 c2 (vp_updL lo w1 q10) (vp_updL up w1 q24) be si pl cu ge fa) := hD
  exact kr (vp_updL lo w1 q10, vp_updL up w1 q24) _ _ _ _ he hP hS dX1_remember_28
def lpX1_looksAsBefore_2 (n1_2 : Nat) (f0_c : Nat → Int32) (c0_c : Nat → Int32) (f1_c : Nat → Int32) (c1_c : Nat → Int32) (f2_c : Nat → Int32) (c2_c : Nat → Int32) (lo_c : Nat → Int64) (up_c : Nat → Int64) (be_c : Nat → Int32) (si_c : Int32) (pl_c : Int32) (cu_c : Int32) (ge_c : Int32) (fa_c : Int32) : Nat → Nat → Int32
  | 0, _ => 0
  | n2 + 1, i2 => (if (lg_cmp (lo_c i2) (lo_c n1_2)) = 0 then (if (lg_cmp (up_c i2) (up_c n1_2)) = 0 then 1 else lpX1_looksAsBefore_2 n1_2 f0_c c0_c f1_c c1_c f2_c c2_c lo_c up_c be_c si_c pl_c cu_c ge_c fa_c n2 (i2 + 1) ) else lpX1_looksAsBefore_2 n1_2 f0_c c0_c f1_c c1_c f2_c c2_c lo_c up_c be_c si_c pl_c cu_c ge_c fa_c n2 (i2 + 1) )
theorem lpX1_looksAsBefore_2_0 (n1_2 : Nat) (f0_c : Nat → Int32) (c0_c : Nat → Int32) (f1_c : Nat → Int32) (c1_c : Nat → Int32) (f2_c : Nat → Int32) (c2_c : Nat → Int32) (lo_c : Nat → Int64) (up_c : Nat → Int64) (be_c : Nat → Int32) (si_c : Int32) (pl_c : Int32) (cu_c : Int32) (ge_c : Int32) (fa_c : Int32) (i2 : Nat)  : lpX1_looksAsBefore_2 n1_2 f0_c c0_c f1_c c1_c f2_c c2_c lo_c up_c be_c si_c pl_c cu_c ge_c fa_c 0 i2 = 0 := rfl
theorem lpX1_looksAsBefore_2_s (n1_2 : Nat) (f0_c : Nat → Int32) (c0_c : Nat → Int32) (f1_c : Nat → Int32) (c1_c : Nat → Int32) (f2_c : Nat → Int32) (c2_c : Nat → Int32) (lo_c : Nat → Int64) (up_c : Nat → Int64) (be_c : Nat → Int32) (si_c : Int32) (pl_c : Int32) (cu_c : Int32) (ge_c : Int32) (fa_c : Int32) (n2 : Nat) (i2 : Nat)  : lpX1_looksAsBefore_2 n1_2 f0_c c0_c f1_c c1_c f2_c c2_c lo_c up_c be_c si_c pl_c cu_c ge_c fa_c (n2 + 1) i2 = (if (lg_cmp (lo_c i2) (lo_c n1_2)) = 0 then (if (lg_cmp (up_c i2) (up_c n1_2)) = 0 then 1 else lpX1_looksAsBefore_2 n1_2 f0_c c0_c f1_c c1_c f2_c c2_c lo_c up_c be_c si_c pl_c cu_c ge_c fa_c n2 (i2 + 1) ) else lpX1_looksAsBefore_2 n1_2 f0_c c0_c f1_c c1_c f2_c c2_c lo_c up_c be_c si_c pl_c cu_c ge_c fa_c n2 (i2 + 1) ) := rfl
def spX1_looksAsBefore (f0 : Nat → Int32) (c0 : Nat → Int32) (f1 : Nat → Int32) (c1 : Nat → Int32) (f2 : Nat → Int32) (c2 : Nat → Int32) (lo : Nat → Int64) (up : Nat → Int64) (be : Nat → Int32) (si : Int32) (pl : Int32) (cu : Int32) (ge : Int32) (fa : Int32) (w1 : Nat) (w2 : Nat) : Int32 := lpX1_looksAsBefore_2 w1 f0 c0 f1 c1 f2 c2 lo up be si pl cu ge fa (w1 - w2) w2 
theorem spX1_looksAsBefore_e (f0 : Nat → Int32) (c0 : Nat → Int32) (f1 : Nat → Int32) (c1 : Nat → Int32) (f2 : Nat → Int32) (c2 : Nat → Int32) (lo : Nat → Int64) (up : Nat → Int64) (be : Nat → Int32) (si : Int32) (pl : Int32) (cu : Int32) (ge : Int32) (fa : Int32) (w1 : Nat) (w2 : Nat) : spX1_looksAsBefore f0 c0 f1 c1 f2 c2 lo up be si pl cu ge fa w1 w2 = lpX1_looksAsBefore_2 w1 f0 c0 f1 c1 f2 c2 lo up be si pl cu ge fa (w1 - w2) w2  := rfl
set_option maxHeartbeats 4000000 in
set_option maxRecDepth 100000 in
theorem kX1_looksAsBefore (l : Launch) (dC : Nat → ClassId) (dI : Nat → Nat → Nat) (cI cL : ClassId) (ad : Nat → Nat) (f0 : Nat → Int32) (c0 : Nat → Int32) (f1 : Nat → Int32) (c1 : Nat → Int32) (f2 : Nat → Int32) (c2 : Nat → Int32) (lo : Nat → Int64) (up : Nat → Int64) (be : Nat → Int32) (si : Int32) (pl : Int32) (cu : Int32) (ge : Int32) (fa : Int32) (p1 : Int32) (w1 : Nat) (hw1 : p1 = nI w1) (p2 : Int32) (w2 : Nat) (hw2 : p2 = nI w2) (hy0 : w1 < 61) (hy1 : w2 ≤ w1) : gv_Mi l yX1_looksAsBefore wsX1_looksAsBefore 0 0 (dC, dI) [(cI, .int), (cL, .long)] [.ref (ad 0), .int p1, .int p2] (gv_V cI cL ad f0 c0 f1 c1 f2 c2 lo up be si pl cu ge fa) (fun (r : Int32) (_ : Unit) => r = spX1_looksAsBefore f0 c0 f1 c1 f2 c2 lo up be si pl cu ge fa w1 w2) (fun (_ : Unit) => (gv_V cI cL ad f0 c0 f1 c1 f2 c2 lo up be si pl cu ge fa)) := by
  subst hw1
  subst hw2
  refine gv_ofz (cc := cX1_looksAsBefore) (maxL := 4) (own := RX1) (ty := .boolean) (by decide) rfl (Nat.le_of_ble_eq_true rfl) rfl ?_
  intro A p e s m args below meth c Q ls H locs hx hb hml hts hown hP hK hD hN hS hl kr
  have inX1 : ∀ w ∈ wsX10, w ∈ wsX1_looksAsBefore := (fun _ h => List.mem_cons_of_mem _ (List.mem_append_right _ h))
  have hl : lv_has ls 4 [(0, .ref (ad 0)), (1, .int (nI w1)), (2, .int (nI w2))] := hl
  have he := (spX1_looksAsBefore_e f0 c0 f1 c1 f2 c2 lo up be si pl cu ge fa w1 w2).symm
  refine lv_iload_n hx hb dX1_looksAsBefore_0 rfl (lv_at hl 2 rfl) ?_
  refine lv_istore_n (lv' := [(3, .int (nI w2)), (0, .ref (ad 0)), (1, .int (nI w1)), (2, .int (nI w2))]) hx hb dX1_looksAsBefore_1 rfl hl (by decide) rfl (fun ls hl => ?_)
  have L2 : ∀ (n2 i2 : Nat) (H : Heap) (locs : List Loc) (ls : Array Slot), w2 ≤ i2 ∧ i2 + n2 = w1 → lpX1_looksAsBefore_2 w1 f0 c0 f1 c1 f2 c2 lo up be si pl cu ge fa n2 i2  = spX1_looksAsBefore f0 c0 f1 c1 f2 c2 lo up be si pl cu ge fa w1 w2 → va_P (dC, dI) vwCl (gv_V cI cL ad f0 c0 f1 c1 f2 c2 lo up be si pl cu ge fa) H → va_D A (gv_V cI cL ad f0 c0 f1 c1 f2 c2 lo up be si pl cu ge fa) → va_S A s.heap H locs → lv_has ls 4 [(0, .ref (ad 0)), (1, .int (nI w1)), (2, .int (nI w2)), (3, .int (nI i2))] → W p l e (gv_R 0 0) s m args below meth c H locs 0 0 Q (F0 m 2 ls []) := by
    intro n2
    induction n2 with
    | zero =>
      intro i2  H locs ls hi2 he hP hD hS hl
      have he := (lpX1_looksAsBefore_2_0 _ _ _ _ _ _ _ _ _ _ _ _ _ _ _ _).symm.trans he
      refine lv_iload_n hx hb dX1_looksAsBefore_2 rfl (lv_at hl 3 rfl) ?_
      refine lv_iload_n hx hb dX1_looksAsBefore_3 rfl (lv_at hl 1 rfl) ?_
      refine lv_icmp_ge (tgt := 47) hx hb dX1_looksAsBefore_4 (by decide) (fun _ => ?_) (fun c => absurd c (gv_ge (N := w1) rfl rfl (by omega) (by omega)))
      refine lv_iconst (v := 0) hx hb dX1_looksAsBefore_47 (by decide) ?_
      exact kr 0 () _ _ _ _ rfl he hP hS dX1_looksAsBefore_48
    | succ n2 ih2 =>
      intro i2  H locs ls hi2 he hP hD hS hl
      have he := (lpX1_looksAsBefore_2_s _ _ _ _ _ _ _ _ _ _ _ _ _ _ _ _ _).symm.trans he
      refine lv_iload_n hx hb dX1_looksAsBefore_2 rfl (lv_at hl 3 rfl) ?_
      refine lv_iload_n hx hb dX1_looksAsBefore_3 rfl (lv_at hl 1 rfl) ?_
      refine lv_icmp_ge (tgt := 47) hx hb dX1_looksAsBefore_4 (by decide) (fun c => absurd c (gv_lt (N := w1) rfl rfl (by omega) (by omega))) (fun _ => ?_)
      refine lv_aload_n hx hb dX1_looksAsBefore_7 rfl (lv_at hl 0 rfl) ?_
      refine va_get (D := (dC, dI)) (ci := 1) (v := .ref (ad 10)) (C := RX1) (T := TX1) (N := 11) hx hb hts inX1 hown hK hP 0 rfl rfl 3 (by decide) (hts (.fieldLink RX1 22 "VineWall" "lowerHalves" "[J") (List.mem_of_getElem? (i := 1) rfl)) (fun _ h9 => h9) rfl dX1_looksAsBefore_8 ?_
      refine lv_iload_n hx hb dX1_looksAsBefore_11 rfl (lv_at hl 3 rfl) ?_
      refine gv_lald (cA := cL) (f := lo) (k := i2) hx hb hK hP 10 1 rfl rfl rfl (by omega) (by decide) dX1_looksAsBefore_12 ?_
      refine lv_aload_n hx hb dX1_looksAsBefore_13 rfl (lv_at hl 0 rfl) ?_
      refine va_get (D := (dC, dI)) (ci := 1) (v := .ref (ad 10)) (C := RX1) (T := TX1) (N := 11) hx hb hts inX1 hown hK hP 0 rfl rfl 3 (by decide) (hts (.fieldLink RX1 22 "VineWall" "lowerHalves" "[J") (List.mem_of_getElem? (i := 1) rfl)) (fun _ h9 => h9) rfl dX1_looksAsBefore_14 ?_
      refine lv_iload_n hx hb dX1_looksAsBefore_17 rfl (lv_at hl 1 rfl) ?_
      refine gv_lald (cA := cL) (f := lo) (k := w1) hx hb hK hP 10 1 rfl rfl rfl (by omega) (by decide) dX1_looksAsBefore_18 ?_
      refine W.lcmp hx hb dX1_looksAsBefore_19 ?_
      refine lv_if_ne (tgt := 41) hx hb dX1_looksAsBefore_20 (by decide) (fun cd20 => ?_) (fun cd20 => ?_)
      · have he := gv_f cd20 he
        refine lv_iinc (v := (nI (i2 + 1))) (lv' := [(3, .int (nI (i2 + 1))), (0, .ref (ad 0)), (1, .int (nI w1)), (2, .int (nI w2))]) hx hb dX1_looksAsBefore_41 hl (k := 3) rfl (nI_1 i2) (by decide) rfl (fun ls hl => ?_)
        refine lv_goto (tgt := 2) hx hb dX1_looksAsBefore_44 (by decide) ?_
        exact ih2 (i2 + 1)  _ _ _ (by omega) he hP hD hS (lv_sub hl [1, 2, 3, 0] rfl)
      · have he := gv_t cd20 he
        refine lv_aload_n hx hb dX1_looksAsBefore_23 rfl (lv_at hl 0 rfl) ?_
        refine va_get (D := (dC, dI)) (ci := 1) (v := .ref (ad 11)) (C := RX1) (T := TX1) (N := 11) hx hb hts inX1 hown hK hP 0 rfl rfl 4 (by decide) (hts (.fieldLink RX1 26 "VineWall" "upperHalves" "[J") (List.mem_of_getElem? (i := 2) rfl)) (fun _ h9 => h9) rfl dX1_looksAsBefore_24 ?_
        refine lv_iload_n hx hb dX1_looksAsBefore_27 rfl (lv_at hl 3 rfl) ?_
        refine gv_lald (cA := cL) (f := up) (k := i2) hx hb hK hP 11 1 rfl rfl rfl (by omega) (by decide) dX1_looksAsBefore_28 ?_
        refine lv_aload_n hx hb dX1_looksAsBefore_29 rfl (lv_at hl 0 rfl) ?_
        refine va_get (D := (dC, dI)) (ci := 1) (v := .ref (ad 11)) (C := RX1) (T := TX1) (N := 11) hx hb hts inX1 hown hK hP 0 rfl rfl 4 (by decide) (hts (.fieldLink RX1 26 "VineWall" "upperHalves" "[J") (List.mem_of_getElem? (i := 2) rfl)) (fun _ h9 => h9) rfl dX1_looksAsBefore_30 ?_
        refine lv_iload_n hx hb dX1_looksAsBefore_33 rfl (lv_at hl 1 rfl) ?_
        refine gv_lald (cA := cL) (f := up) (k := w1) hx hb hK hP 11 1 rfl rfl rfl (by omega) (by decide) dX1_looksAsBefore_34 ?_
        refine W.lcmp hx hb dX1_looksAsBefore_35 ?_
        refine lv_if_ne (tgt := 41) hx hb dX1_looksAsBefore_36 (by decide) (fun cd36 => ?_) (fun cd36 => ?_)
        · have he := gv_f cd36 he
          refine lv_iinc (v := (nI (i2 + 1))) (lv' := [(3, .int (nI (i2 + 1))), (0, .ref (ad 0)), (1, .int (nI w1)), (2, .int (nI w2))]) hx hb dX1_looksAsBefore_41 hl (k := 3) rfl (nI_1 i2) (by decide) rfl (fun ls hl => ?_)
          refine lv_goto (tgt := 2) hx hb dX1_looksAsBefore_44 (by decide) ?_
          exact ih2 (i2 + 1)  _ _ _ (by omega) he hP hD hS (lv_sub hl [1, 2, 3, 0] rfl)
        · have he := gv_t cd36 he
          refine lv_iconst (v := 1) hx hb dX1_looksAsBefore_39 (by decide) ?_
          exact kr 1 () _ _ _ _ rfl he hP hS dX1_looksAsBefore_40
  exact L2 (w1 - w2) w2  _ _ _ (by omega) he hP hD hS (lv_sub hl [1, 2, 3, 0] rfl)
