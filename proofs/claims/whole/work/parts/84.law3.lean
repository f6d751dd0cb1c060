set_option maxHeartbeats 4000000 in
set_option maxRecDepth 100000 in
theorem lw_c10 {p : Program} {l : Launch} {e : Env} {s : State} {m : MethodId} {below : List Frame} {meth : Method} {c : Code} {b L : Nat} {xs : Nat → Int32} {dC : Nat → ClassId} {dI : Nat → Nat → Nat} {cI cL : ClassId} {ad am : Nat → Nat} {oa k : Nat} (C0 : lw_C p l s m c b L xs dC dI cI cL) (hk : 3 * k + 3 ≤ L) (J : lw_J p l e s m below meth c b dC dI cI cL ad am oa k (k + 1) 823) : lw_J p l e s m below meth c b dC dI cI cL ad am oa k k 708 := by
  obtain ⟨hx, hb, hml, hown, hts, hX, hbl, hK, hN, hT, hst, hL⟩ := C0
  have hbA : ¬ (fun q : Nat => s.heap.size ≤ q) b := Nat.not_le.mpr hbl
  intro f0 c0 f1 c1 f2 c2 lo up be si pl cu ge fa ou g bm sim gem cum plm brm th H locs ls hR hP hD hS hl
  refine W.widen (k := 17 + 2 * (k + 1)) (n := 6172 + 12 * (k + 1)) (by omega) (by omega) ?_
  have e2 := ms_leaves (f1 := f1) (c1 := c1) (f2 := f2) (c2 := c2) (lo := lo) (up := up) (th := th) hR
  refine lv_aload_n hx hb dL_law_708 rfl (lv_at hl 1 rfl) ?_
  have hPc : va_P (dC, dI) vwCl (gv_V cI cL ad f0 c0 f1 c1 f2 c2 lo up be si pl cu ge fa) H := gv_sub [0, 1, 2, 3, 4, 5, 6, 7, 8, 9, 10, 11, 12] hP rfl
  have hDc : va_D (gv_in (gv_V cI cL ad f0 c0 f1 c1 f2 c2 lo up be si pl cu ge fa)) (gv_V cI cL ad f0 c0 f1 c1 f2 c2 lo up be si pl cu ge fa) := gv_D hD [0, 1, 2, 3, 4, 5, 6, 7, 8, 9, 10, 11, 12] (by decide) rfl
  refine gv_ki (wf := (fun (_ : Unit) => (gv_V cI cL ad f0 c0 f1 c1 f2 c2 lo up be si pl cu ge fa))) (wc := (gv_V cI cL ad f0 c0 f1 c1 f2 c2 lo up be si pl cu ge fa)) [0, 1, 2, 3, 4, 5, 6, 7, 8, 9, 10, 11, 12] (fun _ => rfl) hP hD hS rfl rfl (va_runV (As := []) (rest := []) ⟨hx, hb, hml, hown, hts⟩ (kX1_leaves l dC dI cI cL ad f0 c0 f1 c1 f2 c2 lo up be si pl cu ge fa (gv_in (gv_V cI cL ad f0 c0 f1 c1 f2 c2 lo up be si pl cu ge fa))) (cwV (rm := gv_R 2 42) 0 hts gL_law_X1_leaves rfl rfl rfl (by decide +kernel) ⟨(Nat.le_of_ble_eq_true rfl), (Nat.le_of_ble_eq_true rfl)⟩) (gv_preV (ci := 1) hK hPc hDc hN rfl rfl) rfl rfl hl.1 rfl (lv_room (Nat.le_of_ble_eq_true rfl)) dL_law_709 ⟨lw_rc (by omega), lw_rs (by omega)⟩) (fun r1 u H locs hw hP hD hS => ?_)
  have hr1 : r1 = spX1_leaves f0 c0 f1 c1 f2 c2 lo up be si pl cu ge fa := hw
  clear hw
  have hP : va_P (dC, dI) vwCl (lw_W cI cL ad am oa f0 c0 f1 c1 f2 c2 lo up be si pl cu ge fa ou g bm sim gem cum plm brm th) H := hP
  have hD : va_D (fun q : Nat => s.heap.size ≤ q) (lw_W cI cL ad am oa f0 c0 f1 c1 f2 c2 lo up be si pl cu ge fa ou g bm sim gem cum plm brm th) := hD
  refine lv_aload_n hx hb dL_law_712 rfl (lv_at hl 2 rfl) ?_
  have hPc : va_P (dC, dI) vwCl (gv_M cI am g bm sim gem cum plm brm th) H := gv_sub [14, 15, 16] hP rfl
  have hDc : va_D (gv_in (gv_M cI am g bm sim gem cum plm brm th)) (gv_M cI am g bm sim gem cum plm brm th) := gv_D hD [14, 15, 16] (by decide) rfl
  refine gv_ki (wf := (fun (u : (Int32)) => (gv_M cI am g bm sim gem cum plm brm u))) (wc := (gv_M cI am g bm sim gem cum plm brm th)) [14, 15, 16] (fun _ => rfl) hP hD hS rfl rfl (va_runV (As := []) (rest := [.int r1]) ⟨hx, hb, hml, hown, hts⟩ (kX2_leaves l dC dI cI cL am g bm sim gem cum plm brm th (gv_in (gv_M cI am g bm sim gem cum plm brm th))) (cwV (rm := gv_R 5 114) 0 hts gL_law_X2_leaves rfl rfl rfl (by decide +kernel) ⟨(Nat.le_of_ble_eq_true rfl), (Nat.le_of_ble_eq_true rfl)⟩) (gv_preV (ci := 2) hK hPc hDc hN rfl rfl) rfl rfl hl.1 rfl (lv_room (Nat.le_of_ble_eq_true rfl)) dL_law_713 ⟨lw_rc (by omega), lw_rs (by omega)⟩) (fun r2 u H locs hw hP hD hS => ?_)
  have hw := (show (r2, u) = _ from hw).trans e2
  have hu : u = 0 := congrArg Prod.snd hw
  subst hu
  have hP : va_P (dC, dI) vwCl (lw_W cI cL ad am oa f0 c0 f1 c1 f2 c2 lo up be si pl cu ge fa ou g bm sim gem cum plm brm 0) H := hP
  have hD : va_D (fun q : Nat => s.heap.size ≤ q) (lw_W cI cL ad am oa f0 c0 f1 c1 f2 c2 lo up be si pl cu ge fa ou g bm sim gem cum plm brm 0) := hD
  refine lv_icmp_eq (tgt := 823) hx hb dL_law_716 (by decide) (fun cd => ?_) (fun cd => ?_)
  · exact J f0 c0 f1 c1 f2 c2 lo up be si pl cu ge fa ou g bm sim gem cum plm brm 0 H locs ls hR hP hD hS (lv_sub hl [0, 1, 2, 3, 4] rfl)
  · exact absurd (hr1.trans (congrArg Prod.fst hw).symm) cd
set_option maxHeartbeats 4000000 in
set_option maxRecDepth 100000 in
theorem lw_c11 {p : Program} {l : Launch} {e : Env} {s : State} {m : MethodId} {below : List Frame} {meth : Method} {c : Code} {b L : Nat} {xs : Nat → Int32} {dC : Nat → ClassId} {dI : Nat → Nat → Nat} {cI cL : ClassId} {ad am : Nat → Nat} {oa k : Nat} (C0 : lw_C p l s m c b L xs dC dI cI cL) (hk : 3 * k + 3 ≤ L) (J : lw_J p l e s m below meth c b dC dI cI cL ad am oa k (k + 1) 823) : lw_J p l e s m below meth c b dC dI cI cL ad am oa k k 721 := by
  obtain ⟨hx, hb, hml, hown, hts, hX, hbl, hK, hN, hT, hst, hL⟩ := C0
  have hbA : ¬ (fun q : Nat => s.heap.size ≤ q) b := Nat.not_le.mpr hbl
  intro f0 c0 f1 c1 f2 c2 lo up be si pl cu ge fa ou g bm sim gem cum plm brm th H locs ls hR hP hD hS hl
  refine W.widen (k := 17 + 2 * (k + 1)) (n := 6172 + 12 * (k + 1)) (by omega) (by omega) ?_
  have e2 := ms_lit (f1 := f1) (c1 := c1) (f2 := f2) (c2 := c2) (lo := lo) (up := up) (th := th) hR
  refine lv_aload_n hx hb dL_law_721 rfl (lv_at hl 1 rfl) ?_
  have hPc : va_P (dC, dI) vwCl (gv_V cI cL ad f0 c0 f1 c1 f2 c2 lo up be si pl cu ge fa) H := gv_sub [0, 1, 2, 3, 4, 5, 6, 7, 8, 9, 10, 11, 12] hP rfl
  have hDc : va_D (gv_in (gv_V cI cL ad f0 c0 f1 c1 f2 c2 lo up be si pl cu ge fa)) (gv_V cI cL ad f0 c0 f1 c1 f2 c2 lo up be si pl cu ge fa) := gv_D hD [0, 1, 2, 3, 4, 5, 6, 7, 8, 9, 10, 11, 12] (by decide) rfl
  refine gv_ki (wf := (fun (_ : Unit) => (gv_V cI cL ad f0 c0 f1 c1 f2 c2 lo up be si pl cu ge fa))) (wc := (gv_V cI cL ad f0 c0 f1 c1 f2 c2 lo up be si pl cu ge fa)) [0, 1, 2, 3, 4, 5, 6, 7, 8, 9, 10, 11, 12] (fun _ => rfl) hP hD hS rfl rfl (va_runV (As := []) (rest := []) ⟨hx, hb, hml, hown, hts⟩ (kX1_lit l dC dI cI cL ad f0 c0 f1 c1 f2 c2 lo up be si pl cu ge fa (gv_in (gv_V cI cL ad f0 c0 f1 c1 f2 c2 lo up be si pl cu ge fa))) (cwV (rm := gv_R 2 42) 0 hts gL_law_X1_lit rfl rfl rfl (by decide +kernel) ⟨(Nat.le_of_ble_eq_true rfl), (Nat.le_of_ble_eq_true rfl)⟩) (gv_preV (ci := 1) hK hPc hDc hN rfl rfl) rfl rfl hl.1 rfl (lv_room (Nat.le_of_ble_eq_true rfl)) dL_law_722 ⟨lw_rc (by omega), lw_rs (by omega)⟩) (fun r1 u H locs hw hP hD hS => ?_)
  have hr1 : r1 = spX1_lit f0 c0 f1 c1 f2 c2 lo up be si pl cu ge fa := hw
  clear hw
  have hP : va_P (dC, dI) vwCl (lw_W cI cL ad am oa f0 c0 f1 c1 f2 c2 lo up be si pl cu ge fa ou g bm sim gem cum plm brm th) H := hP
  have hD : va_D (fun q : Nat => s.heap.size ≤ q) (lw_W cI cL ad am oa f0 c0 f1 c1 f2 c2 lo up be si pl cu ge fa ou g bm sim gem cum plm brm th) := hD
  refine lv_aload_n hx hb dL_law_725 rfl (lv_at hl 2 rfl) ?_
  have hPc : va_P (dC, dI) vwCl (gv_M cI am g bm sim gem cum plm brm th) H := gv_sub [14, 15, 16] hP rfl
  have hDc : va_D (gv_in (gv_M cI am g bm sim gem cum plm brm th)) (gv_M cI am g bm sim gem cum plm brm th) := gv_D hD [14, 15, 16] (by decide) rfl
  refine gv_ki (wf := (fun (u : (Int32)) => (gv_M cI am g bm sim gem cum plm brm u))) (wc := (gv_M cI am g bm sim gem cum plm brm th)) [14, 15, 16] (fun _ => rfl) hP hD hS rfl rfl (va_runV (As := []) (rest := [.int r1]) ⟨hx, hb, hml, hown, hts⟩ (kX2_lit l dC dI cI cL am g bm sim gem cum plm brm th (gv_in (gv_M cI am g bm sim gem cum plm brm th))) (cwV (rm := gv_R 5 114) 0 hts gL_law_X2_lit rfl rfl rfl (by decide +kernel) ⟨(Nat.le_of_ble_eq_true rfl), (Nat.le_of_ble_eq_true rfl)⟩) (gv_preV (ci := 2) hK hPc hDc hN rfl rfl) rfl rfl hl.1 rfl (lv_room (Nat.le_of_ble_eq_true rfl)) dL_law_726 ⟨lw_rc (by omega), lw_rs (by omega)⟩) (fun r2 u H locs hw hP hD hS => ?_)
  have hw := (show (r2, u) = _ from hw).trans e2
  have hu : u = 0 := congrArg Prod.snd hw
  subst hu
  have hP : va_P (dC, dI) vwCl (lw_W cI cL ad am oa f0 c0 f1 c1 f2 c2 lo up be si pl cu ge fa ou g bm sim gem cum plm brm 0) H := hP
  have hD : va_D (fun q : Nat => s.heap.size ≤ q) (lw_W cI cL ad am oa f0 c0 f1 c1 f2 c2 lo up be si pl cu ge fa ou g bm sim gem cum plm brm 0) := hD
  refine lv_icmp_eq (tgt := 823) hx hb dL_law_729 (by decide) (fun cd => ?_) (fun cd => ?_)
  · exact J f0 c0 f1 c1 f2 c2 lo up be si pl cu ge fa ou g bm sim gem cum plm brm 0 H locs ls hR hP hD hS (lv_sub hl [0, 1, 2, 3, 4] rfl)
  · exact absurd (hr1.trans (congrArg Prod.fst hw).symm) cd
set_option maxHeartbeats 4000000 in
set_option maxRecDepth 100000 in
theorem lw_c12 {p : Program} {l : Launch} {e : Env} {s : State} {m : MethodId} {below : List Frame} {meth : Method} {c : Code} {b L : Nat} {xs : Nat → Int32} {dC : Nat → ClassId} {dI : Nat → Nat → Nat} {cI cL : ClassId} {ad am : Nat → Nat} {oa k : Nat} (C0 : lw_C p l s m c b L xs dC dI cI cL) (hk : 3 * k + 3 ≤ L) (J : lw_J p l e s m below meth c b dC dI cI cL ad am oa k (k + 1) 823) : lw_J p l e s m below meth c b dC dI cI cL ad am oa k k 734 := by
  obtain ⟨hx, hb, hml, hown, hts, hX, hbl, hK, hN, hT, hst, hL⟩ := C0
  have hbA : ¬ (fun q : Nat => s.heap.size ≤ q) b := Nat.not_le.mpr hbl
  intro f0 c0 f1 c1 f2 c2 lo up be si pl cu ge fa ou g bm sim gem cum plm brm th H locs ls hR hP hD hS hl
  refine W.widen (k := 17 + 2 * (k + 1)) (n := 6172 + 12 * (k + 1)) (by omega) (by omega) ?_
  have e2 := ms_generation (f1 := f1) (c1 := c1) (f2 := f2) (c2 := c2) (lo := lo) (up := up) (th := th) hR
  refine lv_aload_n hx hb dL_law_734 rfl (lv_at hl 1 rfl) ?_
  have hPc : va_P (dC, dI) vwCl (gv_V cI cL ad f0 c0 f1 c1 f2 c2 lo up be si pl cu ge fa) H := gv_sub [0, 1, 2, 3, 4, 5, 6, 7, 8, 9, 10, 11, 12] hP rfl
  have hDc : va_D (gv_in (gv_V cI cL ad f0 c0 f1 c1 f2 c2 lo up be si pl cu ge fa)) (gv_V cI cL ad f0 c0 f1 c1 f2 c2 lo up be si pl cu ge fa) := gv_D hD [0, 1, 2, 3, 4, 5, 6, 7, 8, 9, 10, 11, 12] (by decide) rfl
  refine gv_ki (wf := (fun (_ : Unit) => (gv_V cI cL ad f0 c0 f1 c1 f2 c2 lo up be si pl cu ge fa))) (wc := (gv_V cI cL ad f0 c0 f1 c1 f2 c2 lo up be si pl cu ge fa)) [0, 1, 2, 3, 4, 5, 6, 7, 8, 9, 10, 11, 12] (fun _ => rfl) hP hD hS rfl rfl (va_runV (As := []) (rest := []) ⟨hx, hb, hml, hown, hts⟩ (kX1_generation l dC dI cI cL ad f0 c0 f1 c1 f2 c2 lo up be si pl cu ge fa (gv_in (gv_V cI cL ad f0 c0 f1 c1 f2 c2 lo up be si pl cu ge fa))) (cwV (rm := gv_R 0 0) 0 hts gL_law_X1_generation rfl rfl rfl (by decide +kernel) ⟨(Nat.le_of_ble_eq_true rfl), (Nat.le_of_ble_eq_true rfl)⟩) (gv_preV (ci := 1) hK hPc hDc hN rfl rfl) rfl rfl hl.1 rfl (lv_room (Nat.le_of_ble_eq_true rfl)) dL_law_735 ⟨lw_rc (by omega), lw_rs (by omega)⟩) (fun r1 u H locs hw hP hD hS => ?_)
  have hr1 : r1 = spX1_generation f0 c0 f1 c1 f2 c2 lo up be si pl cu ge fa := hw
  clear hw
  have hP : va_P (dC, dI) vwCl (lw_W cI cL ad am oa f0 c0 f1 c1 f2 c2 lo up be si pl cu ge fa ou g bm sim gem cum plm brm th) H := hP
  have hD : va_D (fun q : Nat => s.heap.size ≤ q) (lw_W cI cL ad am oa f0 c0 f1 c1 f2 c2 lo up be si pl cu ge fa ou g bm sim gem cum plm brm th) := hD
  refine lv_aload_n hx hb dL_law_738 rfl (lv_at hl 2 rfl) ?_
  have hPc : va_P (dC, dI) vwCl (gv_M cI am g bm sim gem cum plm brm th) H := gv_sub [14, 15, 16] hP rfl
  have hDc : va_D (gv_in (gv_M cI am g bm sim gem cum plm brm th)) (gv_M cI am g bm sim gem cum plm brm th) := gv_D hD [14, 15, 16] (by decide) rfl
  refine gv_ki (wf := (fun (u : (Int32)) => (gv_M cI am g bm sim gem cum plm brm u))) (wc := (gv_M cI am g bm sim gem cum plm brm th)) [14, 15, 16] (fun _ => rfl) hP hD hS rfl rfl (va_runV (As := []) (rest := [.int r1]) ⟨hx, hb, hml, hown, hts⟩ (kX2_generation l dC dI cI cL am g bm sim gem cum plm brm th (gv_in (gv_M cI am g bm sim gem cum plm brm th))) (cwV (rm := gv_R 0 0) 0 hts gL_law_X2_generation rfl rfl rfl (by decide +kernel) ⟨(Nat.le_of_ble_eq_true rfl), (Nat.le_of_ble_eq_true rfl)⟩) (gv_preV (ci := 2) hK hPc hDc hN rfl rfl) rfl rfl hl.1 rfl (lv_room (Nat.le_of_ble_eq_true rfl)) dL_law_739 ⟨lw_rc (by omega), lw_rs (by omega)⟩) (fun r2 u H locs hw hP hD hS => ?_)
  have hw := (show (r2, u) = _ from hw).trans e2
  have hu : u = 0 := congrArg Prod.snd hw
  subst hu
  have hP : va_P (dC, dI) vwCl (lw_W cI cL ad am oa f0 c0 f1 c1 f2 c2 lo up be si pl cu ge fa ou g bm sim gem cum plm brm 0) H := hP
  have hD : va_D (fun q : Nat => s.heap.size ≤ q) (lw_W cI cL ad am oa f0 c0 f1 c1 f2 c2 lo up be si pl cu ge fa ou g bm sim gem cum plm brm 0) := hD
  refine lv_icmp_eq (tgt := 823) hx hb dL_law_742 (by decide) (fun cd => ?_) (fun cd => ?_)
  · exact J f0 c0 f1 c1 f2 c2 lo up be si pl cu ge fa ou g bm sim gem cum plm brm 0 H locs ls hR hP hD hS (lv_sub hl [0, 1, 2, 3, 4] rfl)
  · exact absurd (hr1.trans (congrArg Prod.fst hw).symm) cd
set_option maxHeartbeats 4000000 in
set_option maxRecDepth 100000 in
theorem lw_c13 {p : Program} {l : Launch} {e : Env} {s : State} {m : MethodId} {below : List Frame} {meth : Method} {c : Code} {b L : Nat} {xs : Nat → Int32} {dC : Nat → ClassId} {dI : Nat → Nat → Nat} {cI cL : ClassId} {ad am : Nat → Nat} {oa k : Nat} (C0 : lw_C p l s m c b L xs dC dI cI cL) (hk : 3 * k + 3 ≤ L) (J : lw_J p l e s m below meth c b dC dI cI cL ad am oa k (k + 1) 823) : lw_J p l e s m below meth c b dC dI cI cL ad am oa k k 747 := by
  obtain ⟨hx, hb, hml, hown, hts, hX, hbl, hK, hN, hT, hst, hL⟩ := C0
  have hbA : ¬ (fun q : Nat => s.heap.size ≤ q) b := Nat.not_le.mpr hbl
  intro f0 c0 f1 c1 f2 c2 lo up be si pl cu ge fa ou g bm sim gem cum plm brm th H locs ls hR hP hD hS hl
  refine W.widen (k := 17 + 2 * (k + 1)) (n := 6172 + 12 * (k + 1)) (by omega) (by omega) ?_
  have e2 := ms_cutsLeft (f1 := f1) (c1 := c1) (f2 := f2) (c2 := c2) (lo := lo) (up := up) (th := th) hR
  refine lv_aload_n hx hb dL_law_747 rfl (lv_at hl 1 rfl) ?_
  have hPc : va_P (dC, dI) vwCl (gv_V cI cL ad f0 c0 f1 c1 f2 c2 lo up be si pl cu ge fa) H := gv_sub [0, 1, 2, 3, 4, 5, 6, 7, 8, 9, 10, 11, 12] hP rfl
  have hDc : va_D (gv_in (gv_V cI cL ad f0 c0 f1 c1 f2 c2 lo up be si pl cu ge fa)) (gv_V cI cL ad f0 c0 f1 c1 f2 c2 lo up be si pl cu ge fa) := gv_D hD [0, 1, 2, 3, 4, 5, 6, 7, 8, 9, 10, 11, 12] (by decide) rfl
  refine gv_ki (wf := (fun (_ : Unit) => (gv_V cI cL ad f0 c0 f1 c1 f2 c2 lo up be si pl cu ge fa))) (wc := (gv_V cI cL ad f0 c0 f1 c1 f2 c2 lo up be si pl cu ge fa)) [0, 1, 2, 3, 4, 5, 6, 7, 8, 9, 10, 11, 12] (fun _ => rfl) hP hD hS rfl rfl (va_runV (As := []) (rest := []) ⟨hx, hb, hml, hown, hts⟩ (kX1_cutsLeft l dC dI cI cL ad f0 c0 f1 c1 f2 c2 lo up be si pl cu ge fa (gv_in (gv_V cI cL ad f0 c0 f1 c1 f2 c2 lo up be si pl cu ge fa))) (cwV (rm := gv_R 0 0) 0 hts gL_law_X1_cutsLeft rfl rfl rfl (by decide +kernel) ⟨(Nat.le_of_ble_eq_true rfl), (Nat.le_of_ble_eq_true rfl)⟩) (gv_preV (ci := 1) hK hPc hDc hN rfl rfl) rfl rfl hl.1 rfl (lv_room (Nat.le_of_ble_eq_true rfl)) dL_law_748 ⟨lw_rc (by omega), lw_rs (by omega)⟩) (fun r1 u H locs hw hP hD hS => ?_)
  have hr1 : r1 = spX1_cutsLeft f0 c0 f1 c1 f2 c2 lo up be si pl cu ge fa := hw
  clear hw
  have hP : va_P (dC, dI) vwCl (lw_W cI cL ad am oa f0 c0 f1 c1 f2 c2 lo up be si pl cu ge fa ou g bm sim gem cum plm brm th) H := hP
  have hD : va_D (fun q : Nat => s.heap.size ≤ q) (lw_W cI cL ad am oa f0 c0 f1 c1 f2 c2 lo up be si pl cu ge fa ou g bm sim gem cum plm brm th) := hD
  refine lv_aload_n hx hb dL_law_751 rfl (lv_at hl 2 rfl) ?_
  have hPc : va_P (dC, dI) vwCl (gv_M cI am g bm sim gem cum plm brm th) H := gv_sub [14, 15, 16] hP rfl
  have hDc : va_D (gv_in (gv_M cI am g bm sim gem cum plm brm th)) (gv_M cI am g bm sim gem cum plm brm th) := gv_D hD [14, 15, 16] (by decide) rfl
  refine gv_ki (wf := (fun (u : (Int32)) => (gv_M cI am g bm sim gem cum plm brm u))) (wc := (gv_M cI am g bm sim gem cum plm brm th)) [14, 15, 16] (fun _ => rfl) hP hD hS rfl rfl (va_runV (As := []) (rest := [.int r1]) ⟨hx, hb, hml, hown, hts⟩ (kX2_cutsLeft l dC dI cI cL am g bm sim gem cum plm brm th (gv_in (gv_M cI am g bm sim gem cum plm brm th))) (cwV (rm := gv_R 0 0) 0 hts gL_law_X2_cutsLeft rfl rfl rfl (by decide +kernel) ⟨(Nat.le_of_ble_eq_true rfl), (Nat.le_of_ble_eq_true rfl)⟩) (gv_preV (ci := 2) hK hPc hDc hN rfl rfl) rfl rfl hl.1 rfl (lv_room (Nat.le_of_ble_eq_true rfl)) dL_law_752 ⟨lw_rc (by omega), lw_rs (by omega)⟩) (fun r2 u H locs hw hP hD hS => ?_)
  have hw := (show (r2, u) = _ from hw).trans e2
  have hu : u = 0 := congrArg Prod.snd hw
  subst hu
  have hP : va_P (dC, dI) vwCl (lw_W cI cL ad am oa f0 c0 f1 c1 f2 c2 lo up be si pl cu ge fa ou g bm sim gem cum plm brm 0) H := hP
  have hD : va_D (fun q : Nat => s.heap.size ≤ q) (lw_W cI cL ad am oa f0 c0 f1 c1 f2 c2 lo up be si pl cu ge fa ou g bm sim gem cum plm brm 0) := hD
  refine lv_icmp_eq (tgt := 823) hx hb dL_law_755 (by decide) (fun cd => ?_) (fun cd => ?_)
  · exact J f0 c0 f1 c1 f2 c2 lo up be si pl cu ge fa ou g bm sim gem cum plm brm 0 H locs ls hR hP hD hS (lv_sub hl [0, 1, 2, 3, 4] rfl)
  · exact absurd (hr1.trans (congrArg Prod.fst hw).symm) cd
set_option maxHeartbeats 4000000 in
set_option maxRecDepth 100000 in
theorem lw_c14 {p : Program} {l : Launch} {e : Env} {s : State} {m : MethodId} {below : List Frame} {meth : Method} {c : Code} {b L : Nat} {xs : Nat → Int32} {dC : Nat → ClassId} {dI : Nat → Nat → Nat} {cI cL : ClassId} {ad am : Nat → Nat} {oa k : Nat} (C0 : lw_C p l s m c b L xs dC dI cI cL) (hk : 3 * k + 3 ≤ L) (J : lw_J p l e s m below meth c b dC dI cI cL ad am oa k (k + 1) 823) : lw_J p l e s m below meth c b dC dI cI cL ad am oa k k 760 := by
  obtain ⟨hx, hb, hml, hown, hts, hX, hbl, hK, hN, hT, hst, hL⟩ := C0
  have hbA : ¬ (fun q : Nat => s.heap.size ≤ q) b := Nat.not_le.mpr hbl
  intro f0 c0 f1 c1 f2 c2 lo up be si pl cu ge fa ou g bm sim gem cum plm brm th H locs ls hR hP hD hS hl
  refine W.widen (k := 17 + 2 * (k + 1)) (n := 6172 + 12 * (k + 1)) (by omega) (by omega) ?_
  have e2 := ms_broken (f1 := f1) (c1 := c1) (f2 := f2) (c2 := c2) (lo := lo) (up := up) (th := th) hR
  refine lv_aload_n hx hb dL_law_760 rfl (lv_at hl 1 rfl) ?_
  have hPc : va_P (dC, dI) vwCl (gv_V cI cL ad f0 c0 f1 c1 f2 c2 lo up be si pl cu ge fa) H := gv_sub [0, 1, 2, 3, 4, 5, 6, 7, 8, 9, 10, 11, 12] hP rfl
  have hDc : va_D (gv_in (gv_V cI cL ad f0 c0 f1 c1 f2 c2 lo up be si pl cu ge fa)) (gv_V cI cL ad f0 c0 f1 c1 f2 c2 lo up be si pl cu ge fa) := gv_D hD [0, 1, 2, 3, 4, 5, 6, 7, 8, 9, 10, 11, 12] (by decide) rfl
  refine gv_ki (wf := (fun (_ : Unit) => (gv_V cI cL ad f0 c0 f1 c1 f2 c2 lo up be si pl cu ge fa))) (wc := (gv_V cI cL ad f0 c0 f1 c1 f2 c2 lo up be si pl cu ge fa)) [0, 1, 2, 3, 4, 5, 6, 7, 8, 9, 10, 11, 12] (fun _ => rfl) hP hD hS rfl rfl (va_runV (As := []) (rest := []) ⟨hx, hb, hml, hown, hts⟩ (kX1_broken l dC dI cI cL ad f0 c0 f1 c1 f2 c2 lo up be si pl cu ge fa (gv_in (gv_V cI cL ad f0 c0 f1 c1 f2 c2 lo up be si pl cu ge fa))) (cwV (rm := gv_R 0 0) 0 hts gL_law_X1_broken rfl rfl rfl (by decide +kernel) ⟨(Nat.le_of_ble_eq_true rfl), (Nat.le_of_ble_eq_true rfl)⟩) (gv_preV (ci := 1) hK hPc hDc hN rfl rfl) rfl rfl hl.1 rfl (lv_room (Nat.le_of_ble_eq_true rfl)) dL_law_761 ⟨lw_rc (by omega), lw_rs (by omega)⟩) (fun r1 u H locs hw hP hD hS => ?_)
  have hr1 : r1 = spX1_broken f0 c0 f1 c1 f2 c2 lo up be si pl cu ge fa := hw
  clear hw
  have hP : va_P (dC, dI) vwCl (lw_W cI cL ad am oa f0 c0 f1 c1 f2 c2 lo up be si pl cu ge fa ou g bm sim gem cum plm brm th) H := hP
  have hD : va_D (fun q : Nat => s.heap.size ≤ q) (lw_W cI cL ad am oa f0 c0 f1 c1 f2 c2 lo up be si pl cu ge fa ou g bm sim gem cum plm brm th) := hD
  refine lv_aload_n hx hb dL_law_764 rfl (lv_at hl 2 rfl) ?_
  have hPc : va_P (dC, dI) vwCl (gv_M cI am g bm sim gem cum plm brm th) H := gv_sub [14, 15, 16] hP rfl
  have hDc : va_D (gv_in (gv_M cI am g bm sim gem cum plm brm th)) (gv_M cI am g bm sim gem cum plm brm th) := gv_D hD [14, 15, 16] (by decide) rfl
  refine gv_ki (wf := (fun (u : (Int32)) => (gv_M cI am g bm sim gem cum plm brm u))) (wc := (gv_M cI am g bm sim gem cum plm brm th)) [14, 15, 16] (fun _ => rfl) hP hD hS rfl rfl (va_runV (As := []) (rest := [.int r1]) ⟨hx, hb, hml, hown, hts⟩ (kX2_broken l dC dI cI cL am g bm sim gem cum plm brm th (gv_in (gv_M cI am g bm sim gem cum plm brm th))) (cwV (rm := gv_R 0 0) 0 hts gL_law_X2_broken rfl rfl rfl (by decide +kernel) ⟨(Nat.le_of_ble_eq_true rfl), (Nat.le_of_ble_eq_true rfl)⟩) (gv_preV (ci := 2) hK hPc hDc hN rfl rfl) rfl rfl hl.1 rfl (lv_room (Nat.le_of_ble_eq_true rfl)) dL_law_765 ⟨lw_rc (by omega), lw_rs (by omega)⟩) (fun r2 u H locs hw hP hD hS => ?_)
  have hw := (show (r2, u) = _ from hw).trans e2
  have hu : u = 0 := congrArg Prod.snd hw
  subst hu
  have hP : va_P (dC, dI) vwCl (lw_W cI cL ad am oa f0 c0 f1 c1 f2 c2 lo up be si pl cu ge fa ou g bm sim gem cum plm brm 0) H := hP
  have hD : va_D (fun q : Nat => s.heap.size ≤ q) (lw_W cI cL ad am oa f0 c0 f1 c1 f2 c2 lo up be si pl cu ge fa ou g bm sim gem cum plm brm 0) := hD
  refine lv_icmp_eq (tgt := 823) hx hb dL_law_768 (by decide) (fun cd => ?_) (fun cd => ?_)
  · exact J f0 c0 f1 c1 f2 c2 lo up be si pl cu ge fa ou g bm sim gem cum plm brm 0 H locs ls hR hP hD hS (lv_sub hl [0, 1, 2, 3, 4] rfl)
  · exact absurd (hr1.trans (congrArg Prod.fst hw).symm) cd
set_option maxHeartbeats 4000000 in
set_option maxRecDepth 100000 in
theorem lw_c15 {p : Program} {l : Launch} {e : Env} {s : State} {m : MethodId} {below : List Frame} {meth : Method} {c : Code} {b L : Nat} {xs : Nat → Int32} {dC : Nat → ClassId} {dI : Nat → Nat → Nat} {cI cL : ClassId} {ad am : Nat → Nat} {oa k : Nat} (C0 : lw_C p l s m c b L xs dC dI cI cL) (hk : 3 * k + 3 ≤ L) (J : lw_J p l e s m below meth c b dC dI cI cL ad am oa k (k + 1) 823) : lw_J p l e s m below meth c b dC dI cI cL ad am oa k k 773 := by
  obtain ⟨hx, hb, hml, hown, hts, hX, hbl, hK, hN, hT, hst, hL⟩ := C0
  have hbA : ¬ (fun q : Nat => s.heap.size ≤ q) b := Nat.not_le.mpr hbl
  intro f0 c0 f1 c1 f2 c2 lo up be si pl cu ge fa ou g bm sim gem cum plm brm th H locs ls hR hP hD hS hl
  refine W.widen (k := 17 + 2 * (k + 1)) (n := 6172 + 12 * (k + 1)) (by omega) (by omega) ?_
  obtain ⟨k2, f2z, h2z, g2, e1, e2, hR2⟩ := ms_leavesNext (f1 := f1) (c1 := c1) (f2 := f2) (c2 := c2) (lo := lo) (up := up) (th := th) hR
  refine lv_aload_n hx hb dL_law_773 rfl (lv_at hl 1 rfl) ?_
  have hPc : va_P (dC, dI) vwCl (gv_V cI cL ad f0 c0 f1 c1 f2 c2 lo up be si pl cu ge fa) H := gv_sub [0, 1, 2, 3, 4, 5, 6, 7, 8, 9, 10, 11, 12] hP rfl
  have hDc : va_D (gv_in (gv_V cI cL ad f0 c0 f1 c1 f2 c2 lo up be si pl cu ge fa)) (gv_V cI cL ad f0 c0 f1 c1 f2 c2 lo up be si pl cu ge fa) := gv_D hD [0, 1, 2, 3, 4, 5, 6, 7, 8, 9, 10, 11, 12] (by decide) rfl
  refine gv_ki (wf := (fun (u : (Nat → Int32) × (Nat → Int32)) => (gv_V cI cL ad f0 c0 f1 c1 u.1 u.2 lo up be si pl cu ge fa))) (wc := (gv_V cI cL ad f0 c0 f1 c1 f2 c2 lo up be si pl cu ge fa)) [0, 1, 2, 3, 4, 5, 6, 7, 8, 9, 10, 11, 12] (fun _ => rfl) hP hD hS rfl rfl (va_runV (As := []) (rest := []) ⟨hx, hb, hml, hown, hts⟩ (kX1_leavesNext l dC dI cI cL ad f0 c0 f1 c1 f2 c2 lo up be si pl cu ge fa (gv_in (gv_V cI cL ad f0 c0 f1 c1 f2 c2 lo up be si pl cu ge fa))) (cwV (rm := gv_R 5 124) 0 hts gL_law_X1_leavesNext rfl rfl rfl (by decide +kernel) ⟨(Nat.le_of_ble_eq_true rfl), (Nat.le_of_ble_eq_true rfl)⟩) (gv_preV (ci := 1) hK hPc hDc hN rfl rfl) rfl rfl hl.1 rfl (lv_room (Nat.le_of_ble_eq_true rfl)) dL_law_774 ⟨lw_rc (by omega), lw_rs (by omega)⟩) (fun r1 u H locs hw hP hD hS => ?_)
  have hw := (show (r1, u) = _ from hw).trans e1
  have hq : k2 = r1 := (congrArg Prod.fst hw).symm
  subst hq
  have hu : u = (f2z, h2z) := congrArg Prod.snd hw
  subst hu
  clear hw
  have hP : va_P (dC, dI) vwCl (lw_W cI cL ad am oa f0 c0 f1 c1 f2z h2z lo up be si pl cu ge fa ou g bm sim gem cum plm brm th) H := hP
  have hD : va_D (fun q : Nat => s.heap.size ≤ q) (lw_W cI cL ad am oa f0 c0 f1 c1 f2z h2z lo up be si pl cu ge fa ou g bm sim gem cum plm brm th) := hD
  refine lv_aload_n hx hb dL_law_777 rfl (lv_at hl 2 rfl) ?_
  have hPc : va_P (dC, dI) vwCl (gv_M cI am g bm sim gem cum plm brm th) H := gv_sub [14, 15, 16] hP rfl
  have hDc : va_D (gv_in (gv_M cI am g bm sim gem cum plm brm th)) (gv_M cI am g bm sim gem cum plm brm th) := gv_D hD [14, 15, 16] (by decide) rfl
  refine gv_ki (wf := (fun (u : (Nat → Int32) × (Int32)) => (gv_M cI am u.1 bm sim gem cum plm brm u.2))) (wc := (gv_M cI am g bm sim gem cum plm brm th)) [14, 15, 16] (fun _ => rfl) hP hD hS rfl rfl (va_runV (As := []) (rest := [.int k2]) ⟨hx, hb, hml, hown, hts⟩ (kX2_leavesNext l dC dI cI cL am g bm sim gem cum plm brm th (gv_in (gv_M cI am g bm sim gem cum plm brm th))) (cwV (rm := gv_R 6 141) 0 hts gL_law_X2_leavesNext rfl rfl rfl (by decide +kernel) ⟨(Nat.le_of_ble_eq_true rfl), (Nat.le_of_ble_eq_true rfl)⟩) (gv_preV (ci := 2) hK hPc hDc hN rfl rfl) rfl rfl hl.1 rfl (lv_room (Nat.le_of_ble_eq_true rfl)) dL_law_778 ⟨lw_rc (by omega), lw_rs (by omega)⟩) (fun r2 u H locs hw hP hD hS => ?_)
  have hw := (show (r2, u) = _ from hw).trans e2
  have hu : u = (g2, 0) := congrArg Prod.snd hw
  subst hu
  have hP : va_P (dC, dI) vwCl (lw_W cI cL ad am oa f0 c0 f1 c1 f2z h2z lo up be si pl cu ge fa ou g2 bm sim gem cum plm brm 0) H := hP
  have hD : va_D (fun q : Nat => s.heap.size ≤ q) (lw_W cI cL ad am oa f0 c0 f1 c1 f2z h2z lo up be si pl cu ge fa ou g2 bm sim gem cum plm brm 0) := hD
  refine lv_icmp_eq (tgt := 823) hx hb dL_law_781 (by decide) (fun cd => ?_) (fun cd => ?_)
  · exact J f0 c0 f1 c1 f2z h2z lo up be si pl cu ge fa ou g2 bm sim gem cum plm brm 0 H locs ls hR2 hP hD hS (lv_sub hl [0, 1, 2, 3, 4] rfl)
  · exact absurd (congrArg Prod.fst hw).symm cd
set_option maxHeartbeats 4000000 in
set_option maxRecDepth 100000 in
theorem lw_c16 {p : Program} {l : Launch} {e : Env} {s : State} {m : MethodId} {below : List Frame} {meth : Method} {c : Code} {b L : Nat} {xs : Nat → Int32} {dC : Nat → ClassId} {dI : Nat → Nat → Nat} {cI cL : ClassId} {ad am : Nat → Nat} {oa k : Nat} (C0 : lw_C p l s m c b L xs dC dI cI cL) (hk : 3 * k + 3 ≤ L) (J : lw_J p l e s m below meth c b dC dI cI cL ad am oa k (k + 1) 823) : lw_J p l e s m below meth c b dC dI cI cL ad am oa k k 786 := by
  obtain ⟨hx, hb, hml, hown, hts, hX, hbl, hK, hN, hT, hst, hL⟩ := C0
  have hbA : ¬ (fun q : Nat => s.heap.size ≤ q) b := Nat.not_le.mpr hbl
  intro f0 c0 f1 c1 f2 c2 lo up be si pl cu ge fa ou g bm sim gem cum plm brm th H locs ls hR hP hD hS hl
  refine W.widen (k := 17 + 2 * (k + 1)) (n := 6172 + 12 * (k + 1)) (by omega) (by omega) ?_
  obtain ⟨k2, f1z, h1z, f2z, h2z, lo2, up2, g2, e1, e2, hR2⟩ := ms_repeatsIn (f1 := f1) (c1 := c1) (f2 := f2) (c2 := c2) (lo := lo) (up := up) (th := th) hR
  refine lv_aload_n hx hb dL_law_786 rfl (lv_at hl 1 rfl) ?_
  have hPc : va_P (dC, dI) vwCl (gv_V cI cL ad f0 c0 f1 c1 f2 c2 lo up be si pl cu ge fa) H := gv_sub [0, 1, 2, 3, 4, 5, 6, 7, 8, 9, 10, 11, 12] hP rfl
  have hDc : va_D (gv_in (gv_V cI cL ad f0 c0 f1 c1 f2 c2 lo up be si pl cu ge fa)) (gv_V cI cL ad f0 c0 f1 c1 f2 c2 lo up be si pl cu ge fa) := gv_D hD [0, 1, 2, 3, 4, 5, 6, 7, 8, 9, 10, 11, 12] (by decide) rfl
  refine gv_ki (wf := (fun (u : (Nat → Int32) × (Nat → Int32) × (Nat → Int32) × (Nat → Int32) × (Nat → Int64) × (Nat → Int64)) => (gv_V cI cL ad f0 c0 u.1 u.2.1 u.2.2.1 u.2.2.2.1 u.2.2.2.2.1 u.2.2.2.2.2 be si pl cu ge fa))) (wc := (gv_V cI cL ad f0 c0 f1 c1 f2 c2 lo up be si pl cu ge fa)) [0, 1, 2, 3, 4, 5, 6, 7, 8, 9, 10, 11, 12] (fun _ => rfl) hP hD hS rfl rfl (va_runV (As := []) (rest := []) ⟨hx, hb, hml, hown, hts⟩ (kX1_repeatsIn l dC dI cI cL ad f0 c0 f1 c1 f2 c2 lo up be si pl cu ge fa (gv_in (gv_V cI cL ad f0 c0 f1 c1 f2 c2 lo up be si pl cu ge fa))) (cwV (rm := gv_R 5 124) 0 hts gL_law_X1_repeatsIn rfl rfl rfl (by decide +kernel) ⟨(Nat.le_of_ble_eq_true rfl), (Nat.le_of_ble_eq_true rfl)⟩) (gv_preV (ci := 1) hK hPc hDc hN rfl rfl) rfl rfl hl.1 rfl (lv_room (Nat.le_of_ble_eq_true rfl)) dL_law_787 ⟨lw_rc (by omega), lw_rs (by omega)⟩) (fun r1 u H locs hw hP hD hS => ?_)
  have hw := (show (r1, u) = _ from hw).trans e1
  have hq : k2 = r1 := (congrArg Prod.fst hw).symm
  subst hq
  have hu : u = (f1z, h1z, f2z, h2z, lo2, up2) := congrArg Prod.snd hw
  subst hu
  clear hw
  have hP : va_P (dC, dI) vwCl (lw_W cI cL ad am oa f0 c0 f1z h1z f2z h2z lo2 up2 be si pl cu ge fa ou g bm sim gem cum plm brm th) H := hP
  have hD : va_D (fun q : Nat => s.heap.size ≤ q) (lw_W cI cL ad am oa f0 c0 f1z h1z f2z h2z lo2 up2 be si pl cu ge fa ou g bm sim gem cum plm brm th) := hD
  refine lv_aload_n hx hb dL_law_790 rfl (lv_at hl 2 rfl) ?_
  have hPc : va_P (dC, dI) vwCl (gv_M cI am g bm sim gem cum plm brm th) H := gv_sub [14, 15, 16] hP rfl
  have hDc : va_D (gv_in (gv_M cI am g bm sim gem cum plm brm th)) (gv_M cI am g bm sim gem cum plm brm th) := gv_D hD [14, 15, 16] (by decide) rfl
  refine gv_ki (wf := (fun (u : (Nat → Int32) × (Int32)) => (gv_M cI am u.1 bm sim gem cum plm brm u.2))) (wc := (gv_M cI am g bm sim gem cum plm brm th)) [14, 15, 16] (fun _ => rfl) hP hD hS rfl rfl (va_runV (As := []) (rest := [.int k2]) ⟨hx, hb, hml, hown, hts⟩ (kX2_repeatsIn l dC dI cI cL am g bm sim gem cum plm brm th (gv_in (gv_M cI am g bm sim gem cum plm brm th))) (cwV (rm := gv_R 6 141) 0 hts gL_law_X2_repeatsIn rfl rfl rfl (by decide +kernel) ⟨(Nat.le_of_ble_eq_true rfl), (Nat.le_of_ble_eq_true rfl)⟩) (gv_preV (ci := 2) hK hPc hDc hN rfl rfl) rfl rfl hl.1 rfl (lv_room (Nat.le_of_ble_eq_true rfl)) dL_law_791 ⟨lw_rc (by omega), lw_rs (by omega)⟩) (fun r2 u H locs hw hP hD hS => ?_)
  have hw := (show (r2, u) = _ from hw).trans e2
  have hu : u = (g2, 0) := congrArg Prod.snd hw
  subst hu
  have hP : va_P (dC, dI) vwCl (lw_W cI cL ad am oa f0 c0 f1z h1z f2z h2z lo2 up2 be si pl cu ge fa ou g2 bm sim gem cum plm brm 0) H := hP
  have hD : va_D (fun q : Nat => s.heap.size ≤ q) (lw_W cI cL ad am oa f0 c0 f1z h1z f2z h2z lo2 up2 be si pl cu ge fa ou g2 bm sim gem cum plm brm 0) := hD
  refine lv_icmp_eq (tgt := 823) hx hb dL_law_794 (by decide) (fun cd => ?_) (fun cd => ?_)
  · exact J f0 c0 f1z h1z f2z h2z lo2 up2 be si pl cu ge fa ou g2 bm sim gem cum plm brm 0 H locs ls hR2 hP hD hS (lv_sub hl [0, 1, 2, 3, 4] rfl)
  · exact absurd (congrArg Prod.fst hw).symm cd
set_option maxHeartbeats 4000000 in
set_option maxRecDepth 100000 in
theorem lw_c17 {p : Program} {l : Launch} {e : Env} {s : State} {m : MethodId} {below : List Frame} {meth : Method} {c : Code} {b L : Nat} {xs : Nat → Int32} {dC : Nat → ClassId} {dI : Nat → Nat → Nat} {cI cL : ClassId} {ad am : Nat → Nat} {oa k : Nat} (C0 : lw_C p l s m c b L xs dC dI cI cL) (hk : 3 * k + 3 ≤ L) (J : lw_J p l e s m below meth c b dC dI cI cL ad am oa k (k + 1) 823) : lw_J p l e s m below meth c b dC dI cI cL ad am oa k k 799 := by
  obtain ⟨hx, hb, hml, hown, hts, hX, hbl, hK, hN, hT, hst, hL⟩ := C0
  have hbA : ¬ (fun q : Nat => s.heap.size ≤ q) b := Nat.not_le.mpr hbl
  intro f0 c0 f1 c1 f2 c2 lo up be si pl cu ge fa ou g bm sim gem cum plm brm th H locs ls hR hP hD hS hl
  refine W.widen (k := 17 + 2 * (k + 1)) (n := 6172 + 12 * (k + 1)) (by omega) (by omega) ?_
  obtain ⟨k2, f1z, h1z, f2z, h2z, g2, e1, e2, hR2⟩ := ms_bestCut (f1 := f1) (c1 := c1) (f2 := f2) (c2 := c2) (lo := lo) (up := up) (th := th) hR
  refine lv_aload_n hx hb dL_law_799 rfl (lv_at hl 1 rfl) ?_
  have hPc : va_P (dC, dI) vwCl (gv_V cI cL ad f0 c0 f1 c1 f2 c2 lo up be si pl cu ge fa) H := gv_sub [0, 1, 2, 3, 4, 5, 6, 7, 8, 9, 10, 11, 12] hP rfl
  have hDc : va_D (gv_in (gv_V cI cL ad f0 c0 f1 c1 f2 c2 lo up be si pl cu ge fa)) (gv_V cI cL ad f0 c0 f1 c1 f2 c2 lo up be si pl cu ge fa) := gv_D hD [0, 1, 2, 3, 4, 5, 6, 7, 8, 9, 10, 11, 12] (by decide) rfl
  refine gv_ki (wf := (fun (u : (Nat → Int32) × (Nat → Int32) × (Nat → Int32) × (Nat → Int32)) => (gv_V cI cL ad f0 c0 u.1 u.2.1 u.2.2.1 u.2.2.2 lo up be si pl cu ge fa))) (wc := (gv_V cI cL ad f0 c0 f1 c1 f2 c2 lo up be si pl cu ge fa)) [0, 1, 2, 3, 4, 5, 6, 7, 8, 9, 10, 11, 12] (fun _ => rfl) hP hD hS rfl rfl (va_runV (As := []) (rest := []) ⟨hx, hb, hml, hown, hts⟩ (kX1_bestCut l dC dI cI cL ad f0 c0 f1 c1 f2 c2 lo up be si pl cu ge fa (gv_in (gv_V cI cL ad f0 c0 f1 c1 f2 c2 lo up be si pl cu ge fa))) (cwV (rm := gv_R 6 146) 0 hts gL_law_X1_bestCut rfl rfl rfl (by decide +kernel) ⟨(Nat.le_of_ble_eq_true rfl), (Nat.le_of_ble_eq_true rfl)⟩) (gv_preV (ci := 1) hK hPc hDc hN rfl rfl) rfl rfl hl.1 rfl (lv_room (Nat.le_of_ble_eq_true rfl)) dL_law_800 ⟨lw_rc (by omega), lw_rs (by omega)⟩) (fun r1 u H locs hw hP hD hS => ?_)
  have hw := (show (r1, u) = _ from hw).trans e1
  have hq : k2 = r1 := (congrArg Prod.fst hw).symm
  subst hq
  have hu : u = (f1z, h1z, f2z, h2z) := congrArg Prod.snd hw
  subst hu
  clear hw
  have hP : va_P (dC, dI) vwCl (lw_W cI cL ad am oa f0 c0 f1z h1z f2z h2z lo up be si pl cu ge fa ou g bm sim gem cum plm brm th) H := hP
  have hD : va_D (fun q : Nat => s.heap.size ≤ q) (lw_W cI cL ad am oa f0 c0 f1z h1z f2z h2z lo up be si pl cu ge fa ou g bm sim gem cum plm brm th) := hD
  refine lv_aload_n hx hb dL_law_803 rfl (lv_at hl 2 rfl) ?_
  have hPc : va_P (dC, dI) vwCl (gv_M cI am g bm sim gem cum plm brm th) H := gv_sub [14, 15, 16] hP rfl
  have hDc : va_D (gv_in (gv_M cI am g bm sim gem cum plm brm th)) (gv_M cI am g bm sim gem cum plm brm th) := gv_D hD [14, 15, 16] (by decide) rfl
  refine gv_ki (wf := (fun (u : (Nat → Int32) × (Int32)) => (gv_M cI am u.1 bm sim gem cum plm brm u.2))) (wc := (gv_M cI am g bm sim gem cum plm brm th)) [14, 15, 16] (fun _ => rfl) hP hD hS rfl rfl (va_runV (As := []) (rest := [.int k2]) ⟨hx, hb, hml, hown, hts⟩ (kX2_bestCut l dC dI cI cL am g bm sim gem cum plm brm th (gv_in (gv_M cI am g bm sim gem cum plm brm th))) (cwV (rm := gv_R 6 141) 0 hts gL_law_X2_bestCut rfl rfl rfl (by decide +kernel) ⟨(Nat.le_of_ble_eq_true rfl), (Nat.le_of_ble_eq_true rfl)⟩) (gv_preV (ci := 2) hK hPc hDc hN rfl rfl) rfl rfl hl.1 rfl (lv_room (Nat.le_of_ble_eq_true rfl)) dL_law_804 ⟨lw_rc (by omega), lw_rs (by omega)⟩) (fun r2 u H locs hw hP hD hS => ?_)
  have hw := (show (r2, u) = _ from hw).trans e2
  have hu : u = (g2, 0) := congrArg Prod.snd hw
  subst hu
  have hP : va_P (dC, dI) vwCl (lw_W cI cL ad am oa f0 c0 f1z h1z f2z h2z lo up be si pl cu ge fa ou g2 bm sim gem cum plm brm 0) H := hP
  have hD : va_D (fun q : Nat => s.heap.size ≤ q) (lw_W cI cL ad am oa f0 c0 f1z h1z f2z h2z lo up be si pl cu ge fa ou g2 bm sim gem cum plm brm 0) := hD
  refine lv_icmp_eq (tgt := 823) hx hb dL_law_807 (by decide) (fun cd => ?_) (fun cd => ?_)
  · exact J f0 c0 f1z h1z f2z h2z lo up be si pl cu ge fa ou g2 bm sim gem cum plm brm 0 H locs ls hR2 hP hD hS (lv_sub hl [0, 1, 2, 3, 4] rfl)
  · exact absurd (congrArg Prod.fst hw).symm cd
set_option maxHeartbeats 4000000 in
set_option maxRecDepth 100000 in
theorem lw_c18 {p : Program} {l : Launch} {e : Env} {s : State} {m : MethodId} {below : List Frame} {meth : Method} {c : Code} {b L : Nat} {xs : Nat → Int32} {dC : Nat → ClassId} {dI : Nat → Nat → Nat} {cI cL : ClassId} {ad am : Nat → Nat} {oa k : Nat} (C0 : lw_C p l s m c b L xs dC dI cI cL) (hk : 3 * k + 3 ≤ L) (J : lw_J p l e s m below meth c b dC dI cI cL ad am oa k (k + 1) 823) : lw_J p l e s m below meth c b dC dI cI cL ad am oa k k 812 := by
  obtain ⟨hx, hb, hml, hown, hts, hX, hbl, hK, hN, hT, hst, hL⟩ := C0
  have hbA : ¬ (fun q : Nat => s.heap.size ≤ q) b := Nat.not_le.mpr hbl
  intro f0 c0 f1 c1 f2 c2 lo up be si pl cu ge fa ou g bm sim gem cum plm brm th H locs ls hR hP hD hS hl
  refine W.widen (k := 17 + 2 * (k + 1)) (n := 6172 + 12 * (k + 1)) (by omega) (by omega) ?_
  obtain ⟨f2z, h2z, g2, e1, e2, hR2⟩ := ms_clear (f1 := f1) (c1 := c1) (f2 := f2) (c2 := c2) (lo := lo) (up := up) (th := th) hR
  refine lv_aload_n hx hb dL_law_812 rfl (lv_at hl 1 rfl) ?_
  have hPc : va_P (dC, dI) vwCl (gv_V cI cL ad f0 c0 f1 c1 f2 c2 lo up be si pl cu ge fa) H := gv_sub [0, 1, 2, 3, 4, 5, 6, 7, 8, 9, 10, 11, 12] hP rfl
  have hDc : va_D (gv_in (gv_V cI cL ad f0 c0 f1 c1 f2 c2 lo up be si pl cu ge fa)) (gv_V cI cL ad f0 c0 f1 c1 f2 c2 lo up be si pl cu ge fa) := gv_D hD [0, 1, 2, 3, 4, 5, 6, 7, 8, 9, 10, 11, 12] (by decide) rfl
  refine gv_kv (wf := (fun (u : (Nat → Int32) × (Nat → Int32) × (Int32) × (Int32) × (Int32) × (Int32)) => (gv_V cI cL ad u.1 u.2.1 f1 c1 f2 c2 lo up be si u.2.2.1 u.2.2.2.1 u.2.2.2.2.1 u.2.2.2.2.2))) (wc := (gv_V cI cL ad f0 c0 f1 c1 f2 c2 lo up be si pl cu ge fa)) [0, 1, 2, 3, 4, 5, 6, 7, 8, 9, 10, 11, 12] (fun _ => rfl) hP hD hS rfl rfl (va_runV (As := []) (rest := []) ⟨hx, hb, hml, hown, hts⟩ (kX1_clear l dC dI cI cL ad f0 c0 f1 c1 f2 c2 lo up be si pl cu ge fa (gv_in (gv_V cI cL ad f0 c0 f1 c1 f2 c2 lo up be si pl cu ge fa))) (cwV (rm := gv_R 1 21) 0 hts gL_law_X1_clear rfl rfl rfl (by decide +kernel) ⟨(Nat.le_of_ble_eq_true rfl), (Nat.le_of_ble_eq_true rfl)⟩) (gv_preV (ci := 1) hK hPc hDc hN rfl rfl) rfl rfl hl.1 rfl (lv_room (Nat.le_of_ble_eq_true rfl)) dL_law_813 ⟨lw_rc (by omega), lw_rs (by omega)⟩) (fun u H locs hw hP hD hS => ?_)
  have hu : u = (f2z, h2z, 0, 0, 0, 0) := (show u = _ from hw).trans e1
  subst hu
  clear hw
  have hP : va_P (dC, dI) vwCl (lw_W cI cL ad am oa f2z h2z f1 c1 f2 c2 lo up be si 0 0 0 0 ou g bm sim gem cum plm brm th) H := hP
  have hD : va_D (fun q : Nat => s.heap.size ≤ q) (lw_W cI cL ad am oa f2z h2z f1 c1 f2 c2 lo up be si 0 0 0 0 ou g bm sim gem cum plm brm th) := hD
  refine lv_aload_n hx hb dL_law_816 rfl (lv_at hl 2 rfl) ?_
  have hPc : va_P (dC, dI) vwCl (gv_M cI am g bm sim gem cum plm brm th) H := gv_sub [14, 15, 16] hP rfl
  have hDc : va_D (gv_in (gv_M cI am g bm sim gem cum plm brm th)) (gv_M cI am g bm sim gem cum plm brm th) := gv_D hD [14, 15, 16] (by decide) rfl
  refine gv_kv (wf := (fun (u : (Nat → Int32) × (Int32) × (Int32) × (Int32) × (Int32) × (Int32)) => (gv_M cI am u.1 bm sim u.2.1 u.2.2.1 u.2.2.2.1 u.2.2.2.2.1 u.2.2.2.2.2))) (wc := (gv_M cI am g bm sim gem cum plm brm th)) [14, 15, 16] (fun _ => rfl) hP hD hS rfl rfl (va_runV (As := []) (rest := []) ⟨hx, hb, hml, hown, hts⟩ (kX2_clear l dC dI cI cL am g bm sim gem cum plm brm th (gv_in (gv_M cI am g bm sim gem cum plm brm th))) (cwV (rm := gv_R 0 0) 0 hts gL_law_X2_clear rfl rfl rfl (by decide +kernel) ⟨(Nat.le_of_ble_eq_true rfl), (Nat.le_of_ble_eq_true rfl)⟩) (gv_preV (ci := 2) hK hPc hDc hN rfl rfl) rfl rfl hl.1 rfl (lv_room (Nat.le_of_ble_eq_true rfl)) dL_law_817 ⟨lw_rc (by omega), lw_rs (by omega)⟩) (fun u H locs hw hP hD hS => ?_)
  have hu : u = (g2, 0, 3, 0, 0, 0) := (show u = _ from hw).trans e2
  subst hu
  clear hw
  have hP : va_P (dC, dI) vwCl (lw_W cI cL ad am oa f2z h2z f1 c1 f2 c2 lo up be si 0 0 0 0 ou g2 bm sim 0 3 0 0 0) H := hP
  have hD : va_D (fun q : Nat => s.heap.size ≤ q) (lw_W cI cL ad am oa f2z h2z f1 c1 f2 c2 lo up be si 0 0 0 0 ou g2 bm sim 0 3 0 0 0) := hD
  refine lv_goto (tgt := 823) hx hb dL_law_820 (by decide) ?_
  exact J f2z h2z f1 c1 f2 c2 lo up be si 0 0 0 0 ou g2 bm sim 0 3 0 0 0 H locs ls hR2 hP hD hS (lv_sub hl [0, 1, 2, 3, 4] rfl)
