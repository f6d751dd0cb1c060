/-! The law's own methods. -/
abbrev gl_VV (cI cL : ClassId) (ad ag : Nat → Nat) (f0 c0 f1 c1 f2 c2 : Nat → Int32) (lo up : Nat → Int64) (be : Nat → Int32) (si pl cu ge fa : Int32) (g0 d0 g1 d1 g2 d2 : Nat → Int32) (lp uq : Nat → Int64) (bg : Nat → Int32) : va_W := gv_V cI cL ad f0 c0 f1 c1 f2 c2 lo up be si pl cu ge fa ++ gv_V cI cL ag g0 d0 g1 d1 g2 d2 lp uq bg si pl cu ge fa
abbrev gl_VB (cI cL : ClassId) (ad : Nat → Nat) (b0 : Nat) (f0 c0 f1 c1 f2 c2 : Nat → Int32) (lo up : Nat → Int64) (be : Nat → Int32) (si pl cu ge fa : Int32) (bb : Nat → Int32) : va_W := gv_V cI cL ad f0 c0 f1 c1 f2 c2 lo up be si pl cu ge fa ++ [(b0, .inl (cI, 12, .inl bb))]
abbrev gl_L (cI cL : ClassId) (ad ag : Nat → Nat) (b0 : Nat) (f0 c0 f1 c1 f2 c2 : Nat → Int32) (lo up : Nat → Int64) (be : Nat → Int32) (si pl cu ge fa : Int32) (g0 d0 g1 d1 g2 d2 : Nat → Int32) (lp uq : Nat → Int64) (bg : Nat → Int32) (sg pg cg gg fg : Int32) (bb : Nat → Int32) : va_W := gv_V cI cL ad f0 c0 f1 c1 f2 c2 lo up be si pl cu ge fa ++ (gv_V cI cL ag g0 d0 g1 d1 g2 d2 lp uq bg sg pg cg gg fg ++ [(b0, .inl (cI, 12, .inl bb))])
set_option maxHeartbeats 4000000 in
set_option maxRecDepth 100000 in
theorem kL_areMirrored (l : Launch) (dC : Nat → ClassId) (dI : Nat → Nat → Nat) (cI cL : ClassId) (ad ag : Nat → Nat) (f0 : Nat → Int32) (c0 : Nat → Int32) (f1 : Nat → Int32) (c1 : Nat → Int32) (f2 : Nat → Int32) (c2 : Nat → Int32) (lo : Nat → Int64) (up : Nat → Int64) (be : Nat → Int32) (si : Int32) (pl : Int32) (cu : Int32) (ge : Int32) (fa : Int32) (g0 : Nat → Int32) (d0 : Nat → Int32) (g1 : Nat → Int32) (d1 : Nat → Int32) (g2 : Nat → Int32) (d2 : Nat → Int32) (lp : Nat → Int64) (uq : Nat → Int64) (bg : Nat → Int32) {L C M D : Nat → Nat → Bool} {B E : Nat → Nat} (hf : mF f0 L) (hc : mF c0 C) (hB : mB be B) (hg : mF g0 M) (hd : mF d0 D) (hE : mB bg E) (h1 : mX L M) (h2 : mX C D) (h3 : ∀ k, k < 12 → E k = B (11 - k)) : gv_Mi l yL_areMirrored wsL_areMirrored 7 172 (dC, dI) [(cI, .int), (cL, .long)] [.ref (ad 0), .ref (ag 0)] (gl_VV cI cL ad ag f0 c0 f1 c1 f2 c2 lo up be si pl cu ge fa g0 d0 g1 d1 g2 d2 lp uq bg) (fun (r : Int32) (_ : (Nat → Int32) × (Nat → Int32) × (Nat → Int32) × (Nat → Int32) × (Nat → Int32) × (Nat → Int32) × (Nat → Int32) × (Nat → Int32)) => r = 1) (fun (u : (Nat → Int32) × (Nat → Int32) × (Nat → Int32) × (Nat → Int32) × (Nat → Int32) × (Nat → Int32) × (Nat → Int32) × (Nat → Int32)) => (gl_VV cI cL ad ag f0 c0 u.1 u.2.1 u.2.2.1 u.2.2.2.1 lo up be si pl cu ge fa g0 d0 u.2.2.2.2.1 u.2.2.2.2.2.1 u.2.2.2.2.2.2.1 u.2.2.2.2.2.2.2 lp uq bg)) := by
  refine gv_ofz (cc := cL_areMirrored) (maxL := 7) (own := RL) (ty := .boolean) (by decide) rfl (Nat.le_of_ble_eq_true rfl) rfl ?_
  intro A p e s m args below meth c Q ls H locs hx hb hml hts hown hP hK hD hN hS hl kr
  have hl : lv_has ls 7 [(0, .ref (ad 0)), (1, .ref (ag 0))] := hl
  refine lv_aload_n hx hb dL_areMirrored_0 rfl (lv_at hl 0 rfl) ?_
  have hPc : va_P (dC, dI) vwCl (gv_V cI cL ad f0 c0 f1 c1 f2 c2 lo up be si pl cu ge fa) H := gv_sub [0, 1, 2, 3, 4, 5, 6, 7, 8, 9, 10, 11, 12] hP rfl
  have hDc : va_D (gv_in (gv_V cI cL ad f0 c0 f1 c1 f2 c2 lo up be si pl cu ge fa)) (gv_V cI cL ad f0 c0 f1 c1 f2 c2 lo up be si pl cu ge fa) := gv_D hD [0, 1, 2, 3, 4, 5, 6, 7, 8, 9, 10, 11, 12] (by decide) rfl
  refine gv_ki (wf := (fun (_ : Unit) => (gv_V cI cL ad f0 c0 f1 c1 f2 c2 lo up be si pl cu ge fa))) (wc := (gv_V cI cL ad f0 c0 f1 c1 f2 c2 lo up be si pl cu ge fa)) [0, 1, 2, 3, 4, 5, 6, 7, 8, 9, 10, 11, 12] (fun _ => rfl) hP hD hS rfl rfl (va_runV (As := []) (rest := []) ⟨hx, hb, hml, hown, hts⟩ (kX1_leaves l dC dI cI cL ad f0 c0 f1 c1 f2 c2 lo up be si pl cu ge fa (gv_in (gv_V cI cL ad f0 c0 f1 c1 f2 c2 lo up be si pl cu ge fa))) (cwV (rm := gv_R 2 42) 0 hts gL_areMirrored_X1_leaves rfl rfl rfl (by decide +kernel) ⟨Nat.le_of_ble_eq_true rfl, Nat.le_of_ble_eq_true rfl⟩) (gv_preV (ci := 1) hK hPc hDc hN rfl rfl) rfl rfl hl.1 rfl (lv_room (Nat.le_of_ble_eq_true rfl)) dL_areMirrored_1 ⟨Nat.zero_le _, Nat.zero_le _⟩) (fun q1 u H locs hw hP hD hS => ?_)
  have e1 := hw
  have hP : va_P (dC, dI) vwCl (gl_VV cI cL ad ag f0 c0 f1 c1 f2 c2 lo up be si pl cu ge fa g0 d0 g1 d1 g2 d2 lp uq bg) H := hP
  have hD : va_D A (gl_VV cI cL ad ag f0 c0 f1 c1 f2 c2 lo up be si pl cu ge fa g0 d0 g1 d1 g2 d2 lp uq bg) := hD
  refine lv_aload_n hx hb dL_areMirrored_4 rfl (lv_at hl 1 rfl) ?_
  have hPc : va_P (dC, dI) vwCl (gv_V cI cL ag g0 d0 g1 d1 g2 d2 lp uq bg si pl cu ge fa) H := gv_sub [13, 14, 15, 16, 17, 18, 19, 20, 21, 22, 23, 24, 25] hP rfl
  have hDc : va_D (gv_in (gv_V cI cL ag g0 d0 g1 d1 g2 d2 lp uq bg si pl cu ge fa)) (gv_V cI cL ag g0 d0 g1 d1 g2 d2 lp uq bg si pl cu ge fa) := gv_D hD [13, 14, 15, 16, 17, 18, 19, 20, 21, 22, 23, 24, 25] (by decide) rfl
  refine gv_ki (wf := (fun (_ : Unit) => (gv_V cI cL ag g0 d0 g1 d1 g2 d2 lp uq bg si pl cu ge fa))) (wc := (gv_V cI cL ag g0 d0 g1 d1 g2 d2 lp uq bg si pl cu ge fa)) [13, 14, 15, 16, 17, 18, 19, 20, 21, 22, 23, 24, 25] (fun _ => rfl) hP hD hS rfl rfl (va_runV (As := []) (rest := [.int q1]) ⟨hx, hb, hml, hown, hts⟩ (kX1_leaves l dC dI cI cL ag g0 d0 g1 d1 g2 d2 lp uq bg si pl cu ge fa (gv_in (gv_V cI cL ag g0 d0 g1 d1 g2 d2 lp uq bg si pl cu ge fa))) (cwV (rm := gv_R 2 42) 0 hts gL_areMirrored_X1_leaves rfl rfl rfl (by decide +kernel) ⟨Nat.le_of_ble_eq_true rfl, Nat.le_of_ble_eq_true rfl⟩) (gv_preV (ci := 1) hK hPc hDc hN rfl rfl) rfl rfl hl.1 rfl (lv_room (Nat.le_of_ble_eq_true rfl)) dL_areMirrored_5 ⟨Nat.zero_le _, Nat.zero_le _⟩) (fun q5 u H locs hw hP hD hS => ?_)
  have e5 := hw
  have hP : va_P (dC, dI) vwCl (gl_VV cI cL ad ag f0 c0 f1 c1 f2 c2 lo up be si pl cu ge fa g0 d0 g1 d1 g2 d2 lp uq bg) H := hP
  have hD : va_D A (gl_VV cI cL ad ag f0 c0 f1 c1 f2 c2 lo up be si pl cu ge fa g0 d0 g1 d1 g2 d2 lp uq bg) := hD
  refine lv_icmp_ne (tgt := 70) hx hb dL_areMirrored_8 (by decide) (fun c => absurd (e1.trans ((mz_leaves hf hg h1).trans e5.symm)) c) (fun _ => ?_)
  refine lv_aload_n hx hb dL_areMirrored_11 rfl (lv_at hl 0 rfl) ?_
  have hPc : va_P (dC, dI) vwCl (gv_V cI cL ad f0 c0 f1 c1 f2 c2 lo up be si pl cu ge fa) H := gv_sub [0, 1, 2, 3, 4, 5, 6, 7, 8, 9, 10, 11, 12] hP rfl
  have hDc : va_D (gv_in (gv_V cI cL ad f0 c0 f1 c1 f2 c2 lo up be si pl cu ge fa)) (gv_V cI cL ad f0 c0 f1 c1 f2 c2 lo up be si pl cu ge fa) := gv_D hD [0, 1, 2, 3, 4, 5, 6, 7, 8, 9, 10, 11, 12] (by decide) rfl
  refine gv_ki (wf := (fun (_ : Unit) => (gv_V cI cL ad f0 c0 f1 c1 f2 c2 lo up be si pl cu ge fa))) (wc := (gv_V cI cL ad f0 c0 f1 c1 f2 c2 lo up be si pl cu ge fa)) [0, 1, 2, 3, 4, 5, 6, 7, 8, 9, 10, 11, 12] (fun _ => rfl) hP hD hS rfl rfl (va_runV (As := []) (rest := []) ⟨hx, hb, hml, hown, hts⟩ (kX1_lit l dC dI cI cL ad f0 c0 f1 c1 f2 c2 lo up be si pl cu ge fa (gv_in (gv_V cI cL ad f0 c0 f1 c1 f2 c2 lo up be si pl cu ge fa))) (cwV (rm := gv_R 2 42) 0 hts gL_areMirrored_X1_lit rfl rfl rfl (by decide +kernel) ⟨Nat.le_of_ble_eq_true rfl, Nat.le_of_ble_eq_true rfl⟩) (gv_preV (ci := 1) hK hPc hDc hN rfl rfl) rfl rfl hl.1 rfl (lv_room (Nat.le_of_ble_eq_true rfl)) dL_areMirrored_12 ⟨Nat.zero_le _, Nat.zero_le _⟩) (fun q12 u H locs hw hP hD hS => ?_)
  have e12 := hw
  have hP : va_P (dC, dI) vwCl (gl_VV cI cL ad ag f0 c0 f1 c1 f2 c2 lo up be si pl cu ge fa g0 d0 g1 d1 g2 d2 lp uq bg) H := hP
  have hD : va_D A (gl_VV cI cL ad ag f0 c0 f1 c1 f2 c2 lo up be si pl cu ge fa g0 d0 g1 d1 g2 d2 lp uq bg) := hD
  refine lv_aload_n hx hb dL_areMirrored_15 rfl (lv_at hl 1 rfl) ?_
  have hPc : va_P (dC, dI) vwCl (gv_V cI cL ag g0 d0 g1 d1 g2 d2 lp uq bg si pl cu ge fa) H := gv_sub [13, 14, 15, 16, 17, 18, 19, 20, 21, 22, 23, 24, 25] hP rfl
  have hDc : va_D (gv_in (gv_V cI cL ag g0 d0 g1 d1 g2 d2 lp uq bg si pl cu ge fa)) (gv_V cI cL ag g0 d0 g1 d1 g2 d2 lp uq bg si pl cu ge fa) := gv_D hD [13, 14, 15, 16, 17, 18, 19, 20, 21, 22, 23, 24, 25] (by decide) rfl
  refine gv_ki (wf := (fun (_ : Unit) => (gv_V cI cL ag g0 d0 g1 d1 g2 d2 lp uq bg si pl cu ge fa))) (wc := (gv_V cI cL ag g0 d0 g1 d1 g2 d2 lp uq bg si pl cu ge fa)) [13, 14, 15, 16, 17, 18, 19, 20, 21, 22, 23, 24, 25] (fun _ => rfl) hP hD hS rfl rfl (va_runV (As := []) (rest := [.int q12]) ⟨hx, hb, hml, hown, hts⟩ (kX1_lit l dC dI cI cL ag g0 d0 g1 d1 g2 d2 lp uq bg si pl cu ge fa (gv_in (gv_V cI cL ag g0 d0 g1 d1 g2 d2 lp uq bg si pl cu ge fa))) (cwV (rm := gv_R 2 42) 0 hts gL_areMirrored_X1_lit rfl rfl rfl (by decide +kernel) ⟨Nat.le_of_ble_eq_true rfl, Nat.le_of_ble_eq_true rfl⟩) (gv_preV (ci := 1) hK hPc hDc hN rfl rfl) rfl rfl hl.1 rfl (lv_room (Nat.le_of_ble_eq_true rfl)) dL_areMirrored_16 ⟨Nat.zero_le _, Nat.zero_le _⟩) (fun q16 u H locs hw hP hD hS => ?_)
  have e16 := hw
  have hP : va_P (dC, dI) vwCl (gl_VV cI cL ad ag f0 c0 f1 c1 f2 c2 lo up be si pl cu ge fa g0 d0 g1 d1 g2 d2 lp uq bg) H := hP
  have hD : va_D A (gl_VV cI cL ad ag f0 c0 f1 c1 f2 c2 lo up be si pl cu ge fa g0 d0 g1 d1 g2 d2 lp uq bg) := hD
  refine lv_icmp_ne (tgt := 70) hx hb dL_areMirrored_19 (by decide) (fun c => absurd (e12.trans ((mz_lit hf hg h1).trans e16.symm)) c) (fun _ => ?_)
  refine lv_aload_n hx hb dL_areMirrored_22 rfl (lv_at hl 0 rfl) ?_
  have hPc : va_P (dC, dI) vwCl (gv_V cI cL ad f0 c0 f1 c1 f2 c2 lo up be si pl cu ge fa) H := gv_sub [0, 1, 2, 3, 4, 5, 6, 7, 8, 9, 10, 11, 12] hP rfl
  have hDc : va_D (gv_in (gv_V cI cL ad f0 c0 f1 c1 f2 c2 lo up be si pl cu ge fa)) (gv_V cI cL ad f0 c0 f1 c1 f2 c2 lo up be si pl cu ge fa) := gv_D hD [0, 1, 2, 3, 4, 5, 6, 7, 8, 9, 10, 11, 12] (by decide) rfl
  refine gv_ki (wf := (fun (_ : Unit) => (gv_V cI cL ad f0 c0 f1 c1 f2 c2 lo up be si pl cu ge fa))) (wc := (gv_V cI cL ad f0 c0 f1 c1 f2 c2 lo up be si pl cu ge fa)) [0, 1, 2, 3, 4, 5, 6, 7, 8, 9, 10, 11, 12] (fun _ => rfl) hP hD hS rfl rfl (va_runV (As := []) (rest := []) ⟨hx, hb, hml, hown, hts⟩ (kX1_generation l dC dI cI cL ad f0 c0 f1 c1 f2 c2 lo up be si pl cu ge fa (gv_in (gv_V cI cL ad f0 c0 f1 c1 f2 c2 lo up be si pl cu ge fa))) (cwV (rm := gv_R 0 0) 0 hts gL_areMirrored_X1_generation rfl rfl rfl (by decide +kernel) ⟨Nat.le_of_ble_eq_true rfl, Nat.le_of_ble_eq_true rfl⟩) (gv_preV (ci := 1) hK hPc hDc hN rfl rfl) rfl rfl hl.1 rfl (lv_room (Nat.le_of_ble_eq_true rfl)) dL_areMirrored_23 ⟨Nat.zero_le _, Nat.zero_le _⟩) (fun q23 u H locs hw hP hD hS => ?_)
  have e23 := hw
  have hP : va_P (dC, dI) vwCl (gl_VV cI cL ad ag f0 c0 f1 c1 f2 c2 lo up be si pl cu ge fa g0 d0 g1 d1 g2 d2 lp uq bg) H := hP
  have hD : va_D A (gl_VV cI cL ad ag f0 c0 f1 c1 f2 c2 lo up be si pl cu ge fa g0 d0 g1 d1 g2 d2 lp uq bg) := hD
  refine lv_aload_n hx hb dL_areMirrored_26 rfl (lv_at hl 1 rfl) ?_
  have hPc : va_P (dC, dI) vwCl (gv_V cI cL ag g0 d0 g1 d1 g2 d2 lp uq bg si pl cu ge fa) H := gv_sub [13, 14, 15, 16, 17, 18, 19, 20, 21, 22, 23, 24, 25] hP rfl
  have hDc : va_D (gv_in (gv_V cI cL ag g0 d0 g1 d1 g2 d2 lp uq bg si pl cu ge fa)) (gv_V cI cL ag g0 d0 g1 d1 g2 d2 lp uq bg si pl cu ge fa) := gv_D hD [13, 14, 15, 16, 17, 18, 19, 20, 21, 22, 23, 24, 25] (by decide) rfl
  refine gv_ki (wf := (fun (_ : Unit) => (gv_V cI cL ag g0 d0 g1 d1 g2 d2 lp uq bg si pl cu ge fa))) (wc := (gv_V cI cL ag g0 d0 g1 d1 g2 d2 lp uq bg si pl cu ge fa)) [13, 14, 15, 16, 17, 18, 19, 20, 21, 22, 23, 24, 25] (fun _ => rfl) hP hD hS rfl rfl (va_runV (As := []) (rest := [.int q23]) ⟨hx, hb, hml, hown, hts⟩ (kX1_generation l dC dI cI cL ag g0 d0 g1 d1 g2 d2 lp uq bg si pl cu ge fa (gv_in (gv_V cI cL ag g0 d0 g1 d1 g2 d2 lp uq bg si pl cu ge fa))) (cwV (rm := gv_R 0 0) 0 hts gL_areMirrored_X1_generation rfl rfl rfl (by decide +kernel) ⟨Nat.le_of_ble_eq_true rfl, Nat.le_of_ble_eq_true rfl⟩) (gv_preV (ci := 1) hK hPc hDc hN rfl rfl) rfl rfl hl.1 rfl (lv_room (Nat.le_of_ble_eq_true rfl)) dL_areMirrored_27 ⟨Nat.zero_le _, Nat.zero_le _⟩) (fun q27 u H locs hw hP hD hS => ?_)
  have e27 := hw
  have hP : va_P (dC, dI) vwCl (gl_VV cI cL ad ag f0 c0 f1 c1 f2 c2 lo up be si pl cu ge fa g0 d0 g1 d1 g2 d2 lp uq bg) H := hP
  have hD : va_D A (gl_VV cI cL ad ag f0 c0 f1 c1 f2 c2 lo up be si pl cu ge fa g0 d0 g1 d1 g2 d2 lp uq bg) := hD
  refine lv_icmp_ne (tgt := 70) hx hb dL_areMirrored_30 (by decide) (fun c => absurd (e23.trans e27.symm) c) (fun _ => ?_)
  refine lv_aload_n hx hb dL_areMirrored_33 rfl (lv_at hl 0 rfl) ?_
  have hPc : va_P (dC, dI) vwCl (gv_V cI cL ad f0 c0 f1 c1 f2 c2 lo up be si pl cu ge fa) H := gv_sub [0, 1, 2, 3, 4, 5, 6, 7, 8, 9, 10, 11, 12] hP rfl
  have hDc : va_D (gv_in (gv_V cI cL ad f0 c0 f1 c1 f2 c2 lo up be si pl cu ge fa)) (gv_V cI cL ad f0 c0 f1 c1 f2 c2 lo up be si pl cu ge fa) := gv_D hD [0, 1, 2, 3, 4, 5, 6, 7, 8, 9, 10, 11, 12] (by decide) rfl
  refine gv_ki (wf := (fun (_ : Unit) => (gv_V cI cL ad f0 c0 f1 c1 f2 c2 lo up be si pl cu ge fa))) (wc := (gv_V cI cL ad f0 c0 f1 c1 f2 c2 lo up be si pl cu ge fa)) [0, 1, 2, 3, 4, 5, 6, 7, 8, 9, 10, 11, 12] (fun _ => rfl) hP hD hS rfl rfl (va_runV (As := []) (rest := []) ⟨hx, hb, hml, hown, hts⟩ (kX1_cutsLeft l dC dI cI cL ad f0 c0 f1 c1 f2 c2 lo up be si pl cu ge fa (gv_in (gv_V cI cL ad f0 c0 f1 c1 f2 c2 lo up be si pl cu ge fa))) (cwV (rm := gv_R 0 0) 0 hts gL_areMirrored_X1_cutsLeft rfl rfl rfl (by decide +kernel) ⟨Nat.le_of_ble_eq_true rfl, Nat.le_of_ble_eq_true rfl⟩) (gv_preV (ci := 1) hK hPc hDc hN rfl rfl) rfl rfl hl.1 rfl (lv_room (Nat.le_of_ble_eq_true rfl)) dL_areMirrored_34 ⟨Nat.zero_le _, Nat.zero_le _⟩) (fun q34 u H locs hw hP hD hS => ?_)
  have e34 := hw
  have hP : va_P (dC, dI) vwCl (gl_VV cI cL ad ag f0 c0 f1 c1 f2 c2 lo up be si pl cu ge fa g0 d0 g1 d1 g2 d2 lp uq bg) H := hP
  have hD : va_D A (gl_VV cI cL ad ag f0 c0 f1 c1 f2 c2 lo up be si pl cu ge fa g0 d0 g1 d1 g2 d2 lp uq bg) := hD
  refine lv_aload_n hx hb dL_areMirrored_37 rfl (lv_at hl 1 rfl) ?_
  have hPc : va_P (dC, dI) vwCl (gv_V cI cL ag g0 d0 g1 d1 g2 d2 lp uq bg si pl cu ge fa) H := gv_sub [13, 14, 15, 16, 17, 18, 19, 20, 21, 22, 23, 24, 25] hP rfl
  have hDc : va_D (gv_in (gv_V cI cL ag g0 d0 g1 d1 g2 d2 lp uq bg si pl cu ge fa)) (gv_V cI cL ag g0 d0 g1 d1 g2 d2 lp uq bg si pl cu ge fa) := gv_D hD [13, 14, 15, 16, 17, 18, 19, 20, 21, 22, 23, 24, 25] (by decide) rfl
  refine gv_ki (wf := (fun (_ : Unit) => (gv_V cI cL ag g0 d0 g1 d1 g2 d2 lp uq bg si pl cu ge fa))) (wc := (gv_V cI cL ag g0 d0 g1 d1 g2 d2 lp uq bg si pl cu ge fa)) [13, 14, 15, 16, 17, 18, 19, 20, 21, 22, 23, 24, 25] (fun _ => rfl) hP hD hS rfl rfl (va_runV (As := []) (rest := [.int q34]) ⟨hx, hb, hml, hown, hts⟩ (kX1_cutsLeft l dC dI cI cL ag g0 d0 g1 d1 g2 d2 lp uq bg si pl cu ge fa (gv_in (gv_V cI cL ag g0 d0 g1 d1 g2 d2 lp uq bg si pl cu ge fa))) (cwV (rm := gv_R 0 0) 0 hts gL_areMirrored_X1_cutsLeft rfl rfl rfl (by decide +kernel) ⟨Nat.le_of_ble_eq_true rfl, Nat.le_of_ble_eq_true rfl⟩) (gv_preV (ci := 1) hK hPc hDc hN rfl rfl) rfl rfl hl.1 rfl (lv_room (Nat.le_of_ble_eq_true rfl)) dL_areMirrored_38 ⟨Nat.zero_le _, Nat.zero_le _⟩) (fun q38 u H locs hw hP hD hS => ?_)
  have e38 := hw
  have hP : va_P (dC, dI) vwCl (gl_VV cI cL ad ag f0 c0 f1 c1 f2 c2 lo up be si pl cu ge fa g0 d0 g1 d1 g2 d2 lp uq bg) H := hP
  have hD : va_D A (gl_VV cI cL ad ag f0 c0 f1 c1 f2 c2 lo up be si pl cu ge fa g0 d0 g1 d1 g2 d2 lp uq bg) := hD
  refine lv_icmp_ne (tgt := 70) hx hb dL_areMirrored_41 (by decide) (fun c => absurd (e34.trans e38.symm) c) (fun _ => ?_)
  refine lv_aload_n hx hb dL_areMirrored_44 rfl (lv_at hl 0 rfl) ?_
  have hPc : va_P (dC, dI) vwCl (gv_V cI cL ad f0 c0 f1 c1 f2 c2 lo up be si pl cu ge fa) H := gv_sub [0, 1, 2, 3, 4, 5, 6, 7, 8, 9, 10, 11, 12] hP rfl
  have hDc : va_D (gv_in (gv_V cI cL ad f0 c0 f1 c1 f2 c2 lo up be si pl cu ge fa)) (gv_V cI cL ad f0 c0 f1 c1 f2 c2 lo up be si pl cu ge fa) := gv_D hD [0, 1, 2, 3, 4, 5, 6, 7, 8, 9, 10, 11, 12] (by decide) rfl
  refine gv_ki (wf := (fun (_ : Unit) => (gv_V cI cL ad f0 c0 f1 c1 f2 c2 lo up be si pl cu ge fa))) (wc := (gv_V cI cL ad f0 c0 f1 c1 f2 c2 lo up be si pl cu ge fa)) [0, 1, 2, 3, 4, 5, 6, 7, 8, 9, 10, 11, 12] (fun _ => rfl) hP hD hS rfl rfl (va_runV (As := []) (rest := []) ⟨hx, hb, hml, hown, hts⟩ (kX1_broken l dC dI cI cL ad f0 c0 f1 c1 f2 c2 lo up be si pl cu ge fa (gv_in (gv_V cI cL ad f0 c0 f1 c1 f2 c2 lo up be si pl cu ge fa))) (cwV (rm := gv_R 0 0) 0 hts gL_areMirrored_X1_broken rfl rfl rfl (by decide +kernel) ⟨Nat.le_of_ble_eq_true rfl, Nat.le_of_ble_eq_true rfl⟩) (gv_preV (ci := 1) hK hPc hDc hN rfl rfl) rfl rfl hl.1 rfl (lv_room (Nat.le_of_ble_eq_true rfl)) dL_areMirrored_45 ⟨Nat.zero_le _, Nat.zero_le _⟩) (fun q45 u H locs hw hP hD hS => ?_)
  have e45 := hw
  have hP : va_P (dC, dI) vwCl (gl_VV cI cL ad ag f0 c0 f1 c1 f2 c2 lo up be si pl cu ge fa g0 d0 g1 d1 g2 d2 lp uq bg) H := hP
  have hD : va_D A (gl_VV cI cL ad ag f0 c0 f1 c1 f2 c2 lo up be si pl cu ge fa g0 d0 g1 d1 g2 d2 lp uq bg) := hD
  refine lv_aload_n hx hb dL_areMirrored_48 rfl (lv_at hl 1 rfl) ?_
  have hPc : va_P (dC, dI) vwCl (gv_V cI cL ag g0 d0 g1 d1 g2 d2 lp uq bg si pl cu ge fa) H := gv_sub [13, 14, 15, 16, 17, 18, 19, 20, 21, 22, 23, 24, 25] hP rfl
  have hDc : va_D (gv_in (gv_V cI cL ag g0 d0 g1 d1 g2 d2 lp uq bg si pl cu ge fa)) (gv_V cI cL ag g0 d0 g1 d1 g2 d2 lp uq bg si pl cu ge fa) := gv_D hD [13, 14, 15, 16, 17, 18, 19, 20, 21, 22, 23, 24, 25] (by decide) rfl
  refine gv_ki (wf := (fun (_ : Unit) => (gv_V cI cL ag g0 d0 g1 d1 g2 d2 lp uq bg si pl cu ge fa))) (wc := (gv_V cI cL ag g0 d0 g1 d1 g2 d2 lp uq bg si pl cu ge fa)) [13, 14, 15, 16, 17, 18, 19, 20, 21, 22, 23, 24, 25] (fun _ => rfl) hP hD hS rfl rfl (va_runV (As := []) (rest := [.int q45]) ⟨hx, hb, hml, hown, hts⟩ (kX1_broken l dC dI cI cL ag g0 d0 g1 d1 g2 d2 lp uq bg si pl cu ge fa (gv_in (gv_V cI cL ag g0 d0 g1 d1 g2 d2 lp uq bg si pl cu ge fa))) (cwV (rm := gv_R 0 0) 0 hts gL_areMirrored_X1_broken rfl rfl rfl (by decide +kernel) ⟨Nat.le_of_ble_eq_true rfl, Nat.le_of_ble_eq_true rfl⟩) (gv_preV (ci := 1) hK hPc hDc hN rfl rfl) rfl rfl hl.1 rfl (lv_room (Nat.le_of_ble_eq_true rfl)) dL_areMirrored_49 ⟨Nat.zero_le _, Nat.zero_le _⟩) (fun q49 u H locs hw hP hD hS => ?_)
  have e49 := hw
  have hP : va_P (dC, dI) vwCl (gl_VV cI cL ad ag f0 c0 f1 c1 f2 c2 lo up be si pl cu ge fa g0 d0 g1 d1 g2 d2 lp uq bg) H := hP
  have hD : va_D A (gl_VV cI cL ad ag f0 c0 f1 c1 f2 c2 lo up be si pl cu ge fa g0 d0 g1 d1 g2 d2 lp uq bg) := hD
  refine lv_icmp_ne (tgt := 70) hx hb dL_areMirrored_52 (by decide) (fun c => absurd (e45.trans e49.symm) c) (fun _ => ?_)
  refine lv_aload_n hx hb dL_areMirrored_55 rfl (lv_at hl 0 rfl) ?_
  have hPc : va_P (dC, dI) vwCl (gv_V cI cL ad f0 c0 f1 c1 f2 c2 lo up be si pl cu ge fa) H := gv_sub [0, 1, 2, 3, 4, 5, 6, 7, 8, 9, 10, 11, 12] hP rfl
  have hDc : va_D (gv_in (gv_V cI cL ad f0 c0 f1 c1 f2 c2 lo up be si pl cu ge fa)) (gv_V cI cL ad f0 c0 f1 c1 f2 c2 lo up be si pl cu ge fa) := gv_D hD [0, 1, 2, 3, 4, 5, 6, 7, 8, 9, 10, 11, 12] (by decide) rfl
  refine gv_ki (wf := (fun (u : (Nat → Int32) × (Nat → Int32)) => (gv_V cI cL ad f0 c0 f1 c1 u.1 u.2 lo up be si pl cu ge fa))) (wc := (gv_V cI cL ad f0 c0 f1 c1 f2 c2 lo up be si pl cu ge fa)) [0, 1, 2, 3, 4, 5, 6, 7, 8, 9, 10, 11, 12] (fun _ => rfl) hP hD hS rfl rfl (va_runV (As := []) (rest := []) ⟨hx, hb, hml, hown, hts⟩ (kX1_leavesNext l dC dI cI cL ad f0 c0 f1 c1 f2 c2 lo up be si pl cu ge fa (gv_in (gv_V cI cL ad f0 c0 f1 c1 f2 c2 lo up be si pl cu ge fa))) (cwV (rm := gv_R 5 124) 0 hts gL_areMirrored_X1_leavesNext rfl rfl rfl (by decide +kernel) ⟨Nat.le_of_ble_eq_true rfl, Nat.le_of_ble_eq_true rfl⟩) (gv_preV (ci := 1) hK hPc hDc hN rfl rfl) rfl rfl hl.1 rfl (lv_room (Nat.le_of_ble_eq_true rfl)) dL_areMirrored_56 ⟨Nat.zero_le _, Nat.zero_le _⟩) (fun q56 u H locs hw hP hD hS => ?_)
  obtain ⟨f2_q56, c2_q56⟩ := u
  have e56 := hw
  have hP : va_P (dC, dI) vwCl (gl_VV cI cL ad ag f0 c0 f1 c1 f2_q56 c2_q56 lo up be si pl cu ge fa g0 d0 g1 d1 g2 d2 lp uq bg) H := hP
  have hD : va_D A (gl_VV cI cL ad ag f0 c0 f1 c1 f2_q56 c2_q56 lo up be si pl cu ge fa g0 d0 g1 d1 g2 d2 lp uq bg) := hD
  refine lv_aload_n hx hb dL_areMirrored_59 rfl (lv_at hl 1 rfl) ?_
  have hPc : va_P (dC, dI) vwCl (gv_V cI cL ag g0 d0 g1 d1 g2 d2 lp uq bg si pl cu ge fa) H := gv_sub [13, 14, 15, 16, 17, 18, 19, 20, 21, 22, 23, 24, 25] hP rfl
  have hDc : va_D (gv_in (gv_V cI cL ag g0 d0 g1 d1 g2 d2 lp uq bg si pl cu ge fa)) (gv_V cI cL ag g0 d0 g1 d1 g2 d2 lp uq bg si pl cu ge fa) := gv_D hD [13, 14, 15, 16, 17, 18, 19, 20, 21, 22, 23, 24, 25] (by decide) rfl
  refine gv_ki (wf := (fun (u : (Nat → Int32) × (Nat → Int32)) => (gv_V cI cL ag g0 d0 g1 d1 u.1 u.2 lp uq bg si pl cu ge fa))) (wc := (gv_V cI cL ag g0 d0 g1 d1 g2 d2 lp uq bg si pl cu ge fa)) [13, 14, 15, 16, 17, 18, 19, 20, 21, 22, 23, 24, 25] (fun _ => rfl) hP hD hS rfl rfl (va_runV (As := []) (rest := [.int q56]) ⟨hx, hb, hml, hown, hts⟩ (kX1_leavesNext l dC dI cI cL ag g0 d0 g1 d1 g2 d2 lp uq bg si pl cu ge fa (gv_in (gv_V cI cL ag g0 d0 g1 d1 g2 d2 lp uq bg si pl cu ge fa))) (cwV (rm := gv_R 5 124) 0 hts gL_areMirrored_X1_leavesNext rfl rfl rfl (by decide +kernel) ⟨Nat.le_of_ble_eq_true rfl, Nat.le_of_ble_eq_true rfl⟩) (gv_preV (ci := 1) hK hPc hDc hN rfl rfl) rfl rfl hl.1 rfl (lv_room (Nat.le_of_ble_eq_true rfl)) dL_areMirrored_60 ⟨Nat.zero_le _, Nat.zero_le _⟩) (fun q60 u H locs hw hP hD hS => ?_)
  obtain ⟨g2_q60, d2_q60⟩ := u
  have e60 := hw
  have hP : va_P (dC, dI) vwCl (gl_VV cI cL ad ag f0 c0 f1 c1 f2_q56 c2_q56 lo up be si pl cu ge fa g0 d0 g1 d1 g2_q60 d2_q60 lp uq bg) H := hP
  have hD : va_D A (gl_VV cI cL ad ag f0 c0 f1 c1 f2_q56 c2_q56 lo up be si pl cu ge fa g0 d0 g1 d1 g2_q60 d2_q60 lp uq bg) := hD
  refine lv_icmp_ne (tgt := 70) hx hb dL_areMirrored_63 (by decide) (fun c => absurd (mz_next hB hf hc hE hg hd h1 h2 h3 e56 e60) c) (fun _ => ?_)
  refine lv_iconst (v := 1) hx hb dL_areMirrored_66 (by decide) ?_
  refine lv_goto (tgt := 71) hx hb dL_areMirrored_67 (by decide) ?_
  refine lv_istore_n (lv' := [(2, .int 1), (0, .ref (ad 0)), (1, .ref (ag 0))]) hx hb dL_areMirrored_71 rfl hl (by decide) rfl (fun ls hl => ?_)
  refine lv_iconst (v := 0) hx hb dL_areMirrored_72 (by decide) ?_
  refine lv_istore_n (lv' := [(3, .int 0), (2, .int 1), (0, .ref (ad 0)), (1, .ref (ag 0))]) hx hb dL_areMirrored_73 rfl hl (by decide) rfl (fun ls hl => ?_)
  have L74 : ∀ (n i : Nat) (H : Heap) (locs : List Loc) (ls : Array Slot), i + n = 96 → va_P (dC, dI) vwCl (gl_VV cI cL ad ag f0 c0 f1 c1 f2_q56 c2_q56 lo up be si pl cu ge fa g0 d0 g1 d1 g2_q60 d2_q60 lp uq bg) H → va_D A (gl_VV cI cL ad ag f0 c0 f1 c1 f2_q56 c2_q56 lo up be si pl cu ge fa g0 d0 g1 d1 g2_q60 d2_q60 lp uq bg) → va_S A s.heap H locs → lv_has ls 7 [(0, .ref (ad 0)), (1, .ref (ag 0)), (2, .int 1), (3, .int (nI i))] → W p l e (gv_R 7 172) s m args below meth c H locs 0 0 Q (F0 m 74 ls []) := by
    intro n
    induction n with
    | zero =>
      intro i H locs ls hi hP hD hS hl
      refine lv_iload_n hx hb dL_areMirrored_74 rfl (lv_at hl 3 rfl) ?_
      refine lv_bipush (v := 96) hx hb dL_areMirrored_75 (by decide) ?_
      refine lv_icmp_ge (tgt := 211) hx hb dL_areMirrored_77 (by decide) (fun _ => ?_) (fun c => absurd (show (96 : Int32) ≤ nI i from nI_le (a := 96) (by omega) (by omega)) c)
      refine lv_aload_n hx hb dL_areMirrored_211 rfl (lv_at hl 0 rfl) ?_
      have hPc : va_P (dC, dI) vwCl (gv_V cI cL ad f0 c0 f1 c1 f2_q56 c2_q56 lo up be si pl cu ge fa) H := gv_sub [0, 1, 2, 3, 4, 5, 6, 7, 8, 9, 10, 11, 12] hP rfl
      have hDc : va_D (gv_in (gv_V cI cL ad f0 c0 f1 c1 f2_q56 c2_q56 lo up be si pl cu ge fa)) (gv_V cI cL ad f0 c0 f1 c1 f2_q56 c2_q56 lo up be si pl cu ge fa) := gv_D hD [0, 1, 2, 3, 4, 5, 6, 7, 8, 9, 10, 11, 12] (by decide) rfl
      refine gv_ki (wf := (fun (u : (Nat → Int32) × (Nat → Int32) × (Nat → Int32) × (Nat → Int32)) => (gv_V cI cL ad f0 c0 u.1 u.2.1 u.2.2.1 u.2.2.2 lo up be si pl cu ge fa))) (wc := (gv_V cI cL ad f0 c0 f1 c1 f2_q56 c2_q56 lo up be si pl cu ge fa)) [0, 1, 2, 3, 4, 5, 6, 7, 8, 9, 10, 11, 12] (fun _ => rfl) hP hD hS rfl rfl (va_runV (As := []) (rest := []) ⟨hx, hb, hml, hown, hts⟩ (kX1_bestCut l dC dI cI cL ad f0 c0 f1 c1 f2_q56 c2_q56 lo up be si pl cu ge fa (gv_in (gv_V cI cL ad f0 c0 f1 c1 f2_q56 c2_q56 lo up be si pl cu ge fa))) (cwV (rm := gv_R 6 146) 0 hts gL_areMirrored_X1_bestCut rfl rfl rfl (by decide +kernel) ⟨Nat.le_of_ble_eq_true rfl, Nat.le_of_ble_eq_true rfl⟩) (gv_preV (ci := 1) hK hPc hDc hN rfl rfl) rfl rfl hl.1 rfl (lv_room (Nat.le_of_ble_eq_true rfl)) dL_areMirrored_212 ⟨Nat.zero_le _, Nat.zero_le _⟩) (fun q212 u H locs hw hP hD hS => ?_)
      obtain ⟨f1_q212, c1_q212, f2_q212, c2_q212⟩ := u
      have e212 := hw
      have hP : va_P (dC, dI) vwCl (gl_VV cI cL ad ag f0 c0 f1_q212 c1_q212 f2_q212 c2_q212 lo up be si pl cu ge fa g0 d0 g1 d1 g2_q60 d2_q60 lp uq bg) H := hP
      have hD : va_D A (gl_VV cI cL ad ag f0 c0 f1_q212 c1_q212 f2_q212 c2_q212 lo up be si pl cu ge fa g0 d0 g1 d1 g2_q60 d2_q60 lp uq bg) := hD
      refine lv_istore_n (lv' := [(3, .int q212), (0, .ref (ad 0)), (1, .ref (ag 0)), (2, .int 1)]) hx hb dL_areMirrored_215 rfl hl (by decide) rfl (fun ls hl => ?_)
      refine lv_aload_n hx hb dL_areMirrored_216 rfl (lv_at hl 2 rfl) ?_
      have hPc : va_P (dC, dI) vwCl (gv_V cI cL ag g0 d0 g1 d1 g2_q60 d2_q60 lp uq bg si pl cu ge fa) H := gv_sub [13, 14, 15, 16, 17, 18, 19, 20, 21, 22, 23, 24, 25] hP rfl
      have hDc : va_D (gv_in (gv_V cI cL ag g0 d0 g1 d1 g2_q60 d2_q60 lp uq bg si pl cu ge fa)) (gv_V cI cL ag g0 d0 g1 d1 g2_q60 d2_q60 lp uq bg si pl cu ge fa) := gv_D hD [13, 14, 15, 16, 17, 18, 19, 20, 21, 22, 23, 24, 25] (by decide) rfl
      refine gv_ki (wf := (fun (u : (Nat → Int32) × (Nat → Int32) × (Nat → Int32) × (Nat → Int32)) => (gv_V cI cL ag g0 d0 u.1 u.2.1 u.2.2.1 u.2.2.2 lp uq bg si pl cu ge fa))) (wc := (gv_V cI cL ag g0 d0 g1 d1 g2_q60 d2_q60 lp uq bg si pl cu ge fa)) [13, 14, 15, 16, 17, 18, 19, 20, 21, 22, 23, 24, 25] (fun _ => rfl) hP hD hS rfl rfl (va_runV (As := []) (rest := []) ⟨hx, hb, hml, hown, hts⟩ (kX1_bestCut l dC dI cI cL ag g0 d0 g1 d1 g2_q60 d2_q60 lp uq bg si pl cu ge fa (gv_in (gv_V cI cL ag g0 d0 g1 d1 g2_q60 d2_q60 lp uq bg si pl cu ge fa))) (cwV (rm := gv_R 6 146) 0 hts gL_areMirrored_X1_bestCut rfl rfl rfl (by decide +kernel) ⟨Nat.le_of_ble_eq_true rfl, Nat.le_of_ble_eq_true rfl⟩) (gv_preV (ci := 1) hK hPc hDc hN rfl rfl) rfl rfl hl.1 rfl (lv_room (Nat.le_of_ble_eq_true rfl)) dL_areMirrored_217 ⟨Nat.zero_le _, Nat.zero_le _⟩) (fun q217 u H locs hw hP hD hS => ?_)
      obtain ⟨g1_q217, d1_q217, g2_q217, d2_q217⟩ := u
      have e217 := hw
      have hP : va_P (dC, dI) vwCl (gl_VV cI cL ad ag f0 c0 f1_q212 c1_q212 f2_q212 c2_q212 lo up be si pl cu ge fa g0 d0 g1_q217 d1_q217 g2_q217 d2_q217 lp uq bg) H := hP
      have hD : va_D A (gl_VV cI cL ad ag f0 c0 f1_q212 c1_q212 f2_q212 c2_q212 lo up be si pl cu ge fa g0 d0 g1_q217 d1_q217 g2_q217 d2_q217 lp uq bg) := hD
      refine lv_istore (lv' := [(4, .int q217), (3, .int q212), (0, .ref (ad 0)), (1, .ref (ag 0)), (2, .int 1)]) hx hb dL_areMirrored_220 hl (by decide) rfl (fun ls hl => ?_)
      have b1 := sv_best hB hf hc e212
      have b2 := sv_best hE hg hd e217
      obtain ⟨m1, m2⟩ := mx_best (s := si) h1 h2 h3
      have n1 := mb_none (s := si) B L C
      by_cases hM : (mbF (mbp si B L C) 96 0 0 0).2 = 0
      · have b1 : q212 = -1 := b1.trans (if_pos hM)
        have b2 : q217 = -1 := b2.trans (if_pos (m1.symm.trans hM))
        refine lv_iload_n hx hb dL_areMirrored_222 rfl (lv_at hl 4 rfl) ?_
        refine lv_if_eq (tgt := 295) hx hb dL_areMirrored_223 (by decide) (fun c => absurd c (by decide)) (fun _ => ?_)
        refine lv_iload_n hx hb dL_areMirrored_226 rfl (lv_at hl 1 rfl) ?_
        refine lv_if_ge (tgt := 234) hx hb dL_areMirrored_227 (by decide) (fun c => absurd c (by rw [b1]; decide)) (fun _ => ?_)
        refine lv_iconst (v := 1) hx hb dL_areMirrored_230 (by decide) ?_
        refine lv_goto (tgt := 235) hx hb dL_areMirrored_231 (by decide) ?_
        refine lv_aload_n hx hb dL_areMirrored_235 rfl (lv_at hl 2 rfl) ?_
        have hPc : va_P (dC, dI) vwCl (gv_V cI cL ad f0 c0 f1_q212 c1_q212 f2_q212 c2_q212 lo up be si pl cu ge fa) H := gv_sub [0, 1, 2, 3, 4, 5, 6, 7, 8, 9, 10, 11, 12] hP rfl
        have hDc : va_D (gv_in (gv_V cI cL ad f0 c0 f1_q212 c1_q212 f2_q212 c2_q212 lo up be si pl cu ge fa)) (gv_V cI cL ad f0 c0 f1_q212 c1_q212 f2_q212 c2_q212 lo up be si pl cu ge fa) := gv_D hD [0, 1, 2, 3, 4, 5, 6, 7, 8, 9, 10, 11, 12] (by decide) rfl
        refine gv_ki (wf := (fun (_ : Unit) => (gv_V cI cL ad f0 c0 f1_q212 c1_q212 f2_q212 c2_q212 lo up be si pl cu ge fa))) (wc := (gv_V cI cL ad f0 c0 f1_q212 c1_q212 f2_q212 c2_q212 lo up be si pl cu ge fa)) [0, 1, 2, 3, 4, 5, 6, 7, 8, 9, 10, 11, 12] (fun _ => rfl) hP hD hS rfl rfl (va_runV (As := []) (rest := [.int 1]) ⟨hx, hb, hml, hown, hts⟩ (kX1_leaves l dC dI cI cL ad f0 c0 f1_q212 c1_q212 f2_q212 c2_q212 lo up be si pl cu ge fa (gv_in (gv_V cI cL ad f0 c0 f1_q212 c1_q212 f2_q212 c2_q212 lo up be si pl cu ge fa))) (cwV (rm := gv_R 2 42) 0 hts gL_areMirrored_X1_leaves rfl rfl rfl (by decide +kernel) ⟨Nat.le_of_ble_eq_true rfl, Nat.le_of_ble_eq_true rfl⟩) (gv_preV (ci := 1) hK hPc hDc hN rfl rfl) rfl rfl hl.1 rfl (lv_room (Nat.le_of_ble_eq_true rfl)) dL_areMirrored_236 ⟨Nat.zero_le _, Nat.zero_le _⟩) (fun q236 u H locs hw hP hD hS => ?_)
        have e236 := hw
        have hP : va_P (dC, dI) vwCl (gl_VV cI cL ad ag f0 c0 f1_q212 c1_q212 f2_q212 c2_q212 lo up be si pl cu ge fa g0 d0 g1_q217 d1_q217 g2_q217 d2_q217 lp uq bg) H := hP
        have hD : va_D A (gl_VV cI cL ad ag f0 c0 f1_q212 c1_q212 f2_q212 c2_q212 lo up be si pl cu ge fa g0 d0 g1_q217 d1_q217 g2_q217 d2_q217 lp uq bg) := hD
        refine lv_if_ne (tgt := 246) hx hb dL_areMirrored_239 (by decide) (fun c => absurd (e236.trans ((sv_leaves hf).trans ((congrArg nI (n1.mp hM)).trans nI_0))) c) (fun _ => ?_)
        refine lv_iconst (v := 1) hx hb dL_areMirrored_242 (by decide) ?_
        refine lv_goto (tgt := 247) hx hb dL_areMirrored_243 (by decide) ?_
        refine lv_icmp_ne (tgt := 295) hx hb dL_areMirrored_247 (by decide) (fun c => absurd (by decide) c) (fun _ => ?_)
        refine lv_iload_n hx hb dL_areMirrored_250 rfl (lv_at hl 1 rfl) ?_
        refine lv_if_ge (tgt := 262) hx hb dL_areMirrored_251 (by decide) (fun c => absurd c (by rw [b1]; decide)) (fun _ => ?_)
        refine lv_iload hx hb dL_areMirrored_254 (lv_at hl 0 rfl) ?_
        refine lv_if_ge (tgt := 295) hx hb dL_areMirrored_256 (by decide) (fun c => absurd c (by rw [b2]; decide)) (fun _ => ?_)
        refine lv_goto (tgt := 291) hx hb dL_areMirrored_259 (by decide) ?_
        refine lv_iconst (v := 1) hx hb dL_areMirrored_291 (by decide) ?_
        refine lv_goto (tgt := 296) hx hb dL_areMirrored_292 (by decide) ?_
        exact kr 1 (f1_q212, c1_q212, f2_q212, c2_q212, g1_q217, d1_q217, g2_q217, d2_q217) _ _ _ _ rfl rfl hP hS dL_areMirrored_296
      · obtain ⟨l1, l2⟩ := mb_leaf (s := si) B L C hM
        have hM2 : ¬ (mbF (mbp si E M D) 96 0 0 0).2 = 0 := fun z => hM (m1.trans z)
        obtain ⟨l3, l4⟩ := mb_leaf (s := si) E M D hM2
        have b1 : q212 = nI (mbF (mbp si B L C) 96 0 0 0).1 := b1.trans (if_neg hM)
        have b2 : q217 = nI (mbF (mbp si E M D) 96 0 0 0).1 := b2.trans (if_neg hM2)
        generalize (mbF (mbp si B L C) 96 0 0 0).1 = x1 at b1 l1 l2 m2
        generalize (mbF (mbp si E M D) 96 0 0 0).1 = x2 at b2 l3 l4 m2
        refine lv_iload_n hx hb dL_areMirrored_222 rfl (lv_at hl 4 rfl) ?_
        refine lv_if_eq (tgt := 295) hx hb dL_areMirrored_223 (by decide) (fun c => absurd c (by decide)) (fun _ => ?_)
        refine lv_iload_n hx hb dL_areMirrored_226 rfl (lv_at hl 1 rfl) ?_
        refine lv_if_ge (tgt := 234) hx hb dL_areMirrored_227 (by decide) (fun _ => ?_) (fun c => absurd (by rw [b1]; exact (nI_leI (a := 0) (by decide) (by omega)).mpr (Nat.zero_le _)) c)
        refine lv_iconst (v := 0) hx hb dL_areMirrored_234 (by decide) ?_
        refine lv_aload_n hx hb dL_areMirrored_235 rfl (lv_at hl 2 rfl) ?_
        have hPc : va_P (dC, dI) vwCl (gv_V cI cL ad f0 c0 f1_q212 c1_q212 f2_q212 c2_q212 lo up be si pl cu ge fa) H := gv_sub [0, 1, 2, 3, 4, 5, 6, 7, 8, 9, 10, 11, 12] hP rfl
        have hDc : va_D (gv_in (gv_V cI cL ad f0 c0 f1_q212 c1_q212 f2_q212 c2_q212 lo up be si pl cu ge fa)) (gv_V cI cL ad f0 c0 f1_q212 c1_q212 f2_q212 c2_q212 lo up be si pl cu ge fa) := gv_D hD [0, 1, 2, 3, 4, 5, 6, 7, 8, 9, 10, 11, 12] (by decide) rfl
        refine gv_ki (wf := (fun (_ : Unit) => (gv_V cI cL ad f0 c0 f1_q212 c1_q212 f2_q212 c2_q212 lo up be si pl cu ge fa))) (wc := (gv_V cI cL ad f0 c0 f1_q212 c1_q212 f2_q212 c2_q212 lo up be si pl cu ge fa)) [0, 1, 2, 3, 4, 5, 6, 7, 8, 9, 10, 11, 12] (fun _ => rfl) hP hD hS rfl rfl (va_runV (As := []) (rest := [.int 0]) ⟨hx, hb, hml, hown, hts⟩ (kX1_leaves l dC dI cI cL ad f0 c0 f1_q212 c1_q212 f2_q212 c2_q212 lo up be si pl cu ge fa (gv_in (gv_V cI cL ad f0 c0 f1_q212 c1_q212 f2_q212 c2_q212 lo up be si pl cu ge fa))) (cwV (rm := gv_R 2 42) 0 hts gL_areMirrored_X1_leaves rfl rfl rfl (by decide +kernel) ⟨Nat.le_of_ble_eq_true rfl, Nat.le_of_ble_eq_true rfl⟩) (gv_preV (ci := 1) hK hPc hDc hN rfl rfl) rfl rfl hl.1 rfl (lv_room (Nat.le_of_ble_eq_true rfl)) dL_areMirrored_236 ⟨Nat.zero_le _, Nat.zero_le _⟩) (fun q236 u H locs hw hP hD hS => ?_)
        have e236 := hw
        have hP : va_P (dC, dI) vwCl (gl_VV cI cL ad ag f0 c0 f1_q212 c1_q212 f2_q212 c2_q212 lo up be si pl cu ge fa g0 d0 g1_q217 d1_q217 g2_q217 d2_q217 lp uq bg) H := hP
        have hD : va_D A (gl_VV cI cL ad ag f0 c0 f1_q212 c1_q212 f2_q212 c2_q212 lo up be si pl cu ge fa g0 d0 g1_q217 d1_q217 g2_q217 d2_q217 lp uq bg) := hD
        refine lv_if_ne (tgt := 246) hx hb dL_areMirrored_239 (by decide) (fun _ => ?_) (fun c => absurd c (fun z => hM (n1.mpr ((nI_eq (b := 0) (Nat.lt_of_le_of_lt (ma_all_le L 12) (by decide)) (by decide)).mp ((e236.trans (sv_leaves hf)).symm.trans z)))))
        refine lv_iconst (v := 0) hx hb dL_areMirrored_246 (by decide) ?_
        refine lv_icmp_ne (tgt := 295) hx hb dL_areMirrored_247 (by decide) (fun c => absurd (by decide) c) (fun _ => ?_)
        refine lv_iload_n hx hb dL_areMirrored_250 rfl (lv_at hl 1 rfl) ?_
        refine lv_if_ge (tgt := 262) hx hb dL_areMirrored_251 (by decide) (fun _ => ?_) (fun c => absurd (by rw [b1]; exact (nI_leI (a := 0) (by decide) (by omega)).mpr (Nat.zero_le _)) c)
        refine lv_iload_n hx hb dL_areMirrored_262 rfl (lv_at hl 1 rfl) ?_
        refine lv_bipush (v := 12) hx hb dL_areMirrored_263 (by decide) ?_
        refine lv_idiv hx hb dL_areMirrored_265 (by decide) ?_
        refine lv_iload hx hb dL_areMirrored_266 (lv_at hl 0 rfl) ?_
        refine lv_bipush (v := 12) hx hb dL_areMirrored_268 (by decide) ?_
        refine lv_idiv hx hb dL_areMirrored_270 (by decide) ?_
        refine lv_icmp_ne (tgt := 295) hx hb dL_areMirrored_271 (by decide) (fun c => absurd (by rw [b1, b2, show nI x1 / 12 = nI (x1 / 12) from pk_div (d := 12) (by omega) (by decide) (by decide), show nI x2 / 12 = nI (x2 / 12) from pk_div (d := 12) (by omega) (by decide) (by decide), m2]) c) (fun _ => ?_)
        refine lv_aload_n hx hb dL_areMirrored_274 rfl (lv_at hl 2 rfl) ?_
        refine lv_iload_n hx hb dL_areMirrored_275 rfl (lv_at hl 1 rfl) ?_
        refine lv_bipush (v := 12) hx hb dL_areMirrored_276 (by decide) ?_
        refine lv_idiv hx hb dL_areMirrored_278 (by decide) ?_
        refine lv_iload_n hx hb dL_areMirrored_279 rfl (lv_at hl 1 rfl) ?_
        refine lv_bipush (v := 12) hx hb dL_areMirrored_280 (by decide) ?_
        refine lv_irem hx hb dL_areMirrored_282 (by decide) ?_
        have hPc : va_P (dC, dI) vwCl (gv_V cI cL ad f0 c0 f1_q212 c1_q212 f2_q212 c2_q212 lo up be si pl cu ge fa) H := gv_sub [0, 1, 2, 3, 4, 5, 6, 7, 8, 9, 10, 11, 12] hP rfl
        have hDc : va_D (gv_in (gv_V cI cL ad f0 c0 f1_q212 c1_q212 f2_q212 c2_q212 lo up be si pl cu ge fa)) (gv_V cI cL ad f0 c0 f1_q212 c1_q212 f2_q212 c2_q212 lo up be si pl cu ge fa) := gv_D hD [0, 1, 2, 3, 4, 5, 6, 7, 8, 9, 10, 11, 12] (by decide) rfl
        refine gv_ki (wf := (fun (_ : Unit) => (gv_V cI cL ad f0 c0 f1_q212 c1_q212 f2_q212 c2_q212 lo up be si pl cu ge fa))) (wc := (gv_V cI cL ad f0 c0 f1_q212 c1_q212 f2_q212 c2_q212 lo up be si pl cu ge fa)) [0, 1, 2, 3, 4, 5, 6, 7, 8, 9, 10, 11, 12] (fun _ => rfl) hP hD hS rfl rfl (va_runV (As := [.int (q212 / 12), .int (q212 - q212 / 12 * 12)]) (rest := []) ⟨hx, hb, hml, hown, hts⟩ (kX1_look l dC dI cI cL ad f0 c0 f1_q212 c1_q212 f2_q212 c2_q212 lo up be si pl cu ge fa (q212 / 12) (x1 / 12) (gn_div b1 (rfl : (12 : Int32) = nI 12) (by omega) (by omega) (by omega)) (q212 - q212 / 12 * 12) (x1 % 12) (gn_rem b1 (rfl : (12 : Int32) = nI 12) (by omega) (by omega) (by omega)) (by omega) (by omega) (gv_in (gv_V cI cL ad f0 c0 f1_q212 c1_q212 f2_q212 c2_q212 lo up be si pl cu ge fa))) (cwV (rm := gv_R 3 65) 2 hts gL_areMirrored_X1_look rfl rfl rfl (by decide +kernel) ⟨Nat.le_of_ble_eq_true rfl, Nat.le_of_ble_eq_true rfl⟩) (gv_preV (ci := 1) hK hPc hDc hN rfl rfl) rfl rfl hl.1 rfl (lv_room (Nat.le_of_ble_eq_true rfl)) dL_areMirrored_283 ⟨Nat.zero_le _, Nat.zero_le _⟩) (fun q283 u H locs hw hP hD hS => ?_)
        have e283 := hw
        have hP : va_P (dC, dI) vwCl (gl_VV cI cL ad ag f0 c0 f1_q212 c1_q212 f2_q212 c2_q212 lo up be si pl cu ge fa g0 d0 g1_q217 d1_q217 g2_q217 d2_q217 lp uq bg) H := hP
        have hD : va_D A (gl_VV cI cL ad ag f0 c0 f1_q212 c1_q212 f2_q212 c2_q212 lo up be si pl cu ge fa g0 d0 g1_q217 d1_q217 g2_q217 d2_q217 lp uq bg) := hD
        refine lv_bipush (v := 35) hx hb dL_areMirrored_286 (by decide) ?_
        refine lv_icmp_ne (tgt := 295) hx hb dL_areMirrored_288 (by decide) (fun c => absurd (e283.trans ((sv_look hf hc (by omega) (by omega)).trans (by rw [l2]; rfl))) c) (fun _ => ?_)
        refine lv_iconst (v := 1) hx hb dL_areMirrored_291 (by decide) ?_
        refine lv_goto (tgt := 296) hx hb dL_areMirrored_292 (by decide) ?_
        exact kr 1 (f1_q212, c1_q212, f2_q212, c2_q212, g1_q217, d1_q217, g2_q217, d2_q217) _ _ _ _ rfl rfl hP hS dL_areMirrored_296
    | succ n ih =>
      intro i H locs ls hi hP hD hS hl
      refine lv_iload_n hx hb dL_areMirrored_74 rfl (lv_at hl 3 rfl) ?_
      refine lv_bipush (v := 96) hx hb dL_areMirrored_75 (by decide) ?_
      refine lv_icmp_ge (tgt := 211) hx hb dL_areMirrored_77 (by decide) (fun c => absurd c (show ¬ (96 : Int32) ≤ nI i from nI_ge (b := 96) (by omega) (by decide))) (fun _ => ?_)
      refine lv_iload_n hx hb dL_areMirrored_80 rfl (lv_at hl 3 rfl) ?_
      refine lv_bipush (v := 12) hx hb dL_areMirrored_81 (by decide) ?_
      refine lv_idiv hx hb dL_areMirrored_83 (by decide) ?_
      refine lv_istore (lv' := [(4, .int ((nI i) / 12)), (0, .ref (ad 0)), (1, .ref (ag 0)), (2, .int 1), (3, .int (nI i))]) hx hb dL_areMirrored_84 hl (by decide) rfl (fun ls hl => ?_)
      refine lv_iload_n hx hb dL_areMirrored_86 rfl (lv_at hl 4 rfl) ?_
      refine lv_bipush (v := 12) hx hb dL_areMirrored_87 (by decide) ?_
      refine lv_irem hx hb dL_areMirrored_89 (by decide) ?_
      refine lv_istore (lv' := [(5, .int ((nI i) - (nI i) / 12 * 12)), (4, .int ((nI i) / 12)), (0, .ref (ad 0)), (1, .ref (ag 0)), (2, .int 1), (3, .int (nI i))]) hx hb dL_areMirrored_90 hl (by decide) rfl (fun ls hl => ?_)
      refine lv_bipush (v := 11) hx hb dL_areMirrored_92 (by decide) ?_
      refine lv_iload hx hb dL_areMirrored_94 (lv_at hl 0 rfl) ?_
      refine lv_isub hx hb dL_areMirrored_96 ?_
      refine lv_istore (lv' := [(6, .int (11 - ((nI i) - (nI i) / 12 * 12))), (5, .int ((nI i) - (nI i) / 12 * 12)), (4, .int ((nI i) / 12)), (0, .ref (ad 0)), (1, .ref (ag 0)), (2, .int 1), (3, .int (nI i))]) hx hb dL_areMirrored_97 hl (by decide) rfl (fun ls hl => ?_)
      refine lv_iload_n hx hb dL_areMirrored_99 rfl (lv_at hl 5 rfl) ?_
      refine lv_if_eq (tgt := 203) hx hb dL_areMirrored_100 (by decide) (fun c => absurd c (by decide)) (fun _ => ?_)
      refine lv_aload_n hx hb dL_areMirrored_103 rfl (lv_at hl 3 rfl) ?_
      refine lv_iload hx hb dL_areMirrored_104 (lv_at hl 2 rfl) ?_
      refine lv_iload hx hb dL_areMirrored_106 (lv_at hl 1 rfl) ?_
      have hPc : va_P (dC, dI) vwCl (gv_V cI cL ad f0 c0 f1 c1 f2_q56 c2_q56 lo up be si pl cu ge fa) H := gv_sub [0, 1, 2, 3, 4, 5, 6, 7, 8, 9, 10, 11, 12] hP rfl
      have hDc : va_D (gv_in (gv_V cI cL ad f0 c0 f1 c1 f2_q56 c2_q56 lo up be si pl cu ge fa)) (gv_V cI cL ad f0 c0 f1 c1 f2_q56 c2_q56 lo up be si pl cu ge fa) := gv_D hD [0, 1, 2, 3, 4, 5, 6, 7, 8, 9, 10, 11, 12] (by decide) rfl
      refine gv_ki (wf := (fun (_ : Unit) => (gv_V cI cL ad f0 c0 f1 c1 f2_q56 c2_q56 lo up be si pl cu ge fa))) (wc := (gv_V cI cL ad f0 c0 f1 c1 f2_q56 c2_q56 lo up be si pl cu ge fa)) [0, 1, 2, 3, 4, 5, 6, 7, 8, 9, 10, 11, 12] (fun _ => rfl) hP hD hS rfl rfl (va_runV (As := [.int ((nI i) / 12), .int ((nI i) - (nI i) / 12 * 12)]) (rest := []) ⟨hx, hb, hml, hown, hts⟩ (kX1_look l dC dI cI cL ad f0 c0 f1 c1 f2_q56 c2_q56 lo up be si pl cu ge fa ((nI i) / 12) (i / 12) (gn_div rfl (rfl : (12 : Int32) = nI 12) (by omega) (by omega) (by omega)) ((nI i) - (nI i) / 12 * 12) (i % 12) (gn_rem rfl (rfl : (12 : Int32) = nI 12) (by omega) (by omega) (by omega)) (by omega) (by omega) (gv_in (gv_V cI cL ad f0 c0 f1 c1 f2_q56 c2_q56 lo up be si pl cu ge fa))) (cwV (rm := gv_R 3 65) 2 hts gL_areMirrored_X1_look rfl rfl rfl (by decide +kernel) ⟨Nat.le_of_ble_eq_true rfl, Nat.le_of_ble_eq_true rfl⟩) (gv_preV (ci := 1) hK hPc hDc hN rfl rfl) rfl rfl hl.1 rfl (lv_room (Nat.le_of_ble_eq_true rfl)) dL_areMirrored_108 ⟨Nat.zero_le _, Nat.zero_le _⟩) (fun q108 u H locs hw hP hD hS => ?_)
      have e108 := hw
      have hP : va_P (dC, dI) vwCl (gl_VV cI cL ad ag f0 c0 f1 c1 f2_q56 c2_q56 lo up be si pl cu ge fa g0 d0 g1 d1 g2_q60 d2_q60 lp uq bg) H := hP
      have hD : va_D A (gl_VV cI cL ad ag f0 c0 f1 c1 f2_q56 c2_q56 lo up be si pl cu ge fa g0 d0 g1 d1 g2_q60 d2_q60 lp uq bg) := hD
      refine lv_aload_n hx hb dL_areMirrored_111 rfl (lv_at hl 4 rfl) ?_
      refine lv_iload hx hb dL_areMirrored_112 (lv_at hl 2 rfl) ?_
      refine lv_iload hx hb dL_areMirrored_114 (lv_at hl 0 rfl) ?_
      have hPc : va_P (dC, dI) vwCl (gv_V cI cL ag g0 d0 g1 d1 g2_q60 d2_q60 lp uq bg si pl cu ge fa) H := gv_sub [13, 14, 15, 16, 17, 18, 19, 20, 21, 22, 23, 24, 25] hP rfl
      have hDc : va_D (gv_in (gv_V cI cL ag g0 d0 g1 d1 g2_q60 d2_q60 lp uq bg si pl cu ge fa)) (gv_V cI cL ag g0 d0 g1 d1 g2_q60 d2_q60 lp uq bg si pl cu ge fa) := gv_D hD [13, 14, 15, 16, 17, 18, 19, 20, 21, 22, 23, 24, 25] (by decide) rfl
      refine gv_ki (wf := (fun (_ : Unit) => (gv_V cI cL ag g0 d0 g1 d1 g2_q60 d2_q60 lp uq bg si pl cu ge fa))) (wc := (gv_V cI cL ag g0 d0 g1 d1 g2_q60 d2_q60 lp uq bg si pl cu ge fa)) [13, 14, 15, 16, 17, 18, 19, 20, 21, 22, 23, 24, 25] (fun _ => rfl) hP hD hS rfl rfl (va_runV (As := [.int ((nI i) / 12), .int (11 - ((nI i) - (nI i) / 12 * 12))]) (rest := [.int q108]) ⟨hx, hb, hml, hown, hts⟩ (kX1_look l dC dI cI cL ag g0 d0 g1 d1 g2_q60 d2_q60 lp uq bg si pl cu ge fa ((nI i) / 12) (i / 12) (gn_div rfl (rfl : (12 : Int32) = nI 12) (by omega) (by omega) (by omega)) (11 - ((nI i) - (nI i) / 12 * 12)) (11 - (i % 12)) (gn_sub (rfl : (11 : Int32) = nI 11) (gn_rem rfl (rfl : (12 : Int32) = nI 12) (by omega) (by omega) (by omega)) (by omega)) (by omega) (by omega) (gv_in (gv_V cI cL ag g0 d0 g1 d1 g2_q60 d2_q60 lp uq bg si pl cu ge fa))) (cwV (rm := gv_R 3 65) 2 hts gL_areMirrored_X1_look rfl rfl rfl (by decide +kernel) ⟨Nat.le_of_ble_eq_true rfl, Nat.le_of_ble_eq_true rfl⟩) (gv_preV (ci := 1) hK hPc hDc hN rfl rfl) rfl rfl hl.1 rfl (lv_room (Nat.le_of_ble_eq_true rfl)) dL_areMirrored_116 ⟨Nat.zero_le _, Nat.zero_le _⟩) (fun q116 u H locs hw hP hD hS => ?_)
      have e116 := hw
      have hP : va_P (dC, dI) vwCl (gl_VV cI cL ad ag f0 c0 f1 c1 f2_q56 c2_q56 lo up be si pl cu ge fa g0 d0 g1 d1 g2_q60 d2_q60 lp uq bg) H := hP
      have hD : va_D A (gl_VV cI cL ad ag f0 c0 f1 c1 f2_q56 c2_q56 lo up be si pl cu ge fa g0 d0 g1 d1 g2_q60 d2_q60 lp uq bg) := hD
      refine lv_icmp_ne (tgt := 203) hx hb dL_areMirrored_119 (by decide) (fun c => absurd (e108.trans ((mz_look hf hc hg hd h1 h2 (by omega) (by omega)).trans e116.symm)) c) (fun _ => ?_)
      refine lv_aload_n hx hb dL_areMirrored_122 rfl (lv_at hl 3 rfl) ?_
      refine lv_iload hx hb dL_areMirrored_123 (lv_at hl 2 rfl) ?_
      refine lv_iload hx hb dL_areMirrored_125 (lv_at hl 1 rfl) ?_
      have hPc : va_P (dC, dI) vwCl (gv_V cI cL ad f0 c0 f1 c1 f2_q56 c2_q56 lo up be si pl cu ge fa) H := gv_sub [0, 1, 2, 3, 4, 5, 6, 7, 8, 9, 10, 11, 12] hP rfl
      have hDc : va_D (gv_in (gv_V cI cL ad f0 c0 f1 c1 f2_q56 c2_q56 lo up be si pl cu ge fa)) (gv_V cI cL ad f0 c0 f1 c1 f2_q56 c2_q56 lo up be si pl cu ge fa) := gv_D hD [0, 1, 2, 3, 4, 5, 6, 7, 8, 9, 10, 11, 12] (by decide) rfl
      refine gv_ki (wf := (fun (_ : Unit) => (gv_V cI cL ad f0 c0 f1 c1 f2_q56 c2_q56 lo up be si pl cu ge fa))) (wc := (gv_V cI cL ad f0 c0 f1 c1 f2_q56 c2_q56 lo up be si pl cu ge fa)) [0, 1, 2, 3, 4, 5, 6, 7, 8, 9, 10, 11, 12] (fun _ => rfl) hP hD hS rfl rfl (va_runV (As := [.int ((nI i) / 12), .int ((nI i) - (nI i) / 12 * 12)]) (rest := []) ⟨hx, hb, hml, hown, hts⟩ (kX1_shadeOf l dC dI cI cL ad f0 c0 f1 c1 f2_q56 c2_q56 lo up be si pl cu ge fa ((nI i) / 12) (i / 12) (gn_div rfl (rfl : (12 : Int32) = nI 12) (by omega) (by omega) (by omega)) ((nI i) - (nI i) / 12 * 12) (i % 12) (gn_rem rfl (rfl : (12 : Int32) = nI 12) (by omega) (by omega) (by omega)) (by omega) (by omega) (gv_in (gv_V cI cL ad f0 c0 f1 c1 f2_q56 c2_q56 lo up be si pl cu ge fa))) (cwV (rm := gv_R 2 45) 2 hts gL_areMirrored_X1_shadeOf rfl rfl rfl (by decide +kernel) ⟨Nat.le_of_ble_eq_true rfl, Nat.le_of_ble_eq_true rfl⟩) (gv_preV (ci := 1) hK hPc hDc hN rfl rfl) rfl rfl hl.1 rfl (lv_room (Nat.le_of_ble_eq_true rfl)) dL_areMirrored_127 ⟨Nat.zero_le _, Nat.zero_le _⟩) (fun q127 u H locs hw hP hD hS => ?_)
      have e127 := hw
      have hP : va_P (dC, dI) vwCl (gl_VV cI cL ad ag f0 c0 f1 c1 f2_q56 c2_q56 lo up be si pl cu ge fa g0 d0 g1 d1 g2_q60 d2_q60 lp uq bg) H := hP
      have hD : va_D A (gl_VV cI cL ad ag f0 c0 f1 c1 f2_q56 c2_q56 lo up be si pl cu ge fa g0 d0 g1 d1 g2_q60 d2_q60 lp uq bg) := hD
      refine lv_aload_n hx hb dL_areMirrored_130 rfl (lv_at hl 4 rfl) ?_
      refine lv_iload hx hb dL_areMirrored_131 (lv_at hl 2 rfl) ?_
      refine lv_iload hx hb dL_areMirrored_133 (lv_at hl 0 rfl) ?_
      have hPc : va_P (dC, dI) vwCl (gv_V cI cL ag g0 d0 g1 d1 g2_q60 d2_q60 lp uq bg si pl cu ge fa) H := gv_sub [13, 14, 15, 16, 17, 18, 19, 20, 21, 22, 23, 24, 25] hP rfl
      have hDc : va_D (gv_in (gv_V cI cL ag g0 d0 g1 d1 g2_q60 d2_q60 lp uq bg si pl cu ge fa)) (gv_V cI cL ag g0 d0 g1 d1 g2_q60 d2_q60 lp uq bg si pl cu ge fa) := gv_D hD [13, 14, 15, 16, 17, 18, 19, 20, 21, 22, 23, 24, 25] (by decide) rfl
      refine gv_ki (wf := (fun (_ : Unit) => (gv_V cI cL ag g0 d0 g1 d1 g2_q60 d2_q60 lp uq bg si pl cu ge fa))) (wc := (gv_V cI cL ag g0 d0 g1 d1 g2_q60 d2_q60 lp uq bg si pl cu ge fa)) [13, 14, 15, 16, 17, 18, 19, 20, 21, 22, 23, 24, 25] (fun _ => rfl) hP hD hS rfl rfl (va_runV (As := [.int ((nI i) / 12), .int (11 - ((nI i) - (nI i) / 12 * 12))]) (rest := [.int q127]) ⟨hx, hb, hml, hown, hts⟩ (kX1_shadeOf l dC dI cI cL ag g0 d0 g1 d1 g2_q60 d2_q60 lp uq bg si pl cu ge fa ((nI i) / 12) (i / 12) (gn_div rfl (rfl : (12 : Int32) = nI 12) (by omega) (by omega) (by omega)) (11 - ((nI i) - (nI i) / 12 * 12)) (11 - (i % 12)) (gn_sub (rfl : (11 : Int32) = nI 11) (gn_rem rfl (rfl : (12 : Int32) = nI 12) (by omega) (by omega) (by omega)) (by omega)) (by omega) (by omega) (gv_in (gv_V cI cL ag g0 d0 g1 d1 g2_q60 d2_q60 lp uq bg si pl cu ge fa))) (cwV (rm := gv_R 2 45) 2 hts gL_areMirrored_X1_shadeOf rfl rfl rfl (by decide +kernel) ⟨Nat.le_of_ble_eq_true rfl, Nat.le_of_ble_eq_true rfl⟩) (gv_preV (ci := 1) hK hPc hDc hN rfl rfl) rfl rfl hl.1 rfl (lv_room (Nat.le_of_ble_eq_true rfl)) dL_areMirrored_135 ⟨Nat.zero_le _, Nat.zero_le _⟩) (fun q135 u H locs hw hP hD hS => ?_)
      have e135 := hw
      have hP : va_P (dC, dI) vwCl (gl_VV cI cL ad ag f0 c0 f1 c1 f2_q56 c2_q56 lo up be si pl cu ge fa g0 d0 g1 d1 g2_q60 d2_q60 lp uq bg) H := hP
      have hD : va_D A (gl_VV cI cL ad ag f0 c0 f1 c1 f2_q56 c2_q56 lo up be si pl cu ge fa g0 d0 g1 d1 g2_q60 d2_q60 lp uq bg) := hD
      refine lv_icmp_ne (tgt := 203) hx hb dL_areMirrored_138 (by decide) (fun c => absurd (e127.trans ((mz_shade hf hg h1 (by omega) (by omega)).trans e135.symm)) c) (fun _ => ?_)
      refine lv_aload_n hx hb dL_areMirrored_141 rfl (lv_at hl 3 rfl) ?_
      refine lv_iload hx hb dL_areMirrored_142 (lv_at hl 2 rfl) ?_
      refine lv_iload hx hb dL_areMirrored_144 (lv_at hl 1 rfl) ?_
      have hPc : va_P (dC, dI) vwCl (gv_V cI cL ad f0 c0 f1 c1 f2_q56 c2_q56 lo up be si pl cu ge fa) H := gv_sub [0, 1, 2, 3, 4, 5, 6, 7, 8, 9, 10, 11, 12] hP rfl
      have hDc : va_D (gv_in (gv_V cI cL ad f0 c0 f1 c1 f2_q56 c2_q56 lo up be si pl cu ge fa)) (gv_V cI cL ad f0 c0 f1 c1 f2_q56 c2_q56 lo up be si pl cu ge fa) := gv_D hD [0, 1, 2, 3, 4, 5, 6, 7, 8, 9, 10, 11, 12] (by decide) rfl
      refine gv_ki (wf := (fun (_ : Unit) => (gv_V cI cL ad f0 c0 f1 c1 f2_q56 c2_q56 lo up be si pl cu ge fa))) (wc := (gv_V cI cL ad f0 c0 f1 c1 f2_q56 c2_q56 lo up be si pl cu ge fa)) [0, 1, 2, 3, 4, 5, 6, 7, 8, 9, 10, 11, 12] (fun _ => rfl) hP hD hS rfl rfl (va_runV (As := [.int ((nI i) / 12), .int ((nI i) - (nI i) / 12 * 12)]) (rest := []) ⟨hx, hb, hml, hown, hts⟩ (kX1_holdersOf l dC dI cI cL ad f0 c0 f1 c1 f2_q56 c2_q56 lo up be si pl cu ge fa ((nI i) / 12) (i / 12) (gn_div rfl (rfl : (12 : Int32) = nI 12) (by omega) (by omega) (by omega)) ((nI i) - (nI i) / 12 * 12) (i % 12) (gn_rem rfl (rfl : (12 : Int32) = nI 12) (by omega) (by omega) (by omega)) (by omega) (by omega) (gv_in (gv_V cI cL ad f0 c0 f1 c1 f2_q56 c2_q56 lo up be si pl cu ge fa))) (cwV (rm := gv_R 3 70) 2 hts gL_areMirrored_X1_holdersOf rfl rfl rfl (by decide +kernel) ⟨Nat.le_of_ble_eq_true rfl, Nat.le_of_ble_eq_true rfl⟩) (gv_preV (ci := 1) hK hPc hDc hN rfl rfl) rfl rfl hl.1 rfl (lv_room (Nat.le_of_ble_eq_true rfl)) dL_areMirrored_146 ⟨Nat.zero_le _, Nat.zero_le _⟩) (fun q146 u H locs hw hP hD hS => ?_)
      have e146 := hw
      have hP : va_P (dC, dI) vwCl (gl_VV cI cL ad ag f0 c0 f1 c1 f2_q56 c2_q56 lo up be si pl cu ge fa g0 d0 g1 d1 g2_q60 d2_q60 lp uq bg) H := hP
      have hD : va_D A (gl_VV cI cL ad ag f0 c0 f1 c1 f2_q56 c2_q56 lo up be si pl cu ge fa g0 d0 g1 d1 g2_q60 d2_q60 lp uq bg) := hD
      refine lv_aload_n hx hb dL_areMirrored_149 rfl (lv_at hl 4 rfl) ?_
      refine lv_iload hx hb dL_areMirrored_150 (lv_at hl 2 rfl) ?_
      refine lv_iload hx hb dL_areMirrored_152 (lv_at hl 0 rfl) ?_
      have hPc : va_P (dC, dI) vwCl (gv_V cI cL ag g0 d0 g1 d1 g2_q60 d2_q60 lp uq bg si pl cu ge fa) H := gv_sub [13, 14, 15, 16, 17, 18, 19, 20, 21, 22, 23, 24, 25] hP rfl
      have hDc : va_D (gv_in (gv_V cI cL ag g0 d0 g1 d1 g2_q60 d2_q60 lp uq bg si pl cu ge fa)) (gv_V cI cL ag g0 d0 g1 d1 g2_q60 d2_q60 lp uq bg si pl cu ge fa) := gv_D hD [13, 14, 15, 16, 17, 18, 19, 20, 21, 22, 23, 24, 25] (by decide) rfl
      refine gv_ki (wf := (fun (_ : Unit) => (gv_V cI cL ag g0 d0 g1 d1 g2_q60 d2_q60 lp uq bg si pl cu ge fa))) (wc := (gv_V cI cL ag g0 d0 g1 d1 g2_q60 d2_q60 lp uq bg si pl cu ge fa)) [13, 14, 15, 16, 17, 18, 19, 20, 21, 22, 23, 24, 25] (fun _ => rfl) hP hD hS rfl rfl (va_runV (As := [.int ((nI i) / 12), .int (11 - ((nI i) - (nI i) / 12 * 12))]) (rest := [.int q146]) ⟨hx, hb, hml, hown, hts⟩ (kX1_holdersOf l dC dI cI cL ag g0 d0 g1 d1 g2_q60 d2_q60 lp uq bg si pl cu ge fa ((nI i) / 12) (i / 12) (gn_div rfl (rfl : (12 : Int32) = nI 12) (by omega) (by omega) (by omega)) (11 - ((nI i) - (nI i) / 12 * 12)) (11 - (i % 12)) (gn_sub (rfl : (11 : Int32) = nI 11) (gn_rem rfl (rfl : (12 : Int32) = nI 12) (by omega) (by omega) (by omega)) (by omega)) (by omega) (by omega) (gv_in (gv_V cI cL ag g0 d0 g1 d1 g2_q60 d2_q60 lp uq bg si pl cu ge fa))) (cwV (rm := gv_R 3 70) 2 hts gL_areMirrored_X1_holdersOf rfl rfl rfl (by decide +kernel) ⟨Nat.le_of_ble_eq_true rfl, Nat.le_of_ble_eq_true rfl⟩) (gv_preV (ci := 1) hK hPc hDc hN rfl rfl) rfl rfl hl.1 rfl (lv_room (Nat.le_of_ble_eq_true rfl)) dL_areMirrored_154 ⟨Nat.zero_le _, Nat.zero_le _⟩) (fun q154 u H locs hw hP hD hS => ?_)
      have e154 := hw
      have hP : va_P (dC, dI) vwCl (gl_VV cI cL ad ag f0 c0 f1 c1 f2_q56 c2_q56 lo up be si pl cu ge fa g0 d0 g1 d1 g2_q60 d2_q60 lp uq bg) H := hP
      have hD : va_D A (gl_VV cI cL ad ag f0 c0 f1 c1 f2_q56 c2_q56 lo up be si pl cu ge fa g0 d0 g1 d1 g2_q60 d2_q60 lp uq bg) := hD
      refine lv_icmp_ne (tgt := 203) hx hb dL_areMirrored_157 (by decide) (fun c => absurd (e146.trans ((mz_holders hf hg h1 (by omega) (by omega)).trans e154.symm)) c) (fun _ => ?_)
      refine lv_aload_n hx hb dL_areMirrored_160 rfl (lv_at hl 3 rfl) ?_
      refine lv_iload hx hb dL_areMirrored_161 (lv_at hl 2 rfl) ?_
      refine lv_iload hx hb dL_areMirrored_163 (lv_at hl 1 rfl) ?_
      have hPc : va_P (dC, dI) vwCl (gv_V cI cL ad f0 c0 f1 c1 f2_q56 c2_q56 lo up be si pl cu ge fa) H := gv_sub [0, 1, 2, 3, 4, 5, 6, 7, 8, 9, 10, 11, 12] hP rfl
      have hDc : va_D (gv_in (gv_V cI cL ad f0 c0 f1 c1 f2_q56 c2_q56 lo up be si pl cu ge fa)) (gv_V cI cL ad f0 c0 f1 c1 f2_q56 c2_q56 lo up be si pl cu ge fa) := gv_D hD [0, 1, 2, 3, 4, 5, 6, 7, 8, 9, 10, 11, 12] (by decide) rfl
      refine gv_ki (wf := (fun (_ : Unit) => (gv_V cI cL ad f0 c0 f1 c1 f2_q56 c2_q56 lo up be si pl cu ge fa))) (wc := (gv_V cI cL ad f0 c0 f1 c1 f2_q56 c2_q56 lo up be si pl cu ge fa)) [0, 1, 2, 3, 4, 5, 6, 7, 8, 9, 10, 11, 12] (fun _ => rfl) hP hD hS rfl rfl (va_runV (As := [.int ((nI i) / 12), .int ((nI i) - (nI i) / 12 * 12)]) (rest := []) ⟨hx, hb, hml, hown, hts⟩ (kX1_neighboursOf l dC dI cI cL ad f0 c0 f1 c1 f2_q56 c2_q56 lo up be si pl cu ge fa ((nI i) / 12) (i / 12) (gn_div rfl (rfl : (12 : Int32) = nI 12) (by omega) (by omega) (by omega)) ((nI i) - (nI i) / 12 * 12) (i % 12) (gn_rem rfl (rfl : (12 : Int32) = nI 12) (by omega) (by omega) (by omega)) (by omega) (by omega) (gv_in (gv_V cI cL ad f0 c0 f1 c1 f2_q56 c2_q56 lo up be si pl cu ge fa))) (cwV (rm := gv_R 3 70) 2 hts gL_areMirrored_X1_neighboursOf rfl rfl rfl (by decide +kernel) ⟨Nat.le_of_ble_eq_true rfl, Nat.le_of_ble_eq_true rfl⟩) (gv_preV (ci := 1) hK hPc hDc hN rfl rfl) rfl rfl hl.1 rfl (lv_room (Nat.le_of_ble_eq_true rfl)) dL_areMirrored_165 ⟨Nat.zero_le _, Nat.zero_le _⟩) (fun q165 u H locs hw hP hD hS => ?_)
      have e165 := hw
      have hP : va_P (dC, dI) vwCl (gl_VV cI cL ad ag f0 c0 f1 c1 f2_q56 c2_q56 lo up be si pl cu ge fa g0 d0 g1 d1 g2_q60 d2_q60 lp uq bg) H := hP
      have hD : va_D A (gl_VV cI cL ad ag f0 c0 f1 c1 f2_q56 c2_q56 lo up be si pl cu ge fa g0 d0 g1 d1 g2_q60 d2_q60 lp uq bg) := hD
      refine lv_aload_n hx hb dL_areMirrored_168 rfl (lv_at hl 4 rfl) ?_
      refine lv_iload hx hb dL_areMirrored_169 (lv_at hl 2 rfl) ?_
      refine lv_iload hx hb dL_areMirrored_171 (lv_at hl 0 rfl) ?_
      have hPc : va_P (dC, dI) vwCl (gv_V cI cL ag g0 d0 g1 d1 g2_q60 d2_q60 lp uq bg si pl cu ge fa) H := gv_sub [13, 14, 15, 16, 17, 18, 19, 20, 21, 22, 23, 24, 25] hP rfl
      have hDc : va_D (gv_in (gv_V cI cL ag g0 d0 g1 d1 g2_q60 d2_q60 lp uq bg si pl cu ge fa)) (gv_V cI cL ag g0 d0 g1 d1 g2_q60 d2_q60 lp uq bg si pl cu ge fa) := gv_D hD [13, 14, 15, 16, 17, 18, 19, 20, 21, 22, 23, 24, 25] (by decide) rfl
      refine gv_ki (wf := (fun (_ : Unit) => (gv_V cI cL ag g0 d0 g1 d1 g2_q60 d2_q60 lp uq bg si pl cu ge fa))) (wc := (gv_V cI cL ag g0 d0 g1 d1 g2_q60 d2_q60 lp uq bg si pl cu ge fa)) [13, 14, 15, 16, 17, 18, 19, 20, 21, 22, 23, 24, 25] (fun _ => rfl) hP hD hS rfl rfl (va_runV (As := [.int ((nI i) / 12), .int (11 - ((nI i) - (nI i) / 12 * 12))]) (rest := [.int q165]) ⟨hx, hb, hml, hown, hts⟩ (kX1_neighboursOf l dC dI cI cL ag g0 d0 g1 d1 g2_q60 d2_q60 lp uq bg si pl cu ge fa ((nI i) / 12) (i / 12) (gn_div rfl (rfl : (12 : Int32) = nI 12) (by omega) (by omega) (by omega)) (11 - ((nI i) - (nI i) / 12 * 12)) (11 - (i % 12)) (gn_sub (rfl : (11 : Int32) = nI 11) (gn_rem rfl (rfl : (12 : Int32) = nI 12) (by omega) (by omega) (by omega)) (by omega)) (by omega) (by omega) (gv_in (gv_V cI cL ag g0 d0 g1 d1 g2_q60 d2_q60 lp uq bg si pl cu ge fa))) (cwV (rm := gv_R 3 70) 2 hts gL_areMirrored_X1_neighboursOf rfl rfl rfl (by decide +kernel) ⟨Nat.le_of_ble_eq_true rfl, Nat.le_of_ble_eq_true rfl⟩) (gv_preV (ci := 1) hK hPc hDc hN rfl rfl) rfl rfl hl.1 rfl (lv_room (Nat.le_of_ble_eq_true rfl)) dL_areMirrored_173 ⟨Nat.zero_le _, Nat.zero_le _⟩) (fun q173 u H locs hw hP hD hS => ?_)
      have e173 := hw
      have hP : va_P (dC, dI) vwCl (gl_VV cI cL ad ag f0 c0 f1 c1 f2_q56 c2_q56 lo up be si pl cu ge fa g0 d0 g1 d1 g2_q60 d2_q60 lp uq bg) H := hP
      have hD : va_D A (gl_VV cI cL ad ag f0 c0 f1 c1 f2_q56 c2_q56 lo up be si pl cu ge fa g0 d0 g1 d1 g2_q60 d2_q60 lp uq bg) := hD
      refine lv_icmp_ne (tgt := 203) hx hb dL_areMirrored_176 (by decide) (fun c => absurd (e165.trans ((mz_neigh hf hg h1 (by omega) (by omega)).trans e173.symm)) c) (fun _ => ?_)
      refine lv_iload hx hb dL_areMirrored_179 (lv_at hl 2 rfl) ?_
      refine lv_if_gt (tgt := 199) hx hb dL_areMirrored_181 (by decide) (fun cd181 => ?_) (fun cd181 => ?_)
      · refine lv_iconst (v := 1) hx hb dL_areMirrored_199 (by decide) ?_
        refine lv_goto (tgt := 204) hx hb dL_areMirrored_200 (by decide) ?_
        refine lv_istore_n (lv' := [(2, .int 1), (6, .int (11 - ((nI i) - (nI i) / 12 * 12))), (5, .int ((nI i) - (nI i) / 12 * 12)), (4, .int ((nI i) / 12)), (0, .ref (ad 0)), (1, .ref (ag 0)), (3, .int (nI i))]) hx hb dL_areMirrored_204 rfl hl (by decide) rfl (fun ls hl => ?_)
        refine lv_iinc (v := (nI (i + 1))) (lv' := [(3, .int (nI (i + 1))), (2, .int 1), (6, .int (11 - ((nI i) - (nI i) / 12 * 12))), (5, .int ((nI i) - (nI i) / 12 * 12)), (4, .int ((nI i) / 12)), (0, .ref (ad 0)), (1, .ref (ag 0))]) hx hb dL_areMirrored_205 hl (k := 6) rfl (nI_1 i) (by decide) rfl (fun ls hl => ?_)
        refine lv_goto (tgt := 74) hx hb dL_areMirrored_208 (by decide) ?_
        exact ih (i + 1) _ _ _ (by omega) hP hD hS (lv_sub hl [5, 6, 1, 0] rfl)
      · refine lv_aload_n hx hb dL_areMirrored_184 rfl (lv_at hl 3 rfl) ?_
        refine lv_iload hx hb dL_areMirrored_185 (lv_at hl 1 rfl) ?_
        have hPc : va_P (dC, dI) vwCl (gv_V cI cL ad f0 c0 f1 c1 f2_q56 c2_q56 lo up be si pl cu ge fa) H := gv_sub [0, 1, 2, 3, 4, 5, 6, 7, 8, 9, 10, 11, 12] hP rfl
        have hDc : va_D (gv_in (gv_V cI cL ad f0 c0 f1 c1 f2_q56 c2_q56 lo up be si pl cu ge fa)) (gv_V cI cL ad f0 c0 f1 c1 f2_q56 c2_q56 lo up be si pl cu ge fa) := gv_D hD [0, 1, 2, 3, 4, 5, 6, 7, 8, 9, 10, 11, 12] (by decide) rfl
        refine gv_ki (wf := (fun (_ : Unit) => (gv_V cI cL ad f0 c0 f1 c1 f2_q56 c2_q56 lo up be si pl cu ge fa))) (wc := (gv_V cI cL ad f0 c0 f1 c1 f2_q56 c2_q56 lo up be si pl cu ge fa)) [0, 1, 2, 3, 4, 5, 6, 7, 8, 9, 10, 11, 12] (fun _ => rfl) hP hD hS rfl rfl (va_runV (As := [.int ((nI i) - (nI i) / 12 * 12)]) (rest := []) ⟨hx, hb, hml, hown, hts⟩ (kX1_leavesIn l dC dI cI cL ad f0 c0 f1 c1 f2_q56 c2_q56 lo up be si pl cu ge fa ((nI i) - (nI i) / 12 * 12) (i % 12) (gn_rem rfl (rfl : (12 : Int32) = nI 12) (by omega) (by omega) (by omega)) (by omega) (gv_in (gv_V cI cL ad f0 c0 f1 c1 f2_q56 c2_q56 lo up be si pl cu ge fa))) (cwV (rm := gv_R 3 66) 1 hts gL_areMirrored_X1_leavesIn rfl rfl rfl (by decide +kernel) ⟨Nat.le_of_ble_eq_true rfl, Nat.le_of_ble_eq_true rfl⟩) (gv_preV (ci := 1) hK hPc hDc hN rfl rfl) rfl rfl hl.1 rfl (lv_room (Nat.le_of_ble_eq_true rfl)) dL_areMirrored_187 ⟨Nat.zero_le _, Nat.zero_le _⟩) (fun q187 u H locs hw hP hD hS => ?_)
        have e187 := hw
        have hP : va_P (dC, dI) vwCl (gl_VV cI cL ad ag f0 c0 f1 c1 f2_q56 c2_q56 lo up be si pl cu ge fa g0 d0 g1 d1 g2_q60 d2_q60 lp uq bg) H := hP
        have hD : va_D A (gl_VV cI cL ad ag f0 c0 f1 c1 f2_q56 c2_q56 lo up be si pl cu ge fa g0 d0 g1 d1 g2_q60 d2_q60 lp uq bg) := hD
        refine lv_aload_n hx hb dL_areMirrored_190 rfl (lv_at hl 4 rfl) ?_
        refine lv_iload hx hb dL_areMirrored_191 (lv_at hl 0 rfl) ?_
        have hPc : va_P (dC, dI) vwCl (gv_V cI cL ag g0 d0 g1 d1 g2_q60 d2_q60 lp uq bg si pl cu ge fa) H := gv_sub [13, 14, 15, 16, 17, 18, 19, 20, 21, 22, 23, 24, 25] hP rfl
        have hDc : va_D (gv_in (gv_V cI cL ag g0 d0 g1 d1 g2_q60 d2_q60 lp uq bg si pl cu ge fa)) (gv_V cI cL ag g0 d0 g1 d1 g2_q60 d2_q60 lp uq bg si pl cu ge fa) := gv_D hD [13, 14, 15, 16, 17, 18, 19, 20, 21, 22, 23, 24, 25] (by decide) rfl
        refine gv_ki (wf := (fun (_ : Unit) => (gv_V cI cL ag g0 d0 g1 d1 g2_q60 d2_q60 lp uq bg si pl cu ge fa))) (wc := (gv_V cI cL ag g0 d0 g1 d1 g2_q60 d2_q60 lp uq bg si pl cu ge fa)) [13, 14, 15, 16, 17, 18, 19, 20, 21, 22, 23, 24, 25] (fun _ => rfl) hP hD hS rfl rfl (va_runV (As := [.int (11 - ((nI i) - (nI i) / 12 * 12))]) (rest := [.int q187]) ⟨hx, hb, hml, hown, hts⟩ (kX1_leavesIn l dC dI cI cL ag g0 d0 g1 d1 g2_q60 d2_q60 lp uq bg si pl cu ge fa (11 - ((nI i) - (nI i) / 12 * 12)) (11 - (i % 12)) (gn_sub (rfl : (11 : Int32) = nI 11) (gn_rem rfl (rfl : (12 : Int32) = nI 12) (by omega) (by omega) (by omega)) (by omega)) (by omega) (gv_in (gv_V cI cL ag g0 d0 g1 d1 g2_q60 d2_q60 lp uq bg si pl cu ge fa))) (cwV (rm := gv_R 3 66) 1 hts gL_areMirrored_X1_leavesIn rfl rfl rfl (by decide +kernel) ⟨Nat.le_of_ble_eq_true rfl, Nat.le_of_ble_eq_true rfl⟩) (gv_preV (ci := 1) hK hPc hDc hN rfl rfl) rfl rfl hl.1 rfl (lv_room (Nat.le_of_ble_eq_true rfl)) dL_areMirrored_193 ⟨Nat.zero_le _, Nat.zero_le _⟩) (fun q193 u H locs hw hP hD hS => ?_)
        have e193 := hw
        have hP : va_P (dC, dI) vwCl (gl_VV cI cL ad ag f0 c0 f1 c1 f2_q56 c2_q56 lo up be si pl cu ge fa g0 d0 g1 d1 g2_q60 d2_q60 lp uq bg) H := hP
        have hD : va_D A (gl_VV cI cL ad ag f0 c0 f1 c1 f2_q56 c2_q56 lo up be si pl cu ge fa g0 d0 g1 d1 g2_q60 d2_q60 lp uq bg) := hD
        refine lv_icmp_ne (tgt := 203) hx hb dL_areMirrored_196 (by decide) (fun c => absurd (e187.trans ((mz_in hf hg h1 (by omega)).trans e193.symm)) c) (fun _ => ?_)
        refine lv_iconst (v := 1) hx hb dL_areMirrored_199 (by decide) ?_
        refine lv_goto (tgt := 204) hx hb dL_areMirrored_200 (by decide) ?_
        refine lv_istore_n (lv' := [(2, .int 1), (6, .int (11 - ((nI i) - (nI i) / 12 * 12))), (5, .int ((nI i) - (nI i) / 12 * 12)), (4, .int ((nI i) / 12)), (0, .ref (ad 0)), (1, .ref (ag 0)), (3, .int (nI i))]) hx hb dL_areMirrored_204 rfl hl (by decide) rfl (fun ls hl => ?_)
        refine lv_iinc (v := (nI (i + 1))) (lv' := [(3, .int (nI (i + 1))), (2, .int 1), (6, .int (11 - ((nI i) - (nI i) / 12 * 12))), (5, .int ((nI i) - (nI i) / 12 * 12)), (4, .int ((nI i) / 12)), (0, .ref (ad 0)), (1, .ref (ag 0))]) hx hb dL_areMirrored_205 hl (k := 6) rfl (nI_1 i) (by decide) rfl (fun ls hl => ?_)
        refine lv_goto (tgt := 74) hx hb dL_areMirrored_208 (by decide) ?_
        exact ih (i + 1) _ _ _ (by omega) hP hD hS (lv_sub hl [5, 6, 1, 0] rfl)
  exact L74 96 0 _ _ _ rfl hP hD hS (lv_sub hl [2, 3, 1, 0] rfl)
