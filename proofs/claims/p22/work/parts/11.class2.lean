def lpX1_repeatsIn_34 (b1_34 : Int32) (n1_34 : Nat) (f0_c : Nat → Int32) (c0_c : Nat → Int32) (be_c : Nat → Int32) (si_c : Int32) (pl_c : Int32) (cu_c : Int32) (ge_c : Int32) (fa_c : Int32) : Nat → Nat → (Nat → Int32) → (Nat → Int32) → (Nat → Int32) → (Nat → Int32) → (Nat → Int64) → (Nat → Int64) → Int32 × (Nat → Int32) × (Nat → Int32) × (Nat → Int32) × (Nat → Int32) × (Nat → Int64) × (Nat → Int64)
  | 0, _, f1_34, c1_34, f2_34, c2_34, lo_34, up_34 => ((-1), f1_34, c1_34, f2_34, c2_34, lo_34, up_34)
  | n34 + 1, i34, f1_34, c1_34, f2_34, c2_34, lo_34, up_34 => gv_b3 (spX0_becomeNextOf f2_34 c2_34 f1_34 c1_34 be_c si_c) (fun q56 f_q56 h_q56 => gv_b2 (spX0_copyFrom f1_34 c1_34 f_q56 h_q56) (fun f_q68 h_q68 => gv_b2 (spX1_remember f0_c c0_c f_q68 h_q68 f_q56 h_q56 lo_34 up_34 be_c si_c pl_c cu_c ge_c fa_c i34) (fun lo_q73 up_q73 => gv_b (spX1_looksAsBefore f0_c c0_c f_q68 h_q68 f_q56 h_q56 lo_q73 up_q73 be_c si_c pl_c cu_c ge_c fa_c i34 n1_34) (fun q79 => (if q79 = 0 then lpX1_repeatsIn_34 b1_34 n1_34 f0_c c0_c be_c si_c pl_c cu_c ge_c fa_c n34 (i34 + 1) f_q68 h_q68 f_q56 h_q56 lo_q73 up_q73 else ((nI i34), f_q68, h_q68, f_q56, h_q56, lo_q73, up_q73))))))
theorem lpX1_repeatsIn_34_0 (b1_34 : Int32) (n1_34 : Nat) (f0_c : Nat → Int32) (c0_c : Nat → Int32) (be_c : Nat → Int32) (si_c : Int32) (pl_c : Int32) (cu_c : Int32) (ge_c : Int32) (fa_c : Int32) (i34 : Nat) (f1_34 : Nat → Int32) (c1_34 : Nat → Int32) (f2_34 : Nat → Int32) (c2_34 : Nat → Int32) (lo_34 : Nat → Int64) (up_34 : Nat → Int64) : lpX1_repeatsIn_34 b1_34 n1_34 f0_c c0_c be_c si_c pl_c cu_c ge_c fa_c 0 i34 f1_34 c1_34 f2_34 c2_34 lo_34 up_34 = ((-1), f1_34, c1_34, f2_34, c2_34, lo_34, up_34) := rfl
theorem lpX1_repeatsIn_34_s (b1_34 : Int32) (n1_34 : Nat) (f0_c : Nat → Int32) (c0_c : Nat → Int32) (be_c : Nat → Int32) (si_c : Int32) (pl_c : Int32) (cu_c : Int32) (ge_c : Int32) (fa_c : Int32) (n34 : Nat) (i34 : Nat) (f1_34 : Nat → Int32) (c1_34 : Nat → Int32) (f2_34 : Nat → Int32) (c2_34 : Nat → Int32) (lo_34 : Nat → Int64) (up_34 : Nat → Int64) : lpX1_repeatsIn_34 b1_34 n1_34 f0_c c0_c be_c si_c pl_c cu_c ge_c fa_c (n34 + 1) i34 f1_34 c1_34 f2_34 c2_34 lo_34 up_34 = gv_b3 (spX0_becomeNextOf f2_34 c2_34 f1_34 c1_34 be_c si_c) (fun q56 f_q56 h_q56 => gv_b2 (spX0_copyFrom f1_34 c1_34 f_q56 h_q56) (fun f_q68 h_q68 => gv_b2 (spX1_remember f0_c c0_c f_q68 h_q68 f_q56 h_q56 lo_34 up_34 be_c si_c pl_c cu_c ge_c fa_c i34) (fun lo_q73 up_q73 => gv_b (spX1_looksAsBefore f0_c c0_c f_q68 h_q68 f_q56 h_q56 lo_q73 up_q73 be_c si_c pl_c cu_c ge_c fa_c i34 n1_34) (fun q79 => (if q79 = 0 then lpX1_repeatsIn_34 b1_34 n1_34 f0_c c0_c be_c si_c pl_c cu_c ge_c fa_c n34 (i34 + 1) f_q68 h_q68 f_q56 h_q56 lo_q73 up_q73 else ((nI i34), f_q68, h_q68, f_q56, h_q56, lo_q73, up_q73)))))) := rfl
def spX1_repeatsIn (f0 : Nat → Int32) (c0 : Nat → Int32) (f1 : Nat → Int32) (c1 : Nat → Int32) (f2 : Nat → Int32) (c2 : Nat → Int32) (lo : Nat → Int64) (up : Nat → Int64) (be : Nat → Int32) (si : Int32) (pl : Int32) (cu : Int32) (ge : Int32) (fa : Int32) : Int32 × (Nat → Int32) × (Nat → Int32) × (Nat → Int32) × (Nat → Int32) × (Nat → Int64) × (Nat → Int64) := gv_b (spX0_hasCuts f0 c0) (fun q4 => (if q4 = 0 then gv_b2 (spX0_copyFrom f1 c1 f0 c0) (fun f_q24 h_q24 => gv_b2 (spX1_remember f0 c0 f_q24 h_q24 f2 c2 lo up be si pl cu ge fa 0) (fun lo_q29 up_q29 => lpX1_repeatsIn_34 0 0 f0 c0 be si pl cu ge fa 60 1 f_q24 h_q24 f2 c2 lo_q29 up_q29)) else gv_b2 (spX0_copyFrom f1 c1 f0 c0) (fun f_q24 h_q24 => gv_b2 (spX1_remember f0 c0 f_q24 h_q24 f2 c2 lo up be si pl cu ge fa 0) (fun lo_q29 up_q29 => lpX1_repeatsIn_34 1 1 f0 c0 be si pl cu ge fa 60 1 f_q24 h_q24 f2 c2 lo_q29 up_q29))))
theorem spX1_repeatsIn_e (f0 : Nat → Int32) (c0 : Nat → Int32) (f1 : Nat → Int32) (c1 : Nat → Int32) (f2 : Nat → Int32) (c2 : Nat → Int32) (lo : Nat → Int64) (up : Nat → Int64) (be : Nat → Int32) (si : Int32) (pl : Int32) (cu : Int32) (ge : Int32) (fa : Int32) : spX1_repeatsIn f0 c0 f1 c1 f2 c2 lo up be si pl cu ge fa = gv_b (spX0_hasCuts f0 c0) (fun q4 => (if q4 = 0 then gv_b2 (spX0_copyFrom f1 c1 f0 c0) (fun f_q24 h_q24 => gv_b2 (spX1_remember f0 c0 f_q24 h_q24 f2 c2 lo up be si pl cu ge fa 0) (fun lo_q29 up_q29 => lpX1_repeatsIn_34 0 0 f0 c0 be si pl cu ge fa 60 1 f_q24 h_q24 f2 c2 lo_q29 up_q29)) else gv_b2 (spX0_copyFrom f1 c1 f0 c0) (fun f_q24 h_q24 => gv_b2 (spX1_remember f0 c0 f_q24 h_q24 f2 c2 lo up be si pl cu ge fa 0) (fun lo_q29 up_q29 => lpX1_repeatsIn_34 1 1 f0 c0 be si pl cu ge fa 60 1 f_q24 h_q24 f2 c2 lo_q29 up_q29)))) := rfl
set_option maxHeartbeats 4000000 in
set_option maxRecDepth 100000 in
theorem kX1_repeatsIn (l : Launch) (dC : Nat → ClassId) (dI : Nat → Nat → Nat) (cI cL : ClassId) (ad : Nat → Nat) (f0 : Nat → Int32) (c0 : Nat → Int32) (f1 : Nat → Int32) (c1 : Nat → Int32) (f2 : Nat → Int32) (c2 : Nat → Int32) (lo : Nat → Int64) (up : Nat → Int64) (be : Nat → Int32) (si : Int32) (pl : Int32) (cu : Int32) (ge : Int32) (fa : Int32) : gv_Mi l yX1_repeatsIn wsX1_repeatsIn 5 124 (dC, dI) [(cI, .int), (cL, .long)] [.ref (ad 0)] (gv_V cI cL ad f0 c0 f1 c1 f2 c2 lo up be si pl cu ge fa) (fun (r : Int32) (u : (Nat → Int32) × (Nat → Int32) × (Nat → Int32) × (Nat → Int32) × (Nat → Int64) × (Nat → Int64)) => (r, u) = spX1_repeatsIn f0 c0 f1 c1 f2 c2 lo up be si pl cu ge fa) (fun (u : (Nat → Int32) × (Nat → Int32) × (Nat → Int32) × (Nat → Int32) × (Nat → Int64) × (Nat → Int64)) => (gv_V cI cL ad f0 c0 u.1 u.2.1 u.2.2.1 u.2.2.2.1 u.2.2.2.2.1 u.2.2.2.2.2 be si pl cu ge fa)) := by
  refine gv_ofi (cc := cX1_repeatsIn) (maxL := 3) (own := RX1) (by decide) rfl (Nat.le_of_ble_eq_true rfl) rfl ?_
  intro A p e s m args below meth c Q ls H locs hx hb hml hts hown hP hK hD hN hS hl kr
  have inX0 : ∀ w ∈ wsX00, w ∈ wsX1_repeatsIn := (fun _ h => List.mem_cons_of_mem _ (List.mem_append_right _ h))
  have inX1 : ∀ w ∈ wsX10, w ∈ wsX1_repeatsIn := (fun _ h => List.mem_cons_of_mem _ (List.mem_append_left _ (List.mem_append_right _ h)))
  have hl : lv_has ls 3 [(0, .ref (ad 0))] := hl
  have he := (spX1_repeatsIn_e f0 c0 f1 c1 f2 c2 lo up be si pl cu ge fa).symm
  refine lv_aload_n hx hb dX1_repeatsIn_0 rfl (lv_at hl 0 rfl) ?_
  refine va_get (D := (dC, dI)) (ci := 1) (v := .ref (ad 1)) (C := RX1) (T := TX1) (N := 11) hx hb hts inX1 hown hK hP 0 rfl rfl 0 (by decide) (hts (.fieldLink RX1 10 "VineWall" "wall" "LVineWall$Wall;") (List.mem_of_getElem? (i := 1) rfl)) (fun _ h9 => h9) rfl dX1_repeatsIn_1 ?_
  have hPc : va_P (dC, dI) vwCl (gv_W cI (ad 1) (ad 2) (ad 3) f0 c0) H := gv_sub [1, 2, 3] hP rfl
  have hDc : va_D (gv_in (gv_W cI (ad 1) (ad 2) (ad 3) f0 c0)) (gv_W cI (ad 1) (ad 2) (ad 3) f0 c0) := gv_D hD [1, 2, 3] (by decide) rfl
  refine gv_ki (wf := (fun (_ : Unit) => (gv_W cI (ad 1) (ad 2) (ad 3) f0 c0))) (wc := (gv_W cI (ad 1) (ad 2) (ad 3) f0 c0)) [1, 2, 3] (fun _ => rfl) hP hD hS rfl rfl (va_runV (As := []) (rest := []) ⟨hx, hb, hml, hown, hts⟩ (kX0_hasCuts l dC dI cI cL (ad 1) (ad 2) (ad 3) f0 c0 (gv_in (gv_W cI (ad 1) (ad 2) (ad 3) f0 c0))) (cwV (rm := gv_R 0 0) 0 hts gX1_repeatsIn_X0_hasCuts rfl rfl rfl (by decide +kernel) ⟨Nat.le_of_ble_eq_true rfl, Nat.le_of_ble_eq_true rfl⟩) (gv_preV (ci := 0) hK hPc hDc hN rfl rfl) rfl rfl hl.1 rfl (lv_room (Nat.le_of_ble_eq_true rfl)) dX1_repeatsIn_4 ⟨Nat.zero_le _, Nat.zero_le _⟩) (fun q4 u H locs hw hP hD hS => ?_)
  have he := gv_q hw he
  have hP : va_P (dC, dI) vwCl (gv_V cI cL ad f0 c0 f1 c1 f2 c2 lo up be si pl cu ge fa) H := hP
  have hD : va_D A (gv_V cI cL ad f0 c0 f1 c1 f2 c2 lo up be si pl cu ge fa) := hD
  refine lv_if_eq (tgt := 14) hx hb dX1_repeatsIn_7 (by decide) (fun cd7 => ?_) (fun cd7 => ?_)
  · have he := gv_t cd7 he
    refine lv_iconst (v := 0) hx hb dX1_repeatsIn_14 (by decide) ?_
    refine lv_istore_n (lv' := [(1, .int 0), (0, .ref (ad 0))]) hx hb dX1_repeatsIn_15 rfl hl (by decide) rfl (fun ls hl => ?_)
    refine lv_aload_n hx hb dX1_repeatsIn_16 rfl (lv_at hl 1 rfl) ?_
    refine va_get (D := (dC, dI)) (ci := 1) (v := .ref (ad 4)) (C := RX1) (T := TX1) (N := 11) hx hb hts inX1 hown hK hP 0 rfl rfl 1 (by decide) (hts (.fieldLink RX1 16 "VineWall" "trial" "LVineWall$Wall;") (List.mem_of_getElem? (i := 2) rfl)) (fun _ h9 => h9) rfl dX1_repeatsIn_17 ?_
    refine lv_aload_n hx hb dX1_repeatsIn_20 rfl (lv_at hl 1 rfl) ?_
    refine va_get (D := (dC, dI)) (ci := 1) (v := .ref (ad 1)) (C := RX1) (T := TX1) (N := 11) hx hb hts inX1 hown hK hP 0 rfl rfl 0 (by decide) (hts (.fieldLink RX1 10 "VineWall" "wall" "LVineWall$Wall;") (List.mem_of_getElem? (i := 1) rfl)) (fun _ h9 => h9) rfl dX1_repeatsIn_21 ?_
    have hPc : va_P (dC, dI) vwCl (gv_WW cI (ad 4) (ad 5) (ad 6) (ad 1) (ad 2) (ad 3) f1 c1 f0 c0) H := gv_sub [4, 5, 6, 1, 2, 3] hP rfl
    have hDc : va_D (gv_in (gv_WW cI (ad 4) (ad 5) (ad 6) (ad 1) (ad 2) (ad 3) f1 c1 f0 c0)) (gv_WW cI (ad 4) (ad 5) (ad 6) (ad 1) (ad 2) (ad 3) f1 c1 f0 c0) := gv_D hD [4, 5, 6, 1, 2, 3] (by decide) rfl
    refine gv_kv (wf := (fun (u : (Nat → Int32) × (Nat → Int32)) => (gv_WW cI (ad 4) (ad 5) (ad 6) (ad 1) (ad 2) (ad 3) u.1 u.2 f0 c0))) (wc := (gv_WW cI (ad 4) (ad 5) (ad 6) (ad 1) (ad 2) (ad 3) f1 c1 f0 c0)) [4, 5, 6, 1, 2, 3] (fun _ => rfl) hP hD hS rfl rfl (va_runV (As := [.ref (ad 1)]) (rest := []) ⟨hx, hb, hml, hown, hts⟩ (kX0_copyFrom l dC dI cI cL (ad 4) (ad 5) (ad 6) (ad 1) (ad 2) (ad 3) f1 c1 f0 c0 (gv_in (gv_WW cI (ad 4) (ad 5) (ad 6) (ad 1) (ad 2) (ad 3) f1 c1 f0 c0))) (cwV (rm := gv_R 0 0) 1 hts gX1_repeatsIn_X0_copyFrom rfl rfl rfl (by decide +kernel) ⟨Nat.le_of_ble_eq_true rfl, Nat.le_of_ble_eq_true rfl⟩) (gv_preV (ci := 0) hK hPc hDc hN rfl rfl) rfl rfl hl.1 rfl (lv_room (Nat.le_of_ble_eq_true rfl)) dX1_repeatsIn_24 ⟨Nat.zero_le _, Nat.zero_le _⟩) (fun u H locs hw hP hD hS => ?_)
    obtain ⟨f_q24, h_q24⟩ := u
    have he := gv_q2 hw he
    have hP : va_P (dC, dI) vwCl (gv_V cI cL ad f0 c0 f_q24 h_q24 f2 c2 lo up be si pl cu ge fa) H := hP
    have hD : va_D A (gv_V cI cL ad f0 c0 f_q24 h_q24 f2 c2 lo up be si pl cu ge fa) := hD
    refine lv_aload_n hx hb dX1_repeatsIn_27 rfl (lv_at hl 1 rfl) ?_
    refine lv_iconst (v := 0) hx hb dX1_repeatsIn_28 (by decide) ?_
    have hPc : va_P (dC, dI) vwCl (gv_V cI cL ad f0 c0 f_q24 h_q24 f2 c2 lo up be si pl cu ge fa) H := gv_sub [0, 1, 2, 3, 4, 5, 6, 7, 8, 9, 10, 11, 12] hP rfl
    have hDc : va_D (gv_in (gv_V cI cL ad f0 c0 f_q24 h_q24 f2 c2 lo up be si pl cu ge fa)) (gv_V cI cL ad f0 c0 f_q24 h_q24 f2 c2 lo up be si pl cu ge fa) := gv_D hD [0, 1, 2, 3, 4, 5, 6, 7, 8, 9, 10, 11, 12] (by decide) rfl
    refine gv_kv (wf := (fun (u : (Nat → Int64) × (Nat → Int64)) => (gv_V cI cL ad f0 c0 f_q24 h_q24 f2 c2 u.1 u.2 be si pl cu ge fa))) (wc := (gv_V cI cL ad f0 c0 f_q24 h_q24 f2 c2 lo up be si pl cu ge fa)) [0, 1, 2, 3, 4, 5, 6, 7, 8, 9, 10, 11, 12] (fun _ => rfl) hP hD hS rfl rfl (va_runV (As := [.int 0]) (rest := []) ⟨hx, hb, hml, hown, hts⟩ (kX1_remember l dC dI cI cL ad f0 c0 f_q24 h_q24 f2 c2 lo up be si pl cu ge fa 0 0 (rfl : (0 : Int32) = nI 0) (by omega) (gv_in (gv_V cI cL ad f0 c0 f_q24 h_q24 f2 c2 lo up be si pl cu ge fa))) (cwV (rm := gv_R 2 45) 1 hts gX1_repeatsIn_X1_remember rfl rfl rfl (by decide +kernel) ⟨Nat.le_of_ble_eq_true rfl, Nat.le_of_ble_eq_true rfl⟩) (gv_preV (ci := 1) hK hPc hDc hN rfl rfl) rfl rfl hl.1 rfl (lv_room (Nat.le_of_ble_eq_true rfl)) dX1_repeatsIn_29 ⟨Nat.zero_le _, Nat.zero_le _⟩) (fun u H locs hw hP hD hS => ?_)
    obtain ⟨lo_q29, up_q29⟩ := u
    have he := gv_q2 hw he
    have hP : va_P (dC, dI) vwCl (gv_V cI cL ad f0 c0 f_q24 h_q24 f2 c2 lo_q29 up_q29 be si pl cu ge fa) H := hP
    have hD : va_D A (gv_V cI cL ad f0 c0 f_q24 h_q24 f2 c2 lo_q29 up_q29 be si pl cu ge fa) := hD
    refine lv_iconst (v := 1) hx hb dX1_repeatsIn_32 (by decide) ?_
    refine lv_istore_n (lv' := [(2, .int 1), (1, .int 0), (0, .ref (ad 0))]) hx hb dX1_repeatsIn_33 rfl hl (by decide) rfl (fun ls hl => ?_)
    have L34 : ∀ (n34 i34 : Nat) (f1_34 : Nat → Int32) (c1_34 : Nat → Int32) (f2_34 : Nat → Int32) (c2_34 : Nat → Int32) (lo_34 : Nat → Int64) (up_34 : Nat → Int64) (H : Heap) (locs : List Loc) (ls : Array Slot), 1 ≤ i34 ∧ i34 + n34 = 61 → lpX1_repeatsIn_34 0 0 f0 c0 be si pl cu ge fa n34 i34 f1_34 c1_34 f2_34 c2_34 lo_34 up_34 = spX1_repeatsIn f0 c0 f1 c1 f2 c2 lo up be si pl cu ge fa → va_P (dC, dI) vwCl (gv_V cI cL ad f0 c0 f1_34 c1_34 f2_34 c2_34 lo_34 up_34 be si pl cu ge fa) H → va_D A (gv_V cI cL ad f0 c0 f1_34 c1_34 f2_34 c2_34 lo_34 up_34 be si pl cu ge fa) → va_S A s.heap H locs → lv_has ls 3 [(0, .ref (ad 0)), (1, .int 0), (2, .int (nI i34))] → W p l e (gv_R 5 124) s m args below meth c H locs 0 0 Q (F0 m 34 ls []) := by
      intro n34
      induction n34 with
      | zero =>
        intro i34 f1_34 c1_34 f2_34 c2_34 lo_34 up_34 H locs ls hi34 he hP hD hS hl
        have he := (lpX1_repeatsIn_34_0 _ _ _ _ _ _ _ _ _ _ _ _ _ _ _ _ _).symm.trans he
        refine lv_iload_n hx hb dX1_repeatsIn_34 rfl (lv_at hl 2 rfl) ?_
        refine lv_bipush (v := 60) hx hb dX1_repeatsIn_35 (by decide) ?_
        refine lv_icmp_gt (tgt := 93) hx hb dX1_repeatsIn_37 (by decide) (fun _ => ?_) (fun c => absurd c (gv_gt (N := 60) rfl (rfl : (60 : Int32) = nI 60) (by omega) (by omega)))
        refine lv_iconst (v := (-1)) hx hb dX1_repeatsIn_93 (by decide) ?_
        exact kr (-1) (f1_34, c1_34, f2_34, c2_34, lo_34, up_34) _ _ _ _ he hP hS dX1_repeatsIn_94
      | succ n34 ih34 =>
        intro i34 f1_34 c1_34 f2_34 c2_34 lo_34 up_34 H locs ls hi34 he hP hD hS hl
        have he := (lpX1_repeatsIn_34_s _ _ _ _ _ _ _ _ _ _ _ _ _ _ _ _ _ _).symm.trans he
        refine lv_iload_n hx hb dX1_repeatsIn_34 rfl (lv_at hl 2 rfl) ?_
        refine lv_bipush (v := 60) hx hb dX1_repeatsIn_35 (by decide) ?_
        refine lv_icmp_gt (tgt := 93) hx hb dX1_repeatsIn_37 (by decide) (fun c => absurd c (gv_ngt (N := 60) rfl (rfl : (60 : Int32) = nI 60) (by omega) (by omega))) (fun _ => ?_)
        refine lv_aload_n hx hb dX1_repeatsIn_40 rfl (lv_at hl 0 rfl) ?_
        refine va_get (D := (dC, dI)) (ci := 1) (v := .ref (ad 7)) (C := RX1) (T := TX1) (N := 11) hx hb hts inX1 hown hK hP 0 rfl rfl 2 (by decide) (hts (.fieldLink RX1 19 "VineWall" "behind" "LVineWall$Wall;") (List.mem_of_getElem? (i := 3) rfl)) (fun _ h9 => h9) rfl dX1_repeatsIn_41 ?_
        refine lv_aload_n hx hb dX1_repeatsIn_44 rfl (lv_at hl 0 rfl) ?_
        refine va_get (D := (dC, dI)) (ci := 1) (v := .ref (ad 4)) (C := RX1) (T := TX1) (N := 11) hx hb hts inX1 hown hK hP 0 rfl rfl 1 (by decide) (hts (.fieldLink RX1 16 "VineWall" "trial" "LVineWall$Wall;") (List.mem_of_getElem? (i := 2) rfl)) (fun _ h9 => h9) rfl dX1_repeatsIn_45 ?_
        refine lv_aload_n hx hb dX1_repeatsIn_48 rfl (lv_at hl 0 rfl) ?_
        refine va_get (D := (dC, dI)) (ci := 1) (v := .int si) (C := RX1) (T := TX1) (N := 11) hx hb hts inX1 hown hK hP 0 rfl rfl 6 (by decide) (hts (.fieldLink RX1 33 "VineWall" "beyond" "I") (List.mem_of_getElem? (i := 4) rfl)) (fun _ h9 => h9) rfl dX1_repeatsIn_49 ?_
        refine lv_aload_n hx hb dX1_repeatsIn_52 rfl (lv_at hl 0 rfl) ?_
        refine va_get (D := (dC, dI)) (ci := 1) (v := .ref (ad 12)) (C := RX1) (T := TX1) (N := 11) hx hb hts inX1 hown hK hP 0 rfl rfl 5 (by decide) (hts (.fieldLink RX1 29 "VineWall" "bearings" "[I") (List.mem_of_getElem? (i := 5) rfl)) (fun _ h9 => h9) rfl dX1_repeatsIn_53 ?_
        have hPc : va_P (dC, dI) vwCl (gv_WWA cI (ad 7) (ad 8) (ad 9) (ad 4) (ad 5) (ad 6) (ad 12) f2_34 c2_34 f1_34 c1_34 be) H := gv_sub [7, 8, 9, 4, 5, 6, 12] hP rfl
        have hDc : va_D (gv_in (gv_WWA cI (ad 7) (ad 8) (ad 9) (ad 4) (ad 5) (ad 6) (ad 12) f2_34 c2_34 f1_34 c1_34 be)) (gv_WWA cI (ad 7) (ad 8) (ad 9) (ad 4) (ad 5) (ad 6) (ad 12) f2_34 c2_34 f1_34 c1_34 be) := gv_D hD [7, 8, 9, 4, 5, 6, 12] (by decide) rfl
        refine gv_ki (wf := (fun (u : (Nat → Int32) × (Nat → Int32)) => (gv_WWA cI (ad 7) (ad 8) (ad 9) (ad 4) (ad 5) (ad 6) (ad 12) u.1 u.2 f1_34 c1_34 be))) (wc := (gv_WWA cI (ad 7) (ad 8) (ad 9) (ad 4) (ad 5) (ad 6) (ad 12) f2_34 c2_34 f1_34 c1_34 be)) [7, 8, 9, 4, 5, 6, 12] (fun _ => rfl) hP hD hS rfl rfl (va_runV (As := [.ref (ad 4), .int si, .ref (ad 12)]) (rest := []) ⟨hx, hb, hml, hown, hts⟩ (kX0_becomeNextOf l dC dI cI cL (ad 7) (ad 8) (ad 9) (ad 4) (ad 5) (ad 6) (ad 12) f2_34 c2_34 f1_34 c1_34 be si (gv_in (gv_WWA cI (ad 7) (ad 8) (ad 9) (ad 4) (ad 5) (ad 6) (ad 12) f2_34 c2_34 f1_34 c1_34 be))) (cwV (rm := gv_R 4 99) 3 hts gX1_repeatsIn_X0_becomeNextOf rfl rfl rfl (by decide +kernel) ⟨Nat.le_of_ble_eq_true rfl, Nat.le_of_ble_eq_true rfl⟩) (gv_preV (ci := 0) hK hPc hDc hN rfl rfl) rfl rfl hl.1 rfl (lv_room (Nat.le_of_ble_eq_true rfl)) dX1_repeatsIn_56 ⟨Nat.zero_le _, Nat.zero_le _⟩) (fun q56 u H locs hw hP hD hS => ?_)
        obtain ⟨f_q56, h_q56⟩ := u
        have he := gv_q3 hw he
        have hP : va_P (dC, dI) vwCl (gv_V cI cL ad f0 c0 f1_34 c1_34 f_q56 h_q56 lo_34 up_34 be si pl cu ge fa) H := hP
        have hD : va_D A (gv_V cI cL ad f0 c0 f1_34 c1_34 f_q56 h_q56 lo_34 up_34 be si pl cu ge fa) := hD
        refine lv_pop hx hb dX1_repeatsIn_59 rfl ?_
        refine lv_aload_n hx hb dX1_repeatsIn_60 rfl (lv_at hl 0 rfl) ?_
        refine va_get (D := (dC, dI)) (ci := 1) (v := .ref (ad 4)) (C := RX1) (T := TX1) (N := 11) hx hb hts inX1 hown hK hP 0 rfl rfl 1 (by decide) (hts (.fieldLink RX1 16 "VineWall" "trial" "LVineWall$Wall;") (List.mem_of_getElem? (i := 2) rfl)) (fun _ h9 => h9) rfl dX1_repeatsIn_61 ?_
        refine lv_aload_n hx hb dX1_repeatsIn_64 rfl (lv_at hl 0 rfl) ?_
        refine va_get (D := (dC, dI)) (ci := 1) (v := .ref (ad 7)) (C := RX1) (T := TX1) (N := 11) hx hb hts inX1 hown hK hP 0 rfl rfl 2 (by decide) (hts (.fieldLink RX1 19 "VineWall" "behind" "LVineWall$Wall;") (List.mem_of_getElem? (i := 3) rfl)) (fun _ h9 => h9) rfl dX1_repeatsIn_65 ?_
        have hPc : va_P (dC, dI) vwCl (gv_WW cI (ad 4) (ad 5) (ad 6) (ad 7) (ad 8) (ad 9) f1_34 c1_34 f_q56 h_q56) H := gv_sub [4, 5, 6, 7, 8, 9] hP rfl
        have hDc : va_D (gv_in (gv_WW cI (ad 4) (ad 5) (ad 6) (ad 7) (ad 8) (ad 9) f1_34 c1_34 f_q56 h_q56)) (gv_WW cI (ad 4) (ad 5) (ad 6) (ad 7) (ad 8) (ad 9) f1_34 c1_34 f_q56 h_q56) := gv_D hD [4, 5, 6, 7, 8, 9] (by decide) rfl
        refine gv_kv (wf := (fun (u : (Nat → Int32) × (Nat → Int32)) => (gv_WW cI (ad 4) (ad 5) (ad 6) (ad 7) (ad 8) (ad 9) u.1 u.2 f_q56 h_q56))) (wc := (gv_WW cI (ad 4) (ad 5) (ad 6) (ad 7) (ad 8) (ad 9) f1_34 c1_34 f_q56 h_q56)) [4, 5, 6, 7, 8, 9] (fun _ => rfl) hP hD hS rfl rfl (va_runV (As := [.ref (ad 7)]) (rest := []) ⟨hx, hb, hml, hown, hts⟩ (kX0_copyFrom l dC dI cI cL (ad 4) (ad 5) (ad 6) (ad 7) (ad 8) (ad 9) f1_34 c1_34 f_q56 h_q56 (gv_in (gv_WW cI (ad 4) (ad 5) (ad 6) (ad 7) (ad 8) (ad 9) f1_34 c1_34 f_q56 h_q56))) (cwV (rm := gv_R 0 0) 1 hts gX1_repeatsIn_X0_copyFrom rfl rfl rfl (by decide +kernel) ⟨Nat.le_of_ble_eq_true rfl, Nat.le_of_ble_eq_true rfl⟩) (gv_preV (ci := 0) hK hPc hDc hN rfl rfl) rfl rfl hl.1 rfl (lv_room (Nat.le_of_ble_eq_true rfl)) dX1_repeatsIn_68 ⟨Nat.zero_le _, Nat.zero_le _⟩) (fun u H locs hw hP hD hS => ?_)
        obtain ⟨f_q68, h_q68⟩ := u
        have he := gv_q2 hw he
        have hP : va_P (dC, dI) vwCl (gv_V cI cL ad f0 c0 f_q68 h_q68 f_q56 h_q56 lo_34 up_34 be si pl cu ge fa) H := hP
        have hD : va_D A (gv_V cI cL ad f0 c0 f_q68 h_q68 f_q56 h_q56 lo_34 up_34 be si pl cu ge fa) := hD
        refine lv_aload_n hx hb dX1_repeatsIn_71 rfl (lv_at hl 0 rfl) ?_
        refine lv_iload_n hx hb dX1_repeatsIn_72 rfl (lv_at hl 2 rfl) ?_
        have hPc : va_P (dC, dI) vwCl (gv_V cI cL ad f0 c0 f_q68 h_q68 f_q56 h_q56 lo_34 up_34 be si pl cu ge fa) H := gv_sub [0, 1, 2, 3, 4, 5, 6, 7, 8, 9, 10, 11, 12] hP rfl
        have hDc : va_D (gv_in (gv_V cI cL ad f0 c0 f_q68 h_q68 f_q56 h_q56 lo_34 up_34 be si pl cu ge fa)) (gv_V cI cL ad f0 c0 f_q68 h_q68 f_q56 h_q56 lo_34 up_34 be si pl cu ge fa) := gv_D hD [0, 1, 2, 3, 4, 5, 6, 7, 8, 9, 10, 11, 12] (by decide) rfl
        refine gv_kv (wf := (fun (u : (Nat → Int64) × (Nat → Int64)) => (gv_V cI cL ad f0 c0 f_q68 h_q68 f_q56 h_q56 u.1 u.2 be si pl cu ge fa))) (wc := (gv_V cI cL ad f0 c0 f_q68 h_q68 f_q56 h_q56 lo_34 up_34 be si pl cu ge fa)) [0, 1, 2, 3, 4, 5, 6, 7, 8, 9, 10, 11, 12] (fun _ => rfl) hP hD hS rfl rfl (va_runV (As := [.int (nI i34)]) (rest := []) ⟨hx, hb, hml, hown, hts⟩ (kX1_remember l dC dI cI cL ad f0 c0 f_q68 h_q68 f_q56 h_q56 lo_34 up_34 be si pl cu ge fa (nI i34) i34 rfl (by omega) (gv_in (gv_V cI cL ad f0 c0 f_q68 h_q68 f_q56 h_q56 lo_34 up_34 be si pl cu ge fa))) (cwV (rm := gv_R 2 45) 1 hts gX1_repeatsIn_X1_remember rfl rfl rfl (by decide +kernel) ⟨Nat.le_of_ble_eq_true rfl, Nat.le_of_ble_eq_true rfl⟩) (gv_preV (ci := 1) hK hPc hDc hN rfl rfl) rfl rfl hl.1 rfl (lv_room (Nat.le_of_ble_eq_true rfl)) dX1_repeatsIn_73 ⟨Nat.zero_le _, Nat.zero_le _⟩) (fun u H locs hw hP hD hS => ?_)
        obtain ⟨lo_q73, up_q73⟩ := u
        have he := gv_q2 hw he
        have hP : va_P (dC, dI) vwCl (gv_V cI cL ad f0 c0 f_q68 h_q68 f_q56 h_q56 lo_q73 up_q73 be si pl cu ge fa) H := hP
        have hD : va_D A (gv_V cI cL ad f0 c0 f_q68 h_q68 f_q56 h_q56 lo_q73 up_q73 be si pl cu ge fa) := hD
        refine lv_aload_n hx hb dX1_repeatsIn_76 rfl (lv_at hl 0 rfl) ?_
        refine lv_iload_n hx hb dX1_repeatsIn_77 rfl (lv_at hl 2 rfl) ?_
        refine lv_iload_n hx hb dX1_repeatsIn_78 rfl (lv_at hl 1 rfl) ?_
        have hPc : va_P (dC, dI) vwCl (gv_V cI cL ad f0 c0 f_q68 h_q68 f_q56 h_q56 lo_q73 up_q73 be si pl cu ge fa) H := gv_sub [0, 1, 2, 3, 4, 5, 6, 7, 8, 9, 10, 11, 12] hP rfl
        have hDc : va_D (gv_in (gv_V cI cL ad f0 c0 f_q68 h_q68 f_q56 h_q56 lo_q73 up_q73 be si pl cu ge fa)) (gv_V cI cL ad f0 c0 f_q68 h_q68 f_q56 h_q56 lo_q73 up_q73 be si pl cu ge fa) := gv_D hD [0, 1, 2, 3, 4, 5, 6, 7, 8, 9, 10, 11, 12] (by decide) rfl
        refine gv_ki (wf := (fun (_ : Unit) => (gv_V cI cL ad f0 c0 f_q68 h_q68 f_q56 h_q56 lo_q73 up_q73 be si pl cu ge fa))) (wc := (gv_V cI cL ad f0 c0 f_q68 h_q68 f_q56 h_q56 lo_q73 up_q73 be si pl cu ge fa)) [0, 1, 2, 3, 4, 5, 6, 7, 8, 9, 10, 11, 12] (fun _ => rfl) hP hD hS rfl rfl (va_runV (As := [.int (nI i34), .int 0]) (rest := []) ⟨hx, hb, hml, hown, hts⟩ (kX1_looksAsBefore l dC dI cI cL ad f0 c0 f_q68 h_q68 f_q56 h_q56 lo_q73 up_q73 be si pl cu ge fa (nI i34) i34 rfl 0 0 (rfl : (0 : Int32) = nI 0) (by omega) (by omega) (gv_in (gv_V cI cL ad f0 c0 f_q68 h_q68 f_q56 h_q56 lo_q73 up_q73 be si pl cu ge fa))) (cwV (rm := gv_R 0 0) 2 hts gX1_repeatsIn_X1_looksAsBefore rfl rfl rfl (by decide +kernel) ⟨Nat.le_of_ble_eq_true rfl, Nat.le_of_ble_eq_true rfl⟩) (gv_preV (ci := 1) hK hPc hDc hN rfl rfl) rfl rfl hl.1 rfl (lv_room (Nat.le_of_ble_eq_true rfl)) dX1_repeatsIn_79 ⟨Nat.zero_le _, Nat.zero_le _⟩) (fun q79 u H locs hw hP hD hS => ?_)
        have he := gv_q hw he
        have hP : va_P (dC, dI) vwCl (gv_V cI cL ad f0 c0 f_q68 h_q68 f_q56 h_q56 lo_q73 up_q73 be si pl cu ge fa) H := hP
        have hD : va_D A (gv_V cI cL ad f0 c0 f_q68 h_q68 f_q56 h_q56 lo_q73 up_q73 be si pl cu ge fa) := hD
        refine lv_if_eq (tgt := 87) hx hb dX1_repeatsIn_82 (by decide) (fun cd82 => ?_) (fun cd82 => ?_)
        · have he := gv_t cd82 he
          refine lv_iinc (v := (nI (i34 + 1))) (lv' := [(2, .int (nI (i34 + 1))), (0, .ref (ad 0)), (1, .int 0)]) hx hb dX1_repeatsIn_87 hl (k := 2) rfl (nI_1 i34) (by decide) rfl (fun ls hl => ?_)
          refine lv_goto (tgt := 34) hx hb dX1_repeatsIn_90 (by decide) ?_
          exact ih34 (i34 + 1) f_q68 h_q68 f_q56 h_q56 lo_q73 up_q73 _ _ _ (by omega) he hP hD hS (lv_sub hl [1, 2, 0] rfl)
        · have he := gv_f cd82 he
          refine lv_iload_n hx hb dX1_repeatsIn_85 rfl (lv_at hl 2 rfl) ?_
          exact kr (nI i34) (f_q68, h_q68, f_q56, h_q56, lo_q73, up_q73) _ _ _ _ he hP hS dX1_repeatsIn_86
    exact L34 60 1 f_q24 h_q24 f2 c2 lo_q29 up_q29 _ _ _ (by omega) he hP hD hS (lv_sub hl [2, 1, 0] rfl)
  · have he := gv_f cd7 he
    refine lv_iconst (v := 1) hx hb dX1_repeatsIn_10 (by decide) ?_
    refine lv_goto (tgt := 15) hx hb dX1_repeatsIn_11 (by decide) ?_
    refine lv_istore_n (lv' := [(1, .int 1), (0, .ref (ad 0))]) hx hb dX1_repeatsIn_15 rfl hl (by decide) rfl (fun ls hl => ?_)
    refine lv_aload_n hx hb dX1_repeatsIn_16 rfl (lv_at hl 1 rfl) ?_
    refine va_get (D := (dC, dI)) (ci := 1) (v := .ref (ad 4)) (C := RX1) (T := TX1) (N := 11) hx hb hts inX1 hown hK hP 0 rfl rfl 1 (by decide) (hts (.fieldLink RX1 16 "VineWall" "trial" "LVineWall$Wall;") (List.mem_of_getElem? (i := 2) rfl)) (fun _ h9 => h9) rfl dX1_repeatsIn_17 ?_
    refine lv_aload_n hx hb dX1_repeatsIn_20 rfl (lv_at hl 1 rfl) ?_
    refine va_get (D := (dC, dI)) (ci := 1) (v := .ref (ad 1)) (C := RX1) (T := TX1) (N := 11) hx hb hts inX1 hown hK hP 0 rfl rfl 0 (by decide) (hts (.fieldLink RX1 10 "VineWall" "wall" "LVineWall$Wall;") (List.mem_of_getElem? (i := 1) rfl)) (fun _ h9 => h9) rfl dX1_repeatsIn_21 ?_
    have hPc : va_P (dC, dI) vwCl (gv_WW cI (ad 4) (ad 5) (ad 6) (ad 1) (ad 2) (ad 3) f1 c1 f0 c0) H := gv_sub [4, 5, 6, 1, 2, 3] hP rfl
    have hDc : va_D (gv_in (gv_WW cI (ad 4) (ad 5) (ad 6) (ad 1) (ad 2) (ad 3) f1 c1 f0 c0)) (gv_WW cI (ad 4) (ad 5) (ad 6) (ad 1) (ad 2) (ad 3) f1 c1 f0 c0) := gv_D hD [4, 5, 6, 1, 2, 3] (by decide) rfl
    refine gv_kv (wf := (fun (u : (Nat → Int32) × (Nat → Int32)) => (gv_WW cI (ad 4) (ad 5) (ad 6) (ad 1) (ad 2) (ad 3) u.1 u.2 f0 c0))) (wc := (gv_WW cI (ad 4) (ad 5) (ad 6) (ad 1) (ad 2) (ad 3) f1 c1 f0 c0)) [4, 5, 6, 1, 2, 3] (fun _ => rfl) hP hD hS rfl rfl (va_runV (As := [.ref (ad 1)]) (rest := []) ⟨hx, hb, hml, hown, hts⟩ (kX0_copyFrom l dC dI cI cL (ad 4) (ad 5) (ad 6) (ad 1) (ad 2) (ad 3) f1 c1 f0 c0 (gv_in (gv_WW cI (ad 4) (ad 5) (ad 6) (ad 1) (ad 2) (ad 3) f1 c1 f0 c0))) (cwV (rm := gv_R 0 0) 1 hts gX1_repeatsIn_X0_copyFrom rfl rfl rfl (by decide +kernel) ⟨Nat.le_of_ble_eq_true rfl, Nat.le_of_ble_eq_true rfl⟩) (gv_preV (ci := 0) hK hPc hDc hN rfl rfl) rfl rfl hl.1 rfl (lv_room (Nat.le_of_ble_eq_true rfl)) dX1_repeatsIn_24 ⟨Nat.zero_le _, Nat.zero_le _⟩) (fun u H locs hw hP hD hS => ?_)
    obtain ⟨f_q24, h_q24⟩ := u
    have he := gv_q2 hw he
    have hP : va_P (dC, dI) vwCl (gv_V cI cL ad f0 c0 f_q24 h_q24 f2 c2 lo up be si pl cu ge fa) H := hP
    have hD : va_D A (gv_V cI cL ad f0 c0 f_q24 h_q24 f2 c2 lo up be si pl cu ge fa) := hD
    refine lv_aload_n hx hb dX1_repeatsIn_27 rfl (lv_at hl 1 rfl) ?_
    refine lv_iconst (v := 0) hx hb dX1_repeatsIn_28 (by decide) ?_
    have hPc : va_P (dC, dI) vwCl (gv_V cI cL ad f0 c0 f_q24 h_q24 f2 c2 lo up be si pl cu ge fa) H := gv_sub [0, 1, 2, 3, 4, 5, 6, 7, 8, 9, 10, 11, 12] hP rfl
    have hDc : va_D (gv_in (gv_V cI cL ad f0 c0 f_q24 h_q24 f2 c2 lo up be si pl cu ge fa)) (gv_V cI cL ad f0 c0 f_q24 h_q24 f2 c2 lo up be si pl cu ge fa) := gv_D hD [0, 1, 2, 3, 4, 5, 6, 7, 8, 9, 10, 11, 12] (by decide) rfl
    refine gv_kv (wf := (fun (u : (Nat → Int64) × (Nat → Int64)) => (gv_V cI cL ad f0 c0 f_q24 h_q24 f2 c2 u.1 u.2 be si pl cu ge fa))) (wc := (gv_V cI cL ad f0 c0 f_q24 h_q24 f2 c2 lo up be si pl cu ge fa)) [0, 1, 2, 3, 4, 5, 6, 7, 8, 9, 10, 11, 12] (fun _ => rfl) hP hD hS rfl rfl (va_runV (As := [.int 0]) (rest := []) ⟨hx, hb, hml, hown, hts⟩ (kX1_remember l dC dI cI cL ad f0 c0 f_q24 h_q24 f2 c2 lo up be si pl cu ge fa 0 0 (rfl : (0 : Int32) = nI 0) (by omega) (gv_in (gv_V cI cL ad f0 c0 f_q24 h_q24 f2 c2 lo up be si pl cu ge fa))) (cwV (rm := gv_R 2 45) 1 hts gX1_repeatsIn_X1_remember rfl rfl rfl (by decide +kernel) ⟨Nat.le_of_ble_eq_true rfl, Nat.le_of_ble_eq_true rfl⟩) (gv_preV (ci := 1) hK hPc hDc hN rfl rfl) rfl rfl hl.1 rfl (lv_room (Nat.le_of_ble_eq_true rfl)) dX1_repeatsIn_29 ⟨Nat.zero_le _, Nat.zero_le _⟩) (fun u H locs hw hP hD hS => ?_)
    obtain ⟨lo_q29, up_q29⟩ := u
    have he := gv_q2 hw he
    have hP : va_P (dC, dI) vwCl (gv_V cI cL ad f0 c0 f_q24 h_q24 f2 c2 lo_q29 up_q29 be si pl cu ge fa) H := hP
    have hD : va_D A (gv_V cI cL ad f0 c0 f_q24 h_q24 f2 c2 lo_q29 up_q29 be si pl cu ge fa) := hD
    refine lv_iconst (v := 1) hx hb dX1_repeatsIn_32 (by decide) ?_
    refine lv_istore_n (lv' := [(2, .int 1), (1, .int 1), (0, .ref (ad 0))]) hx hb dX1_repeatsIn_33 rfl hl (by decide) rfl (fun ls hl => ?_)
    have L34 : ∀ (n34 i34 : Nat) (f1_34 : Nat → Int32) (c1_34 : Nat → Int32) (f2_34 : Nat → Int32) (c2_34 : Nat → Int32) (lo_34 : Nat → Int64) (up_34 : Nat → Int64) (H : Heap) (locs : List Loc) (ls : Array Slot), 1 ≤ i34 ∧ i34 + n34 = 61 → lpX1_repeatsIn_34 1 1 f0 c0 be si pl cu ge fa n34 i34 f1_34 c1_34 f2_34 c2_34 lo_34 up_34 = spX1_repeatsIn f0 c0 f1 c1 f2 c2 lo up be si pl cu ge fa → va_P (dC, dI) vwCl (gv_V cI cL ad f0 c0 f1_34 c1_34 f2_34 c2_34 lo_34 up_34 be si pl cu ge fa) H → va_D A (gv_V cI cL ad f0 c0 f1_34 c1_34 f2_34 c2_34 lo_34 up_34 be si pl cu ge fa) → va_S A s.heap H locs → lv_has ls 3 [(0, .ref (ad 0)), (1, .int 1), (2, .int (nI i34))] → W p l e (gv_R 5 124) s m args below meth c H locs 0 0 Q (F0 m 34 ls []) := by
      intro n34
      induction n34 with
      | zero =>
        intro i34 f1_34 c1_34 f2_34 c2_34 lo_34 up_34 H locs ls hi34 he hP hD hS hl
        have he := (lpX1_repeatsIn_34_0 _ _ _ _ _ _ _ _ _ _ _ _ _ _ _ _ _).symm.trans he
        refine lv_iload_n hx hb dX1_repeatsIn_34 rfl (lv_at hl 2 rfl) ?_
        refine lv_bipush (v := 60) hx hb dX1_repeatsIn_35 (by decide) ?_
        refine lv_icmp_gt (tgt := 93) hx hb dX1_repeatsIn_37 (by decide) (fun _ => ?_) (fun c => absurd c (gv_gt (N := 60) rfl (rfl : (60 : Int32) = nI 60) (by omega) (by omega)))
        refine lv_iconst (v := (-1)) hx hb dX1_repeatsIn_93 (by decide) ?_
        exact kr (-1) (f1_34, c1_34, f2_34, c2_34, lo_34, up_34) _ _ _ _ he hP hS dX1_repeatsIn_94
      | succ n34 ih34 =>
        intro i34 f1_34 c1_34 f2_34 c2_34 lo_34 up_34 H locs ls hi34 he hP hD hS hl
        have he := (lpX1_repeatsIn_34_s _ _ _ _ _ _ _ _ _ _ _ _ _ _ _ _ _ _).symm.trans he
        refine lv_iload_n hx hb dX1_repeatsIn_34 rfl (lv_at hl 2 rfl) ?_
        refine lv_bipush (v := 60) hx hb dX1_repeatsIn_35 (by decide) ?_
        refine lv_icmp_gt (tgt := 93) hx hb dX1_repeatsIn_37 (by decide) (fun c => absurd c (gv_ngt (N := 60) rfl (rfl : (60 : Int32) = nI 60) (by omega) (by omega))) (fun _ => ?_)
        refine lv_aload_n hx hb dX1_repeatsIn_40 rfl (lv_at hl 0 rfl) ?_
        refine va_get (D := (dC, dI)) (ci := 1) (v := .ref (ad 7)) (C := RX1) (T := TX1) (N := 11) hx hb hts inX1 hown hK hP 0 rfl rfl 2 (by decide) (hts (.fieldLink RX1 19 "VineWall" "behind" "LVineWall$Wall;") (List.mem_of_getElem? (i := 3) rfl)) (fun _ h9 => h9) rfl dX1_repeatsIn_41 ?_
        refine lv_aload_n hx hb dX1_repeatsIn_44 rfl (lv_at hl 0 rfl) ?_
        refine va_get (D := (dC, dI)) (ci := 1) (v := .ref (ad 4)) (C := RX1) (T := TX1) (N := 11) hx hb hts inX1 hown hK hP 0 rfl rfl 1 (by decide) (hts (.fieldLink RX1 16 "VineWall" "trial" "LVineWall$Wall;") (List.mem_of_getElem? (i := 2) rfl)) (fun _ h9 => h9) rfl dX1_repeatsIn_45 ?_
        refine lv_aload_n hx hb dX1_repeatsIn_48 rfl (lv_at hl 0 rfl) ?_
        refine va_get (D := (dC, dI)) (ci := 1) (v := .int si) (C := RX1) (T := TX1) (N := 11) hx hb hts inX1 hown hK hP 0 rfl rfl 6 (by decide) (hts (.fieldLink RX1 33 "VineWall" "beyond" "I") (List.mem_of_getElem? (i := 4) rfl)) (fun _ h9 => h9) rfl dX1_repeatsIn_49 ?_
        refine lv_aload_n hx hb dX1_repeatsIn_52 rfl (lv_at hl 0 rfl) ?_
        refine va_get (D := (dC, dI)) (ci := 1) (v := .ref (ad 12)) (C := RX1) (T := TX1) (N := 11) hx hb hts inX1 hown hK hP 0 rfl rfl 5 (by decide) (hts (.fieldLink RX1 29 "VineWall" "bearings" "[I") (List.mem_of_getElem? (i := 5) rfl)) (fun _ h9 => h9) rfl dX1_repeatsIn_53 ?_
        have hPc : va_P (dC, dI) vwCl (gv_WWA cI (ad 7) (ad 8) (ad 9) (ad 4) (ad 5) (ad 6) (ad 12) f2_34 c2_34 f1_34 c1_34 be) H := gv_sub [7, 8, 9, 4, 5, 6, 12] hP rfl
        have hDc : va_D (gv_in (gv_WWA cI (ad 7) (ad 8) (ad 9) (ad 4) (ad 5) (ad 6) (ad 12) f2_34 c2_34 f1_34 c1_34 be)) (gv_WWA cI (ad 7) (ad 8) (ad 9) (ad 4) (ad 5) (ad 6) (ad 12) f2_34 c2_34 f1_34 c1_34 be) := gv_D hD [7, 8, 9, 4, 5, 6, 12] (by decide) rfl
        refine gv_ki (wf := (fun (u : (Nat → Int32) × (Nat → Int32)) => (gv_WWA cI (ad 7) (ad 8) (ad 9) (ad 4) (ad 5) (ad 6) (ad 12) u.1 u.2 f1_34 c1_34 be))) (wc := (gv_WWA cI (ad 7) (ad 8) (ad 9) (ad 4) (ad 5) (ad 6) (ad 12) f2_34 c2_34 f1_34 c1_34 be)) [7, 8, 9, 4, 5, 6, 12] (fun _ => rfl) hP hD hS rfl rfl (va_runV (As := [.ref (ad 4), .int si, .ref (ad 12)]) (rest := []) ⟨hx, hb, hml, hown, hts⟩ (kX0_becomeNextOf l dC dI cI cL (ad 7) (ad 8) (ad 9) (ad 4) (ad 5) (ad 6) (ad 12) f2_34 c2_34 f1_34 c1_34 be si (gv_in (gv_WWA cI (ad 7) (ad 8) (ad 9) (ad 4) (ad 5) (ad 6) (ad 12) f2_34 c2_34 f1_34 c1_34 be))) (cwV (rm := gv_R 4 99) 3 hts gX1_repeatsIn_X0_becomeNextOf rfl rfl rfl (by decide +kernel) ⟨Nat.le_of_ble_eq_true rfl, Nat.le_of_ble_eq_true rfl⟩) (gv_preV (ci := 0) hK hPc hDc hN rfl rfl) rfl rfl hl.1 rfl (lv_room (Nat.le_of_ble_eq_true rfl)) dX1_repeatsIn_56 ⟨Nat.zero_le _, Nat.zero_le _⟩) (fun q56 u H locs hw hP hD hS => ?_)
        obtain ⟨f_q56, h_q56⟩ := u
        have he := gv_q3 hw he
        have hP : va_P (dC, dI) vwCl (gv_V cI cL ad f0 c0 f1_34 c1_34 f_q56 h_q56 lo_34 up_34 be si pl cu ge fa) H := hP
        have hD : va_D A (gv_V cI cL ad f0 c0 f1_34 c1_34 f_q56 h_q56 lo_34 up_34 be si pl cu ge fa) := hD
        refine lv_pop hx hb dX1_repeatsIn_59 rfl ?_
        refine lv_aload_n hx hb dX1_repeatsIn_60 rfl (lv_at hl 0 rfl) ?_
        refine va_get (D := (dC, dI)) (ci := 1) (v := .ref (ad 4)) (C := RX1) (T := TX1) (N := 11) hx hb hts inX1 hown hK hP 0 rfl rfl 1 (by decide) (hts (.fieldLink RX1 16 "VineWall" "trial" "LVineWall$Wall;") (List.mem_of_getElem? (i := 2) rfl)) (fun _ h9 => h9) rfl dX1_repeatsIn_61 ?_
        refine lv_aload_n hx hb dX1_repeatsIn_64 rfl (lv_at hl 0 rfl) ?_
        refine va_get (D := (dC, dI)) (ci := 1) (v := .ref (ad 7)) (C := RX1) (T := TX1) (N := 11) hx hb hts inX1 hown hK hP 0 rfl rfl 2 (by decide) (hts (.fieldLink RX1 19 "VineWall" "behind" "LVineWall$Wall;") (List.mem_of_getElem? (i := 3) rfl)) (fun _ h9 => h9) rfl dX1_repeatsIn_65 ?_
        have hPc : va_P (dC, dI) vwCl (gv_WW cI (ad 4) (ad 5) (ad 6) (ad 7) (ad 8) (ad 9) f1_34 c1_34 f_q56 h_q56) H := gv_sub [4, 5, 6, 7, 8, 9] hP rfl
        have hDc : va_D (gv_in (gv_WW cI (ad 4) (ad 5) (ad 6) (ad 7) (ad 8) (ad 9) f1_34 c1_34 f_q56 h_q56)) (gv_WW cI (ad 4) (ad 5) (ad 6) (ad 7) (ad 8) (ad 9) f1_34 c1_34 f_q56 h_q56) := gv_D hD [4, 5, 6, 7, 8, 9] (by decide) rfl
        refine gv_kv (wf := (fun (u : (Nat → Int32) × (Nat → Int32)) => (gv_WW cI (ad 4) (ad 5) (ad 6) (ad 7) (ad 8) (ad 9) u.1 u.2 f_q56 h_q56))) (wc := (gv_WW cI (ad 4) (ad 5) (ad 6) (ad 7) (ad 8) (ad 9) f1_34 c1_34 f_q56 h_q56)) [4, 5, 6, 7, 8, 9] (fun _ => rfl) hP hD hS rfl rfl (va_runV (As := [.ref (ad 7)]) (rest := []) ⟨hx, hb, hml, hown, hts⟩ (kX0_copyFrom l dC dI cI cL (ad 4) (ad 5) (ad 6) (ad 7) (ad 8) (ad 9) f1_34 c1_34 f_q56 h_q56 (gv_in (gv_WW cI (ad 4) (ad 5) (ad 6) (ad 7) (ad 8) (ad 9) f1_34 c1_34 f_q56 h_q56))) (cwV (rm := gv_R 0 0) 1 hts gX1_repeatsIn_X0_copyFrom rfl rfl rfl (by decide +kernel) ⟨Nat.le_of_ble_eq_true rfl, Nat.le_of_ble_eq_true rfl⟩) (gv_preV (ci := 0) hK hPc hDc hN rfl rfl) rfl rfl hl.1 rfl (lv_room (Nat.le_of_ble_eq_true rfl)) dX1_repeatsIn_68 ⟨Nat.zero_le _, Nat.zero_le _⟩) (fun u H locs hw hP hD hS => ?_)
        obtain ⟨f_q68, h_q68⟩ := u
        have he := gv_q2 hw he
        have hP : va_P (dC, dI) vwCl (gv_V cI cL ad f0 c0 f_q68 h_q68 f_q56 h_q56 lo_34 up_34 be si pl cu ge fa) H := hP
        have hD : va_D A (gv_V cI cL ad f0 c0 f_q68 h_q68 f_q56 h_q56 lo_34 up_34 be si pl cu ge fa) := hD
        refine lv_aload_n hx hb dX1_repeatsIn_71 rfl (lv_at hl 0 rfl) ?_
        refine lv_iload_n hx hb dX1_repeatsIn_72 rfl (lv_at hl 2 rfl) ?_
        have hPc : va_P (dC, dI) vwCl (gv_V cI cL ad f0 c0 f_q68 h_q68 f_q56 h_q56 lo_34 up_34 be si pl cu ge fa) H := gv_sub [0, 1, 2, 3, 4, 5, 6, 7, 8, 9, 10, 11, 12] hP rfl
        have hDc : va_D (gv_in (gv_V cI cL ad f0 c0 f_q68 h_q68 f_q56 h_q56 lo_34 up_34 be si pl cu ge fa)) (gv_V cI cL ad f0 c0 f_q68 h_q68 f_q56 h_q56 lo_34 up_34 be si pl cu ge fa) := gv_D hD [0, 1, 2, 3, 4, 5, 6, 7, 8, 9, 10, 11, 12] (by decide) rfl
        refine gv_kv (wf := (fun (u : (Nat → Int64) × (Nat → Int64)) => (gv_V cI cL ad f0 c0 f_q68 h_q68 f_q56 h_q56 u.1 u.2 be si pl cu ge fa))) (wc := (gv_V cI cL ad f0 c0 f_q68 h_q68 f_q56 h_q56 lo_34 up_34 be si pl cu ge fa)) [0, 1, 2, 3, 4, 5, 6, 7, 8, 9, 10, 11, 12] (fun _ => rfl) hP hD hS rfl rfl (va_runV (As := [.int (nI i34)]) (rest := []) ⟨hx, hb, hml, hown, hts⟩ (kX1_remember l dC dI cI cL ad f0 c0 f_q68 h_q68 f_q56 h_q56 lo_34 up_34 be si pl cu ge fa (nI i34) i34 rfl (by omega) (gv_in (gv_V cI cL ad f0 c0 f_q68 h_q68 f_q56 h_q56 lo_34 up_34 be si pl cu ge fa))) (cwV (rm := gv_R 2 45) 1 hts gX1_repeatsIn_X1_remember rfl rfl rfl (by decide +kernel) ⟨Nat.le_of_ble_eq_true rfl, Nat.le_of_ble_eq_true rfl⟩) (gv_preV (ci := 1) hK hPc hDc hN rfl rfl) rfl rfl hl.1 rfl (lv_room (Nat.le_of_ble_eq_true rfl)) dX1_repeatsIn_73 ⟨Nat.zero_le _, Nat.zero_le _⟩) (fun u H locs hw hP hD hS => ?_)
        obtain ⟨lo_q73, up_q73⟩ := u
        have he := gv_q2 hw he
        have hP : va_P (dC, dI) vwCl (gv_V cI cL ad f0 c0 f_q68 h_q68 f_q56 h_q56 lo_q73 up_q73 be si pl cu ge fa) H := hP
        have hD : va_D A (gv_V cI cL ad f0 c0 f_q68 h_q68 f_q56 h_q56 lo_q73 up_q73 be si pl cu ge fa) := hD
        refine lv_aload_n hx hb dX1_repeatsIn_76 rfl (lv_at hl 0 rfl) ?_
        refine lv_iload_n hx hb dX1_repeatsIn_77 rfl (lv_at hl 2 rfl) ?_
        refine lv_iload_n hx hb dX1_repeatsIn_78 rfl (lv_at hl 1 rfl) ?_
        have hPc : va_P (dC, dI) vwCl (gv_V cI cL ad f0 c0 f_q68 h_q68 f_q56 h_q56 lo_q73 up_q73 be si pl cu ge fa) H := gv_sub [0, 1, 2, 3, 4, 5, 6, 7, 8, 9, 10, 11, 12] hP rfl
        have hDc : va_D (gv_in (gv_V cI cL ad f0 c0 f_q68 h_q68 f_q56 h_q56 lo_q73 up_q73 be si pl cu ge fa)) (gv_V cI cL ad f0 c0 f_q68 h_q68 f_q56 h_q56 lo_q73 up_q73 be si pl cu ge fa) := gv_D hD [0, 1, 2, 3, 4, 5, 6, 7, 8, 9, 10, 11, 12] (by decide) rfl
        refine gv_ki (wf := (fun (_ : Unit) => (gv_V cI cL ad f0 c0 f_q68 h_q68 f_q56 h_q56 lo_q73 up_q73 be si pl cu ge fa))) (wc := (gv_V cI cL ad f0 c0 f_q68 h_q68 f_q56 h_q56 lo_q73 up_q73 be si pl cu ge fa)) [0, 1, 2, 3, 4, 5, 6, 7, 8, 9, 10, 11, 12] (fun _ => rfl) hP hD hS rfl rfl (va_runV (As := [.int (nI i34), .int 1]) (rest := []) ⟨hx, hb, hml, hown, hts⟩ (kX1_looksAsBefore l dC dI cI cL ad f0 c0 f_q68 h_q68 f_q56 h_q56 lo_q73 up_q73 be si pl cu ge fa (nI i34) i34 rfl 1 1 (rfl : (1 : Int32) = nI 1) (by omega) (by omega) (gv_in (gv_V cI cL ad f0 c0 f_q68 h_q68 f_q56 h_q56 lo_q73 up_q73 be si pl cu ge fa))) (cwV (rm := gv_R 0 0) 2 hts gX1_repeatsIn_X1_looksAsBefore rfl rfl rfl (by decide +kernel) ⟨Nat.le_of_ble_eq_true rfl, Nat.le_of_ble_eq_true rfl⟩) (gv_preV (ci := 1) hK hPc hDc hN rfl rfl) rfl rfl hl.1 rfl (lv_room (Nat.le_of_ble_eq_true rfl)) dX1_repeatsIn_79 ⟨Nat.zero_le _, Nat.zero_le _⟩) (fun q79 u H locs hw hP hD hS => ?_)
        have he := gv_q hw he
        have hP : va_P (dC, dI) vwCl (gv_V cI cL ad f0 c0 f_q68 h_q68 f_q56 h_q56 lo_q73 up_q73 be si pl cu ge fa) H := hP
        have hD : va_D A (gv_V cI cL ad f0 c0 f_q68 h_q68 f_q56 h_q56 lo_q73 up_q73 be si pl cu ge fa) := hD
        refine lv_if_eq (tgt := 87) hx hb dX1_repeatsIn_82 (by decide) (fun cd82 => ?_) (fun cd82 => ?_)
        · have he := gv_t cd82 he
          refine lv_iinc (v := (nI (i34 + 1))) (lv' := [(2, .int (nI (i34 + 1))), (0, .ref (ad 0)), (1, .int 1)]) hx hb dX1_repeatsIn_87 hl (k := 2) rfl (nI_1 i34) (by decide) rfl (fun ls hl => ?_)
          refine lv_goto (tgt := 34) hx hb dX1_repeatsIn_90 (by decide) ?_
          exact ih34 (i34 + 1) f_q68 h_q68 f_q56 h_q56 lo_q73 up_q73 _ _ _ (by omega) he hP hD hS (lv_sub hl [1, 2, 0] rfl)
        · have he := gv_f cd82 he
          refine lv_iload_n hx hb dX1_repeatsIn_85 rfl (lv_at hl 2 rfl) ?_
          exact kr (nI i34) (f_q68, h_q68, f_q56, h_q56, lo_q73, up_q73) _ _ _ _ he hP hS dX1_repeatsIn_86
    exact L34 60 1 f_q24 h_q24 f2 c2 lo_q29 up_q29 _ _ _ (by omega) he hP hD hS (lv_sub hl [2, 1, 0] rfl)
def lpX1_bestCut_6 (f0_c : Nat → Int32) (c0_c : Nat → Int32) (lo_c : Nat → Int64) (up_c : Nat → Int64) (be_c : Nat → Int32) (si_c : Int32) (pl_c : Int32) (cu_c : Int32) (ge_c : Int32) (fa_c : Int32) : Nat → Nat → (Int32) → (Int32) → (Nat → Int32) → (Nat → Int32) → (Nat → Int32) → (Nat → Int32) → Int32 × (Nat → Int32) × (Nat → Int32) × (Nat → Int32) × (Nat → Int32)
  | 0, _, x1_6, _, f1_6, c1_6, f2_6, c2_6 => (x1_6, f1_6, c1_6, f2_6, c2_6)
  | n6 + 1, i6, x1_6, x2_6, f1_6, c1_6, f2_6, c2_6 => gv_b (spX0_hasLeafAt f0_c c0_c ((nI i6) / 12) ((nI i6) - (nI i6) / 12 * 12)) (fun q32 => (if q32 = 0 then lpX1_bestCut_6 f0_c c0_c lo_c up_c be_c si_c pl_c cu_c ge_c fa_c n6 (i6 + 1) x1_6 x2_6 f1_6 c1_6 f2_6 c2_6 else gv_b5 (spX1_litBehindCut f0_c c0_c f1_6 c1_6 f2_6 c2_6 lo_c up_c be_c si_c pl_c cu_c ge_c fa_c ((nI i6) / 12) ((nI i6) - (nI i6) / 12 * 12)) (fun q43 f1_q43 c1_q43 f2_q43 c2_q43 => (if q43 ≤ x2_6 then lpX1_bestCut_6 f0_c c0_c lo_c up_c be_c si_c pl_c cu_c ge_c fa_c n6 (i6 + 1) x1_6 x2_6 f1_q43 c1_q43 f2_q43 c2_q43 else lpX1_bestCut_6 f0_c c0_c lo_c up_c be_c si_c pl_c cu_c ge_c fa_c n6 (i6 + 1) (nI i6) q43 f1_q43 c1_q43 f2_q43 c2_q43))))
theorem lpX1_bestCut_6_0 (f0_c : Nat → Int32) (c0_c : Nat → Int32) (lo_c : Nat → Int64) (up_c : Nat → Int64) (be_c : Nat → Int32) (si_c : Int32) (pl_c : Int32) (cu_c : Int32) (ge_c : Int32) (fa_c : Int32) (i6 : Nat) (x1_6 : Int32) (x2_6 : Int32) (f1_6 : Nat → Int32) (c1_6 : Nat → Int32) (f2_6 : Nat → Int32) (c2_6 : Nat → Int32) : lpX1_bestCut_6 f0_c c0_c lo_c up_c be_c si_c pl_c cu_c ge_c fa_c 0 i6 x1_6 x2_6 f1_6 c1_6 f2_6 c2_6 = (x1_6, f1_6, c1_6, f2_6, c2_6) := rfl
theorem lpX1_bestCut_6_s (f0_c : Nat → Int32) (c0_c : Nat → Int32) (lo_c : Nat → Int64) (up_c : Nat → Int64) (be_c : Nat → Int32) (si_c : Int32) (pl_c : Int32) (cu_c : Int32) (ge_c : Int32) (fa_c : Int32) (n6 : Nat) (i6 : Nat) (x1_6 : Int32) (x2_6 : Int32) (f1_6 : Nat → Int32) (c1_6 : Nat → Int32) (f2_6 : Nat → Int32) (c2_6 : Nat → Int32) : lpX1_bestCut_6 f0_c c0_c lo_c up_c be_c si_c pl_c cu_c ge_c fa_c (n6 + 1) i6 x1_6 x2_6 f1_6 c1_6 f2_6 c2_6 = gv_b (spX0_hasLeafAt f0_c c0_c ((nI i6) / 12) ((nI i6) - (nI i6) / 12 * 12)) (fun q32 => (if q32 = 0 then lpX1_bestCut_6 f0_c c0_c lo_c up_c be_c si_c pl_c cu_c ge_c fa_c n6 (i6 + 1) x1_6 x2_6 f1_6 c1_6 f2_6 c2_6 else gv_b5 (spX1_litBehindCut f0_c c0_c f1_6 c1_6 f2_6 c2_6 lo_c up_c be_c si_c pl_c cu_c ge_c fa_c ((nI i6) / 12) ((nI i6) - (nI i6) / 12 * 12)) (fun q43 f1_q43 c1_q43 f2_q43 c2_q43 => (if q43 ≤ x2_6 then lpX1_bestCut_6 f0_c c0_c lo_c up_c be_c si_c pl_c cu_c ge_c fa_c n6 (i6 + 1) x1_6 x2_6 f1_q43 c1_q43 f2_q43 c2_q43 else lpX1_bestCut_6 f0_c c0_c lo_c up_c be_c si_c pl_c cu_c ge_c fa_c n6 (i6 + 1) (nI i6) q43 f1_q43 c1_q43 f2_q43 c2_q43)))) := rfl
def spX1_bestCut (f0 : Nat → Int32) (c0 : Nat → Int32) (f1 : Nat → Int32) (c1 : Nat → Int32) (f2 : Nat → Int32) (c2 : Nat → Int32) (lo : Nat → Int64) (up : Nat → Int64) (be : Nat → Int32) (si : Int32) (pl : Int32) (cu : Int32) (ge : Int32) (fa : Int32) : Int32 × (Nat → Int32) × (Nat → Int32) × (Nat → Int32) × (Nat → Int32) := lpX1_bestCut_6 f0 c0 lo up be si pl cu ge fa 96 0 (-1) (-1) f1 c1 f2 c2
theorem spX1_bestCut_e (f0 : Nat → Int32) (c0 : Nat → Int32) (f1 : Nat → Int32) (c1 : Nat → Int32) (f2 : Nat → Int32) (c2 : Nat → Int32) (lo : Nat → Int64) (up : Nat → Int64) (be : Nat → Int32) (si : Int32) (pl : Int32) (cu : Int32) (ge : Int32) (fa : Int32) : spX1_bestCut f0 c0 f1 c1 f2 c2 lo up be si pl cu ge fa = lpX1_bestCut_6 f0 c0 lo up be si pl cu ge fa 96 0 (-1) (-1) f1 c1 f2 c2 := rfl
set_option maxHeartbeats 4000000 in
set_option maxRecDepth 100000 in
theorem kX1_bestCut (l : Launch) (dC : Nat → ClassId) (dI : Nat → Nat → Nat) (cI cL : ClassId) (ad : Nat → Nat) (f0 : Nat → Int32) (c0 : Nat → Int32) (f1 : Nat → Int32) (c1 : Nat → Int32) (f2 : Nat → Int32) (c2 : Nat → Int32) (lo : Nat → Int64) (up : Nat → Int64) (be : Nat → Int32) (si : Int32) (pl : Int32) (cu : Int32) (ge : Int32) (fa : Int32) : gv_Mi l yX1_bestCut wsX1_bestCut 6 146 (dC, dI) [(cI, .int), (cL, .long)] [.ref (ad 0)] (gv_V cI cL ad f0 c0 f1 c1 f2 c2 lo up be si pl cu ge fa) (fun (r : Int32) (u : (Nat → Int32) × (Nat → Int32) × (Nat → Int32) × (Nat → Int32)) => (r, u) = spX1_bestCut f0 c0 f1 c1 f2 c2 lo up be si pl cu ge fa) (fun (u : (Nat → Int32) × (Nat → Int32) × (Nat → Int32) × (Nat → Int32)) => (gv_V cI cL ad f0 c0 u.1 u.2.1 u.2.2.1 u.2.2.2 lo up be si pl cu ge fa)) := by
  refine gv_ofi (cc := cX1_bestCut) (maxL := 7) (own := RX1) (by decide) rfl (Nat.le_of_ble_eq_true rfl) rfl ?_
  intro A p e s m args below meth c Q ls H locs hx hb hml hts hown hP hK hD hN hS hl kr
  have inX0 : ∀ w ∈ wsX00, w ∈ wsX1_bestCut := (fun _ h => List.mem_cons_of_mem _ (List.mem_append_right _ h))
  have inX1 : ∀ w ∈ wsX10, w ∈ wsX1_bestCut := (fun _ h => List.mem_cons_of_mem _ (List.mem_append_left _ (List.mem_append_right _ h)))
  have hl : lv_has ls 7 [(0, .ref (ad 0))] := hl
  have he := (spX1_bestCut_e f0 c0 f1 c1 f2 c2 lo up be si pl cu ge fa).symm
  refine lv_iconst (v := (-1)) hx hb dX1_bestCut_0 (by decide) ?_
  refine lv_istore_n (lv' := [(1, .int (-1)), (0, .ref (ad 0))]) hx hb dX1_bestCut_1 rfl hl (by decide) rfl (fun ls hl => ?_)
  refine lv_iconst (v := (-1)) hx hb dX1_bestCut_2 (by decide) ?_
  refine lv_istore_n (lv' := [(2, .int (-1)), (1, .int (-1)), (0, .ref (ad 0))]) hx hb dX1_bestCut_3 rfl hl (by decide) rfl (fun ls hl => ?_)
  refine lv_iconst (v := 0) hx hb dX1_bestCut_4 (by decide) ?_
  refine lv_istore_n (lv' := [(3, .int 0), (2, .int (-1)), (1, .int (-1)), (0, .ref (ad 0))]) hx hb dX1_bestCut_5 rfl hl (by decide) rfl (fun ls hl => ?_)
  have L6 : ∀ (n6 i6 : Nat) (x1_6 : Int32) (x2_6 : Int32) (f1_6 : Nat → Int32) (c1_6 : Nat → Int32) (f2_6 : Nat → Int32) (c2_6 : Nat → Int32) (H : Heap) (locs : List Loc) (ls : Array Slot), i6 + n6 = 96 → lpX1_bestCut_6 f0 c0 lo up be si pl cu ge fa n6 i6 x1_6 x2_6 f1_6 c1_6 f2_6 c2_6 = spX1_bestCut f0 c0 f1 c1 f2 c2 lo up be si pl cu ge fa → va_P (dC, dI) vwCl (gv_V cI cL ad f0 c0 f1_6 c1_6 f2_6 c2_6 lo up be si pl cu ge fa) H → va_D A (gv_V cI cL ad f0 c0 f1_6 c1_6 f2_6 c2_6 lo up be si pl cu ge fa) → va_S A s.heap H locs → lv_has ls 7 [(0, .ref (ad 0)), (1, .int x1_6), (2, .int x2_6), (3, .int (nI i6))] → W p l e (gv_R 6 146) s m args below meth c H locs 0 0 Q (F0 m 6 ls []) := by
    intro n6
    induction n6 with
    | zero =>
      intro i6 x1_6 x2_6 f1_6 c1_6 f2_6 c2_6 H locs ls hi6 he hP hD hS hl
      have he := (lpX1_bestCut_6_0 _ _ _ _ _ _ _ _ _ _ _ _ _ _ _ _ _).symm.trans he
      refine lv_iload_n hx hb dX1_bestCut_6 rfl (lv_at hl 3 rfl) ?_
      refine lv_bipush (v := 96) hx hb dX1_bestCut_7 (by decide) ?_
      refine lv_icmp_ge (tgt := 65) hx hb dX1_bestCut_9 (by decide) (fun _ => ?_) (fun c => absurd c (gv_ge (N := 96) rfl (rfl : (96 : Int32) = nI 96) (by omega) (by omega)))
      refine lv_iload_n hx hb dX1_bestCut_65 rfl (lv_at hl 1 rfl) ?_
      exact kr x1_6 (f1_6, c1_6, f2_6, c2_6) _ _ _ _ he hP hS dX1_bestCut_66
    | succ n6 ih6 =>
      intro i6 x1_6 x2_6 f1_6 c1_6 f2_6 c2_6 H locs ls hi6 he hP hD hS hl
      have he := (lpX1_bestCut_6_s _ _ _ _ _ _ _ _ _ _ _ _ _ _ _ _ _ _).symm.trans he
      refine lv_iload_n hx hb dX1_bestCut_6 rfl (lv_at hl 3 rfl) ?_
      refine lv_bipush (v := 96) hx hb dX1_bestCut_7 (by decide) ?_
      refine lv_icmp_ge (tgt := 65) hx hb dX1_bestCut_9 (by decide) (fun c => absurd c (gv_lt (N := 96) rfl (rfl : (96 : Int32) = nI 96) (by omega) (by omega))) (fun _ => ?_)
      refine lv_iload_n hx hb dX1_bestCut_12 rfl (lv_at hl 3 rfl) ?_
      refine lv_bipush (v := 12) hx hb dX1_bestCut_13 (by decide) ?_
      refine lv_idiv hx hb dX1_bestCut_15 (by decide) ?_
      refine lv_istore (lv' := [(4, .int ((nI i6) / 12)), (0, .ref (ad 0)), (1, .int x1_6), (2, .int x2_6), (3, .int (nI i6))]) hx hb dX1_bestCut_16 hl (by decide) rfl (fun ls hl => ?_)
      refine lv_iload_n hx hb dX1_bestCut_18 rfl (lv_at hl 4 rfl) ?_
      refine lv_bipush (v := 12) hx hb dX1_bestCut_19 (by decide) ?_
      refine lv_irem hx hb dX1_bestCut_21 (by decide) ?_
      refine lv_istore (lv' := [(5, .int ((nI i6) - (nI i6) / 12 * 12)), (4, .int ((nI i6) / 12)), (0, .ref (ad 0)), (1, .int x1_6), (2, .int x2_6), (3, .int (nI i6))]) hx hb dX1_bestCut_22 hl (by decide) rfl (fun ls hl => ?_)
      refine lv_aload_n hx hb dX1_bestCut_24 rfl (lv_at hl 2 rfl) ?_
      refine va_get (D := (dC, dI)) (ci := 1) (v := .ref (ad 1)) (C := RX1) (T := TX1) (N := 11) hx hb hts inX1 hown hK hP 0 rfl rfl 0 (by decide) (hts (.fieldLink RX1 10 "VineWall" "wall" "LVineWall$Wall;") (List.mem_of_getElem? (i := 1) rfl)) (fun _ h9 => h9) rfl dX1_bestCut_25 ?_
      refine lv_iload hx hb dX1_bestCut_28 (lv_at hl 1 rfl) ?_
      refine lv_iload hx hb dX1_bestCut_30 (lv_at hl 0 rfl) ?_
      have hPc : va_P (dC, dI) vwCl (gv_W cI (ad 1) (ad 2) (ad 3) f0 c0) H := gv_sub [1, 2, 3] hP rfl
      have hDc : va_D (gv_in (gv_W cI (ad 1) (ad 2) (ad 3) f0 c0)) (gv_W cI (ad 1) (ad 2) (ad 3) f0 c0) := gv_D hD [1, 2, 3] (by decide) rfl
      refine gv_ki (wf := (fun (_ : Unit) => (gv_W cI (ad 1) (ad 2) (ad 3) f0 c0))) (wc := (gv_W cI (ad 1) (ad 2) (ad 3) f0 c0)) [1, 2, 3] (fun _ => rfl) hP hD hS rfl rfl (va_runV (As := [.int ((nI i6) / 12), .int ((nI i6) - (nI i6) / 12 * 12)]) (rest := []) ⟨hx, hb, hml, hown, hts⟩ (kX0_hasLeafAt l dC dI cI cL (ad 1) (ad 2) (ad 3) f0 c0 ((nI i6) / 12) ((nI i6) - (nI i6) / 12 * 12) (gv_in (gv_W cI (ad 1) (ad 2) (ad 3) f0 c0))) (cwV (rm := gv_R 1 21) 2 hts gX1_bestCut_X0_hasLeafAt rfl rfl rfl (by decide +kernel) ⟨Nat.le_of_ble_eq_true rfl, Nat.le_of_ble_eq_true rfl⟩) (gv_preV (ci := 0) hK hPc hDc hN rfl rfl) rfl rfl hl.1 rfl (lv_room (Nat.le_of_ble_eq_true rfl)) dX1_bestCut_32 ⟨Nat.zero_le _, Nat.zero_le _⟩) (fun q32 u H locs hw hP hD hS => ?_)
      have he := gv_q hw he
      have hP : va_P (dC, dI) vwCl (gv_V cI cL ad f0 c0 f1_6 c1_6 f2_6 c2_6 lo up be si pl cu ge fa) H := hP
      have hD : va_D A (gv_V cI cL ad f0 c0 f1_6 c1_6 f2_6 c2_6 lo up be si pl cu ge fa) := hD
      refine lv_if_eq (tgt := 59) hx hb dX1_bestCut_35 (by decide) (fun cd35 => ?_) (fun cd35 => ?_)
      · have he := gv_t cd35 he
        refine lv_iinc (v := (nI (i6 + 1))) (lv' := [(3, .int (nI (i6 + 1))), (5, .int ((nI i6) - (nI i6) / 12 * 12)), (4, .int ((nI i6) / 12)), (0, .ref (ad 0)), (1, .int x1_6), (2, .int x2_6)]) hx hb dX1_bestCut_59 hl (k := 5) rfl (nI_1 i6) (by decide) rfl (fun ls hl => ?_)
        refine lv_goto (tgt := 6) hx hb dX1_bestCut_62 (by decide) ?_
        exact ih6 (i6 + 1) x1_6 x2_6 f1_6 c1_6 f2_6 c2_6 _ _ _ (by omega) he hP hD hS (lv_sub hl [3, 4, 5, 0] rfl)
      · have he := gv_f cd35 he
        refine lv_aload_n hx hb dX1_bestCut_38 rfl (lv_at hl 2 rfl) ?_
        refine lv_iload hx hb dX1_bestCut_39 (lv_at hl 1 rfl) ?_
        refine lv_iload hx hb dX1_bestCut_41 (lv_at hl 0 rfl) ?_
        have hPc : va_P (dC, dI) vwCl (gv_V cI cL ad f0 c0 f1_6 c1_6 f2_6 c2_6 lo up be si pl cu ge fa) H := gv_sub [0, 1, 2, 3, 4, 5, 6, 7, 8, 9, 10, 11, 12] hP rfl
        have hDc : va_D (gv_in (gv_V cI cL ad f0 c0 f1_6 c1_6 f2_6 c2_6 lo up be si pl cu ge fa)) (gv_V cI cL ad f0 c0 f1_6 c1_6 f2_6 c2_6 lo up be si pl cu ge fa) := gv_D hD [0, 1, 2, 3, 4, 5, 6, 7, 8, 9, 10, 11, 12] (by decide) rfl
        refine gv_ki (wf := (fun (u : (Nat → Int32) × (Nat → Int32) × (Nat → Int32) × (Nat → Int32)) => (gv_V cI cL ad f0 c0 u.1 u.2.1 u.2.2.1 u.2.2.2 lo up be si pl cu ge fa))) (wc := (gv_V cI cL ad f0 c0 f1_6 c1_6 f2_6 c2_6 lo up be si pl cu ge fa)) [0, 1, 2, 3, 4, 5, 6, 7, 8, 9, 10, 11, 12] (fun _ => rfl) hP hD hS rfl rfl (va_runV (As := [.int ((nI i6) / 12), .int ((nI i6) - (nI i6) / 12 * 12)]) (rest := []) ⟨hx, hb, hml, hown, hts⟩ (kX1_litBehindCut l dC dI cI cL ad f0 c0 f1_6 c1_6 f2_6 c2_6 lo up be si pl cu ge fa ((nI i6) / 12) ((nI i6) - (nI i6) / 12 * 12) (gv_in (gv_V cI cL ad f0 c0 f1_6 c1_6 f2_6 c2_6 lo up be si pl cu ge fa))) (cwV (rm := gv_R 5 124) 2 hts gX1_bestCut_X1_litBehindCut rfl rfl rfl (by decide +kernel) ⟨Nat.le_of_ble_eq_true rfl, Nat.le_of_ble_eq_true rfl⟩) (gv_preV (ci := 1) hK hPc hDc hN rfl rfl) rfl rfl hl.1 rfl (lv_room (Nat.le_of_ble_eq_true rfl)) dX1_bestCut_43 ⟨Nat.zero_le _, Nat.zero_le _⟩) (fun q43 u H locs hw hP hD hS => ?_)
        obtain ⟨f1_q43, c1_q43, f2_q43, c2_q43⟩ := u
        have he := gv_q5 hw he
        have hP : va_P (dC, dI) vwCl (gv_V cI cL ad f0 c0 f1_q43 c1_q43 f2_q43 c2_q43 lo up be si pl cu ge fa) H := hP
        have hD : va_D A (gv_V cI cL ad f0 c0 f1_q43 c1_q43 f2_q43 c2_q43 lo up be si pl cu ge fa) := hD
        refine lv_istore (lv' := [(6, .int q43), (5, .int ((nI i6) - (nI i6) / 12 * 12)), (4, .int ((nI i6) / 12)), (0, .ref (ad 0)), (1, .int x1_6), (2, .int x2_6), (3, .int (nI i6))]) hx hb dX1_bestCut_46 hl (by decide) rfl (fun ls hl => ?_)
        refine lv_iload hx hb dX1_bestCut_48 (lv_at hl 0 rfl) ?_
        refine lv_iload_n hx hb dX1_bestCut_50 rfl (lv_at hl 5 rfl) ?_
        refine lv_icmp_le (tgt := 59) hx hb dX1_bestCut_51 (by decide) (fun cd51 => ?_) (fun cd51 => ?_)
        · have he := gv_t cd51 he
          refine lv_iinc (v := (nI (i6 + 1))) (lv' := [(3, .int (nI (i6 + 1))), (6, .int q43), (5, .int ((nI i6) - (nI i6) / 12 * 12)), (4, .int ((nI i6) / 12)), (0, .ref (ad 0)), (1, .int x1_6), (2, .int x2_6)]) hx hb dX1_bestCut_59 hl (k := 6) rfl (nI_1 i6) (by decide) rfl (fun ls hl => ?_)
          refine lv_goto (tgt := 6) hx hb dX1_bestCut_62 (by decide) ?_
          exact ih6 (i6 + 1) x1_6 x2_6 f1_q43 c1_q43 f2_q43 c2_q43 _ _ _ (by omega) he hP hD hS (lv_sub hl [4, 5, 6, 0] rfl)
        · have he := gv_f cd51 he
          refine lv_iload hx hb dX1_bestCut_54 (lv_at hl 0 rfl) ?_
          refine lv_istore_n (lv' := [(2, .int q43), (6, .int q43), (5, .int ((nI i6) - (nI i6) / 12 * 12)), (4, .int ((nI i6) / 12)), (0, .ref (ad 0)), (1, .int x1_6), (3, .int (nI i6))]) hx hb dX1_bestCut_56 rfl hl (by decide) rfl (fun ls hl => ?_)
          refine lv_iload_n hx hb dX1_bestCut_57 rfl (lv_at hl 6 rfl) ?_
          refine lv_istore_n (lv' := [(1, .int (nI i6)), (2, .int q43), (6, .int q43), (5, .int ((nI i6) - (nI i6) / 12 * 12)), (4, .int ((nI i6) / 12)), (0, .ref (ad 0)), (3, .int (nI i6))]) hx hb dX1_bestCut_58 rfl hl (by decide) rfl (fun ls hl => ?_)
          refine lv_iinc (v := (nI (i6 + 1))) (lv' := [(3, .int (nI (i6 + 1))), (1, .int (nI i6)), (2, .int q43), (6, .int q43), (5, .int ((nI i6) - (nI i6) / 12 * 12)), (4, .int ((nI i6) / 12)), (0, .ref (ad 0))]) hx hb dX1_bestCut_59 hl (k := 6) rfl (nI_1 i6) (by decide) rfl (fun ls hl => ?_)
          refine lv_goto (tgt := 6) hx hb dX1_bestCut_62 (by decide) ?_
          exact ih6 (i6 + 1) (nI i6) q43 f1_q43 c1_q43 f2_q43 c2_q43 _ _ _ (by omega) he hP hD hS (lv_sub hl [6, 1, 2, 0] rfl)
  exact L6 96 0 (-1) (-1) f1 c1 f2 c2 _ _ _ (by omega) he hP hD hS (lv_sub hl [3, 2, 1, 0] rfl)
