def spX0_bearsLeafNext (f : Nat → Int32) (h : Nat → Int32) (w1 : Nat) (p2 : Int32) (p3 : Int32) (p4 : Int32) : Int32 := (if p3 = 0 then 0 else gv_b (spX0_hasCutAt f h (nI w1) p2) (fun q7 => (if q7 = 0 then gv_b (spX0_shadeAt f h (w1 + 1) p2) (fun q18 => gv_b (spX0_hasLeafAt f h (nI w1) p2) (fun q26 => (if q26 = 0 then (if 2 < p3 then 0 else (if 3 < p4 then 0 else (if 2 < q18 then 0 else 1))) else (if 5 < p4 then 0 else (if 4 < q18 then 0 else 1))))) else 0)))
theorem spX0_bearsLeafNext_e (f : Nat → Int32) (h : Nat → Int32) (w1 : Nat) (p2 : Int32) (p3 : Int32) (p4 : Int32) : spX0_bearsLeafNext f h w1 p2 p3 p4 = (if p3 = 0 then 0 else gv_b (spX0_hasCutAt f h (nI w1) p2) (fun q7 => (if q7 = 0 then gv_b (spX0_shadeAt f h (w1 + 1) p2) (fun q18 => gv_b (spX0_hasLeafAt f h (nI w1) p2) (fun q26 => (if q26 = 0 then (if 2 < p3 then 0 else (if 3 < p4 then 0 else (if 2 < q18 then 0 else 1))) else (if 5 < p4 then 0 else (if 4 < q18 then 0 else 1))))) else 0))) := rfl
set_option maxHeartbeats 4000000 in
set_option maxRecDepth 100000 in
theorem kX0_bearsLeafNext (l : Launch) (dC : Nat → ClassId) (dI : Nat → Nat → Nat) (cI cL : ClassId) (h0 : Nat) (h1 : Nat) (h2 : Nat) (f : Nat → Int32) (h : Nat → Int32) (p1 : Int32) (w1 : Nat) (hw1 : p1 = nI w1) (p2 : Int32) (p3 : Int32) (p4 : Int32) (hy0 : w1 < 8) : gv_Mi l yX0_bearsLeafNext wsX0_bearsLeafNext 2 45 (dC, dI) [(cI, .int), (cL, .long)] [.ref h0, .int p1, .int p2, .int p3, .int p4] (gv_W cI h0 h1 h2 f h) (fun (r : Int32) (_ : Unit) => r = spX0_bearsLeafNext f h w1 p2 p3 p4) (fun (_ : Unit) => (gv_W cI h0 h1 h2 f h)) := by
  subst hw1
  refine gv_ofz (cc := cX0_bearsLeafNext) (maxL := 6) (own := RX0) (ty := .boolean) (by decide) rfl (Nat.le_of_ble_eq_true rfl) rfl ?_
  intro A p e s m args below meth c Q ls H locs hx hb hml hts hown hP hK hD hN hS hl kr
  have inX0 : ∀ w ∈ wsX00, w ∈ wsX0_bearsLeafNext := (fun _ h => List.mem_cons_of_mem _ (List.mem_append_right _ h))
  have hl : lv_has ls 6 [(0, .ref h0), (1, .int (nI w1)), (2, .int p2), (3, .int p3), (4, .int p4)] := hl
  have he := (spX0_bearsLeafNext_e f h w1 p2 p3 p4).symm
  refine lv_iload_n hx hb dX0_bearsLeafNext_0 rfl (lv_at hl 3 rfl) ?_
  refine lv_if_eq (tgt := 13) hx hb dX0_bearsLeafNext_1 (by decide) (fun cd1 => ?_) (fun cd1 => ?_)
  · have he := gv_t cd1 he
    refine lv_iconst (v := 0) hx hb dX0_bearsLeafNext_13 (by decide) ?_
    exact kr 0 () _ _ _ _ rfl he hP hS dX0_bearsLeafNext_14
  · have he := gv_f cd1 he
    refine lv_aload_n hx hb dX0_bearsLeafNext_4 rfl (lv_at hl 0 rfl) ?_
    refine lv_iload_n hx hb dX0_bearsLeafNext_5 rfl (lv_at hl 1 rfl) ?_
    refine lv_iload_n hx hb dX0_bearsLeafNext_6 rfl (lv_at hl 2 rfl) ?_
    have hPc : va_P (dC, dI) vwCl (gv_W cI h0 h1 h2 f h) H := gv_sub [0, 1, 2] hP rfl
    have hDc : va_D (gv_in (gv_W cI h0 h1 h2 f h)) (gv_W cI h0 h1 h2 f h) := gv_D hD [0, 1, 2] (by decide) rfl
    refine gv_ki (wf := (fun (_ : Unit) => (gv_W cI h0 h1 h2 f h))) (wc := (gv_W cI h0 h1 h2 f h)) [0, 1, 2] (fun _ => rfl) hP hD hS rfl rfl (va_runV (As := [.int (nI w1), .int p2]) (rest := []) ⟨hx, hb, hml, hown, hts⟩ (kX0_hasCutAt l dC dI cI cL h0 h1 h2 f h (nI w1) p2 (gv_in (gv_W cI h0 h1 h2 f h))) (cwV (rm := gv_R 0 0) 2 hts gX0_bearsLeafNext_X0_hasCutAt rfl rfl rfl (by decide +kernel) ⟨Nat.le_of_ble_eq_true rfl, Nat.le_of_ble_eq_true rfl⟩) (gv_preV (ci := 0) hK hPc hDc hN rfl rfl) rfl rfl hl.1 rfl (lv_room (Nat.le_of_ble_eq_true rfl)) dX0_bearsLeafNext_7 ⟨Nat.zero_le _, Nat.zero_le _⟩) (fun q7 u H locs hw hP hD hS => ?_)
    have he := gv_q hw he
    have hP : va_P (dC, dI) vwCl (gv_W cI h0 h1 h2 f h) H := hP
    have hD : va_D A (gv_W cI h0 h1 h2 f h) := hD
    refine lv_if_eq (tgt := 15) hx hb dX0_bearsLeafNext_10 (by decide) (fun cd10 => ?_) (fun cd10 => ?_)
    · have he := gv_t cd10 he
      refine lv_aload_n hx hb dX0_bearsLeafNext_15 rfl (lv_at hl 0 rfl) ?_
      refine lv_iload_n hx hb dX0_bearsLeafNext_16 rfl (lv_at hl 1 rfl) ?_
      refine lv_iload_n hx hb dX0_bearsLeafNext_17 rfl (lv_at hl 2 rfl) ?_
      have hPc : va_P (dC, dI) vwCl (gv_W cI h0 h1 h2 f h) H := gv_sub [0, 1, 2] hP rfl
      have hDc : va_D (gv_in (gv_W cI h0 h1 h2 f h)) (gv_W cI h0 h1 h2 f h) := gv_D hD [0, 1, 2] (by decide) rfl
      refine gv_ki (wf := (fun (_ : Unit) => (gv_W cI h0 h1 h2 f h))) (wc := (gv_W cI h0 h1 h2 f h)) [0, 1, 2] (fun _ => rfl) hP hD hS rfl rfl (va_runV (As := [.int (nI w1), .int p2]) (rest := []) ⟨hx, hb, hml, hown, hts⟩ (kX0_shadeAt l dC dI cI cL h0 h1 h2 f h (nI w1) (w1 + 1) (gn_add rfl (rfl : (1 : Int32) = nI 1)) p2 (by omega) (gv_in (gv_W cI h0 h1 h2 f h))) (cwV (rm := gv_R 1 21) 2 hts gX0_bearsLeafNext_X0_shadeAt rfl rfl rfl (by decide +kernel) ⟨Nat.le_of_ble_eq_true rfl, Nat.le_of_ble_eq_true rfl⟩) (gv_preV (ci := 0) hK hPc hDc hN rfl rfl) rfl rfl hl.1 rfl (lv_room (Nat.le_of_ble_eq_true rfl)) dX0_bearsLeafNext_18 ⟨Nat.zero_le _, Nat.zero_le _⟩) (fun q18 u H locs hw hP hD hS => ?_)
      have he := gv_q hw he
      have hP : va_P (dC, dI) vwCl (gv_W cI h0 h1 h2 f h) H := hP
      have hD : va_D A (gv_W cI h0 h1 h2 f h) := hD
      refine lv_istore (lv' := [(5, .int q18), (0, .ref h0), (1, .int (nI w1)), (2, .int p2), (3, .int p3), (4, .int p4)]) hx hb dX0_bearsLeafNext_21 hl (by decide) rfl (fun ls hl => ?_)
      refine lv_aload_n hx hb dX0_bearsLeafNext_23 rfl (lv_at hl 1 rfl) ?_
      refine lv_iload_n hx hb dX0_bearsLeafNext_24 rfl (lv_at hl 2 rfl) ?_
      refine lv_iload_n hx hb dX0_bearsLeafNext_25 rfl (lv_at hl 3 rfl) ?_
      have hPc : va_P (dC, dI) vwCl (gv_W cI h0 h1 h2 f h) H := gv_sub [0, 1, 2] hP rfl
      have hDc : va_D (gv_in (gv_W cI h0 h1 h2 f h)) (gv_W cI h0 h1 h2 f h) := gv_D hD [0, 1, 2] (by decide) rfl
      refine gv_ki (wf := (fun (_ : Unit) => (gv_W cI h0 h1 h2 f h))) (wc := (gv_W cI h0 h1 h2 f h)) [0, 1, 2] (fun _ => rfl) hP hD hS rfl rfl (va_runV (As := [.int (nI w1), .int p2]) (rest := []) ⟨hx, hb, hml, hown, hts⟩ (kX0_hasLeafAt l dC dI cI cL h0 h1 h2 f h (nI w1) p2 (gv_in (gv_W cI h0 h1 h2 f h))) (cwV (rm := gv_R 1 21) 2 hts gX0_bearsLeafNext_X0_hasLeafAt rfl rfl rfl (by decide +kernel) ⟨Nat.le_of_ble_eq_true rfl, Nat.le_of_ble_eq_true rfl⟩) (gv_preV (ci := 0) hK hPc hDc hN rfl rfl) rfl rfl hl.1 rfl (lv_room (Nat.le_of_ble_eq_true rfl)) dX0_bearsLeafNext_26 ⟨Nat.zero_le _, Nat.zero_le _⟩) (fun q26 u H locs hw hP hD hS => ?_)
      have he := gv_q hw he
      have hP : va_P (dC, dI) vwCl (gv_W cI h0 h1 h2 f h) H := hP
      have hD : va_D A (gv_W cI h0 h1 h2 f h) := hD
      refine lv_if_eq (tgt := 50) hx hb dX0_bearsLeafNext_29 (by decide) (fun cd29 => ?_) (fun cd29 => ?_)
      · have he := gv_t cd29 he
        refine lv_iload_n hx hb dX0_bearsLeafNext_50 rfl (lv_at hl 4 rfl) ?_
        refine lv_iconst (v := 2) hx hb dX0_bearsLeafNext_51 (by decide) ?_
        refine lv_icmp_gt (tgt := 71) hx hb dX0_bearsLeafNext_52 (by decide) (fun cd52 => ?_) (fun cd52 => ?_)
        · have he := gv_t cd52 he
          refine lv_iconst (v := 0) hx hb dX0_bearsLeafNext_71 (by decide) ?_
          exact kr 0 () _ _ _ _ rfl he hP hS dX0_bearsLeafNext_72
        · have he := gv_f cd52 he
          refine lv_iload hx hb dX0_bearsLeafNext_55 (lv_at hl 5 rfl) ?_
          refine lv_iconst (v := 3) hx hb dX0_bearsLeafNext_57 (by decide) ?_
          refine lv_icmp_gt (tgt := 71) hx hb dX0_bearsLeafNext_58 (by decide) (fun cd58 => ?_) (fun cd58 => ?_)
          · have he := gv_t cd58 he
            refine lv_iconst (v := 0) hx hb dX0_bearsLeafNext_71 (by decide) ?_
            exact kr 0 () _ _ _ _ rfl he hP hS dX0_bearsLeafNext_72
          · have he := gv_f cd58 he
            refine lv_iload hx hb dX0_bearsLeafNext_61 (lv_at hl 0 rfl) ?_
            refine lv_iconst (v := 2) hx hb dX0_bearsLeafNext_63 (by decide) ?_
            refine lv_icmp_gt (tgt := 71) hx hb dX0_bearsLeafNext_64 (by decide) (fun cd64 => ?_) (fun cd64 => ?_)
            · have he := gv_t cd64 he
              refine lv_iconst (v := 0) hx hb dX0_bearsLeafNext_71 (by decide) ?_
              exact kr 0 () _ _ _ _ rfl he hP hS dX0_bearsLeafNext_72
            · have he := gv_f cd64 he
              refine lv_iconst (v := 1) hx hb dX0_bearsLeafNext_67 (by decide) ?_
              refine lv_goto (tgt := 72) hx hb dX0_bearsLeafNext_68 (by decide) ?_
              exact kr 1 () _ _ _ _ rfl he hP hS dX0_bearsLeafNext_72
      · have he := gv_f cd29 he
        refine lv_iload hx hb dX0_bearsLeafNext_32 (lv_at hl 5 rfl) ?_
        refine lv_iconst (v := 5) hx hb dX0_bearsLeafNext_34 (by decide) ?_
        refine lv_icmp_gt (tgt := 48) hx hb dX0_bearsLeafNext_35 (by decide) (fun cd35 => ?_) (fun cd35 => ?_)
        · have he := gv_t cd35 he
          refine lv_iconst (v := 0) hx hb dX0_bearsLeafNext_48 (by decide) ?_
          exact kr 0 () _ _ _ _ rfl he hP hS dX0_bearsLeafNext_49
        · have he := gv_f cd35 he
          refine lv_iload hx hb dX0_bearsLeafNext_38 (lv_at hl 0 rfl) ?_
          refine lv_iconst (v := 4) hx hb dX0_bearsLeafNext_40 (by decide) ?_
          refine lv_icmp_gt (tgt := 48) hx hb dX0_bearsLeafNext_41 (by decide) (fun cd41 => ?_) (fun cd41 => ?_)
          · have he := gv_t cd41 he
            refine lv_iconst (v := 0) hx hb dX0_bearsLeafNext_48 (by decide) ?_
            exact kr 0 () _ _ _ _ rfl he hP hS dX0_bearsLeafNext_49
          · have he := gv_f cd41 he
            refine lv_iconst (v := 1) hx hb dX0_bearsLeafNext_44 (by decide) ?_
            refine lv_goto (tgt := 49) hx hb dX0_bearsLeafNext_45 (by decide) ?_
            exact kr 1 () _ _ _ _ rfl he hP hS dX0_bearsLeafNext_49
    · have he := gv_f cd10 he
      refine lv_iconst (v := 0) hx hb dX0_bearsLeafNext_13 (by decide) ?_
      exact kr 0 () _ _ _ _ rfl he hP hS dX0_bearsLeafNext_14
def lpX0_leafRowNext_43 (n1_43 : Nat) (b3_43 : Int32) (b4_43 : Int32) (b5_43 : Int32) (f_c : Nat → Int32) (h_c : Nat → Int32) : Nat → Nat → (Int32) → Int32
  | 0, _, x6_43 => x6_43
  | n43 + 1, i43, x6_43 => gv_b (spX0_countHolders (b3_43 >>> ((nI i43) &&& 31))) (fun q54 => gv_b (spX0_countNeighbours (b3_43 >>> ((nI i43) &&& 31)) (b4_43 >>> ((nI i43) &&& 31)) (b5_43 >>> ((nI i43) &&& 31))) (fun q73 => gv_b (spX0_bearsLeafNext f_c h_c n1_43 (nI i43) q54 q73) (fun q86 => (if q86 = 0 then lpX0_leafRowNext_43 n1_43 b3_43 b4_43 b5_43 f_c h_c n43 (i43 + 1) x6_43 else lpX0_leafRowNext_43 n1_43 b3_43 b4_43 b5_43 f_c h_c n43 (i43 + 1) (x6_43 ||| ((1 : Int32) <<< ((nI i43) &&& 31)))))))
theorem lpX0_leafRowNext_43_0 (n1_43 : Nat) (b3_43 : Int32) (b4_43 : Int32) (b5_43 : Int32) (f_c : Nat → Int32) (h_c : Nat → Int32) (i43 : Nat) (x6_43 : Int32) : lpX0_leafRowNext_43 n1_43 b3_43 b4_43 b5_43 f_c h_c 0 i43 x6_43 = x6_43 := rfl
theorem lpX0_leafRowNext_43_s (n1_43 : Nat) (b3_43 : Int32) (b4_43 : Int32) (b5_43 : Int32) (f_c : Nat → Int32) (h_c : Nat → Int32) (n43 : Nat) (i43 : Nat) (x6_43 : Int32) : lpX0_leafRowNext_43 n1_43 b3_43 b4_43 b5_43 f_c h_c (n43 + 1) i43 x6_43 = gv_b (spX0_countHolders (b3_43 >>> ((nI i43) &&& 31))) (fun q54 => gv_b (spX0_countNeighbours (b3_43 >>> ((nI i43) &&& 31)) (b4_43 >>> ((nI i43) &&& 31)) (b5_43 >>> ((nI i43) &&& 31))) (fun q73 => gv_b (spX0_bearsLeafNext f_c h_c n1_43 (nI i43) q54 q73) (fun q86 => (if q86 = 0 then lpX0_leafRowNext_43 n1_43 b3_43 b4_43 b5_43 f_c h_c n43 (i43 + 1) x6_43 else lpX0_leafRowNext_43 n1_43 b3_43 b4_43 b5_43 f_c h_c n43 (i43 + 1) (x6_43 ||| ((1 : Int32) <<< ((nI i43) &&& 31))))))) := rfl
def spX0_leafRowNext (f : Nat → Int32) (h : Nat → Int32) (w1 : Nat) (p2 : Int32) : Int32 := (if (nI w1) = 0 then gv_b (spX0_leafRow f h 0) (fun q6 => q6) else gv_b (spX0_leafRowAsSeen f h ((nI w1) - 1) p2) (fun q15 => gv_b (spX0_leafRowAsSeen f h (nI w1) p2) (fun q22 => gv_b (spX0_leafRowAsSeen f h ((nI w1) + 1) p2) (fun q32 => lpX0_leafRowNext_43 w1 q15 q22 q32 f h 12 0 0))))
theorem spX0_leafRowNext_e (f : Nat → Int32) (h : Nat → Int32) (w1 : Nat) (p2 : Int32) : spX0_leafRowNext f h w1 p2 = (if (nI w1) = 0 then gv_b (spX0_leafRow f h 0) (fun q6 => q6) else gv_b (spX0_leafRowAsSeen f h ((nI w1) - 1) p2) (fun q15 => gv_b (spX0_leafRowAsSeen f h (nI w1) p2) (fun q22 => gv_b (spX0_leafRowAsSeen f h ((nI w1) + 1) p2) (fun q32 => lpX0_leafRowNext_43 w1 q15 q22 q32 f h 12 0 0)))) := rfl
set_option maxHeartbeats 4000000 in
set_option maxRecDepth 100000 in
theorem kX0_leafRowNext (l : Launch) (dC : Nat → ClassId) (dI : Nat → Nat → Nat) (cI cL : ClassId) (h0 : Nat) (h1 : Nat) (h2 : Nat) (f : Nat → Int32) (h : Nat → Int32) (p1 : Int32) (w1 : Nat) (hw1 : p1 = nI w1) (p2 : Int32) (hy0 : w1 < 8) : gv_Mi l yX0_leafRowNext wsX0_leafRowNext 3 70 (dC, dI) [(cI, .int), (cL, .long)] [.ref h0, .int p1, .int p2] (gv_W cI h0 h1 h2 f h) (fun (r : Int32) (_ : Unit) => r = spX0_leafRowNext f h w1 p2) (fun (_ : Unit) => (gv_W cI h0 h1 h2 f h)) := by
  subst hw1
  refine gv_ofi (cc := cX0_leafRowNext) (maxL := 10) (own := RX0) (by decide) rfl (Nat.le_of_ble_eq_true rfl) rfl ?_
  intro A p e s m args below meth c Q ls H locs hx hb hml hts hown hP hK hD hN hS hl kr
  have inX0 : ∀ w ∈ wsX00, w ∈ wsX0_leafRowNext := (fun _ h => List.mem_cons_of_mem _ (List.mem_append_right _ h))
  have hl : lv_has ls 10 [(0, .ref h0), (1, .int (nI w1)), (2, .int p2)] := hl
  have he := (spX0_leafRowNext_e f h w1 p2).symm
  refine lv_iload_n hx hb dX0_leafRowNext_0 rfl (lv_at hl 1 rfl) ?_
  refine lv_if_ne (tgt := 10) hx hb dX0_leafRowNext_1 (by decide) (fun cd1 => ?_) (fun cd1 => ?_)
  · have he := gv_f cd1 he
    refine lv_aload_n hx hb dX0_leafRowNext_10 rfl (lv_at hl 0 rfl) ?_
    refine lv_iload_n hx hb dX0_leafRowNext_11 rfl (lv_at hl 1 rfl) ?_
    refine lv_iconst (v := 1) hx hb dX0_leafRowNext_12 (by decide) ?_
    refine lv_isub hx hb dX0_leafRowNext_13 ?_
    refine lv_iload_n hx hb dX0_leafRowNext_14 rfl (lv_at hl 2 rfl) ?_
    have hPc : va_P (dC, dI) vwCl (gv_W cI h0 h1 h2 f h) H := gv_sub [0, 1, 2] hP rfl
    have hDc : va_D (gv_in (gv_W cI h0 h1 h2 f h)) (gv_W cI h0 h1 h2 f h) := gv_D hD [0, 1, 2] (by decide) rfl
    refine gv_ki (wf := (fun (_ : Unit) => (gv_W cI h0 h1 h2 f h))) (wc := (gv_W cI h0 h1 h2 f h)) [0, 1, 2] (fun _ => rfl) hP hD hS rfl rfl (va_runV (As := [.int ((nI w1) - 1), .int p2]) (rest := []) ⟨hx, hb, hml, hown, hts⟩ (kX0_leafRowAsSeen l dC dI cI cL h0 h1 h2 f h ((nI w1) - 1) p2 (gv_in (gv_W cI h0 h1 h2 f h))) (cwV (rm := gv_R 1 21) 2 hts gX0_leafRowNext_X0_leafRowAsSeen rfl rfl rfl (by decide +kernel) ⟨Nat.le_of_ble_eq_true rfl, Nat.le_of_ble_eq_true rfl⟩) (gv_preV (ci := 0) hK hPc hDc hN rfl rfl) rfl rfl hl.1 rfl (lv_room (Nat.le_of_ble_eq_true rfl)) dX0_leafRowNext_15 ⟨Nat.zero_le _, Nat.zero_le _⟩) (fun q15 u H locs hw hP hD hS => ?_)
    have he := gv_q hw he
    have hP : va_P (dC, dI) vwCl (gv_W cI h0 h1 h2 f h) H := hP
    have hD : va_D A (gv_W cI h0 h1 h2 f h) := hD
    refine lv_istore_n (lv' := [(3, .int q15), (0, .ref h0), (1, .int (nI w1)), (2, .int p2)]) hx hb dX0_leafRowNext_18 rfl hl (by decide) rfl (fun ls hl => ?_)
    refine lv_aload_n hx hb dX0_leafRowNext_19 rfl (lv_at hl 1 rfl) ?_
    refine lv_iload_n hx hb dX0_leafRowNext_20 rfl (lv_at hl 2 rfl) ?_
    refine lv_iload_n hx hb dX0_leafRowNext_21 rfl (lv_at hl 3 rfl) ?_
    have hPc : va_P (dC, dI) vwCl (gv_W cI h0 h1 h2 f h) H := gv_sub [0, 1, 2] hP rfl
    have hDc : va_D (gv_in (gv_W cI h0 h1 h2 f h)) (gv_W cI h0 h1 h2 f h) := gv_D hD [0, 1, 2] (by decide) rfl
    refine gv_ki (wf := (fun (_ : Unit) => (gv_W cI h0 h1 h2 f h))) (wc := (gv_W cI h0 h1 h2 f h)) [0, 1, 2] (fun _ => rfl) hP hD hS rfl rfl (va_runV (As := [.int (nI w1), .int p2]) (rest := []) ⟨hx, hb, hml, hown, hts⟩ (kX0_leafRowAsSeen l dC dI cI cL h0 h1 h2 f h (nI w1) p2 (gv_in (gv_W cI h0 h1 h2 f h))) (cwV (rm := gv_R 1 21) 2 hts gX0_leafRowNext_X0_leafRowAsSeen rfl rfl rfl (by decide +kernel) ⟨Nat.le_of_ble_eq_true rfl, Nat.le_of_ble_eq_true rfl⟩) (gv_preV (ci := 0) hK hPc hDc hN rfl rfl) rfl rfl hl.1 rfl (lv_room (Nat.le_of_ble_eq_true rfl)) dX0_leafRowNext_22 ⟨Nat.zero_le _, Nat.zero_le _⟩) (fun q22 u H locs hw hP hD hS => ?_)
    have he := gv_q hw he
    have hP : va_P (dC, dI) vwCl (gv_W cI h0 h1 h2 f h) H := hP
    have hD : va_D A (gv_W cI h0 h1 h2 f h) := hD
    refine lv_istore (lv' := [(4, .int q22), (3, .int q15), (0, .ref h0), (1, .int (nI w1)), (2, .int p2)]) hx hb dX0_leafRowNext_25 hl (by decide) rfl (fun ls hl => ?_)
    refine lv_aload_n hx hb dX0_leafRowNext_27 rfl (lv_at hl 2 rfl) ?_
    refine lv_iload_n hx hb dX0_leafRowNext_28 rfl (lv_at hl 3 rfl) ?_
    refine lv_iconst (v := 1) hx hb dX0_leafRowNext_29 (by decide) ?_
    refine lv_iadd hx hb dX0_leafRowNext_30 ?_
    refine lv_iload_n hx hb dX0_leafRowNext_31 rfl (lv_at hl 4 rfl) ?_
    have hPc : va_P (dC, dI) vwCl (gv_W cI h0 h1 h2 f h) H := gv_sub [0, 1, 2] hP rfl
    have hDc : va_D (gv_in (gv_W cI h0 h1 h2 f h)) (gv_W cI h0 h1 h2 f h) := gv_D hD [0, 1, 2] (by decide) rfl
    refine gv_ki (wf := (fun (_ : Unit) => (gv_W cI h0 h1 h2 f h))) (wc := (gv_W cI h0 h1 h2 f h)) [0, 1, 2] (fun _ => rfl) hP hD hS rfl rfl (va_runV (As := [.int ((nI w1) + 1), .int p2]) (rest := []) ⟨hx, hb, hml, hown, hts⟩ (kX0_leafRowAsSeen l dC dI cI cL h0 h1 h2 f h ((nI w1) + 1) p2 (gv_in (gv_W cI h0 h1 h2 f h))) (cwV (rm := gv_R 1 21) 2 hts gX0_leafRowNext_X0_leafRowAsSeen rfl rfl rfl (by decide +kernel) ⟨Nat.le_of_ble_eq_true rfl, Nat.le_of_ble_eq_true rfl⟩) (gv_preV (ci := 0) hK hPc hDc hN rfl rfl) rfl rfl hl.1 rfl (lv_room (Nat.le_of_ble_eq_true rfl)) dX0_leafRowNext_32 ⟨Nat.zero_le _, Nat.zero_le _⟩) (fun q32 u H locs hw hP hD hS => ?_)
    have he := gv_q hw he
    have hP : va_P (dC, dI) vwCl (gv_W cI h0 h1 h2 f h) H := hP
    have hD : va_D A (gv_W cI h0 h1 h2 f h) := hD
    refine lv_istore (lv' := [(5, .int q32), (4, .int q22), (3, .int q15), (0, .ref h0), (1, .int (nI w1)), (2, .int p2)]) hx hb dX0_leafRowNext_35 hl (by decide) rfl (fun ls hl => ?_)
    refine lv_iconst (v := 0) hx hb dX0_leafRowNext_37 (by decide) ?_
    refine lv_istore (lv' := [(6, .int 0), (5, .int q32), (4, .int q22), (3, .int q15), (0, .ref h0), (1, .int (nI w1)), (2, .int p2)]) hx hb dX0_leafRowNext_38 hl (by decide) rfl (fun ls hl => ?_)
    refine lv_iconst (v := 0) hx hb dX0_leafRowNext_40 (by decide) ?_
    refine lv_istore (lv' := [(7, .int 0), (6, .int 0), (5, .int q32), (4, .int q22), (3, .int q15), (0, .ref h0), (1, .int (nI w1)), (2, .int p2)]) hx hb dX0_leafRowNext_41 hl (by decide) rfl (fun ls hl => ?_)
    have L43 : ∀ (n43 i43 : Nat) (x6_43 : Int32) (H : Heap) (locs : List Loc) (ls : Array Slot), i43 + n43 = 12 → lpX0_leafRowNext_43 w1 q15 q22 q32 f h n43 i43 x6_43 = spX0_leafRowNext f h w1 p2 → va_P (dC, dI) vwCl (gv_W cI h0 h1 h2 f h) H → va_D A (gv_W cI h0 h1 h2 f h) → va_S A s.heap H locs → lv_has ls 10 [(0, .ref h0), (1, .int (nI w1)), (2, .int p2), (3, .int q15), (4, .int q22), (5, .int q32), (6, .int x6_43), (7, .int (nI i43))] → W p l e (gv_R 3 70) s m args below meth c H locs 0 0 Q (F0 m 43 ls []) := by
      intro n43
      induction n43 with
      | zero =>
        intro i43 x6_43 H locs ls hi43 he hP hD hS hl
        have he := (lpX0_leafRowNext_43_0 _ _ _ _ _ _ _ _).symm.trans he
        refine lv_iload hx hb dX0_leafRowNext_43 (lv_at hl 7 rfl) ?_
        refine lv_bipush (v := 12) hx hb dX0_leafRowNext_45 (by decide) ?_
        refine lv_icmp_ge (tgt := 107) hx hb dX0_leafRowNext_47 (by decide) (fun _ => ?_) (fun c => absurd c (gv_ge (N := 12) rfl (rfl : (12 : Int32) = nI 12) (by omega) (by omega)))
        refine lv_iload hx hb dX0_leafRowNext_107 (lv_at hl 6 rfl) ?_
        exact kr x6_43 () _ _ _ _ he hP hS dX0_leafRowNext_109
      | succ n43 ih43 =>
        intro i43 x6_43 H locs ls hi43 he hP hD hS hl
        have he := (lpX0_leafRowNext_43_s _ _ _ _ _ _ _ _ _).symm.trans he
        refine lv_iload hx hb dX0_leafRowNext_43 (lv_at hl 7 rfl) ?_
        refine lv_bipush (v := 12) hx hb dX0_leafRowNext_45 (by decide) ?_
        refine lv_icmp_ge (tgt := 107) hx hb dX0_leafRowNext_47 (by decide) (fun c => absurd c (gv_lt (N := 12) rfl (rfl : (12 : Int32) = nI 12) (by omega) (by omega))) (fun _ => ?_)
        refine lv_iload_n hx hb dX0_leafRowNext_50 rfl (lv_at hl 3 rfl) ?_
        refine lv_iload hx hb dX0_leafRowNext_51 (lv_at hl 7 rfl) ?_
        refine lv_ishr hx hb dX0_leafRowNext_53 ?_
        have hPc : va_P (dC, dI) vwCl ([] : va_W) H := gv_P0
        have hDc : va_D (gv_in ([] : va_W)) ([] : va_W) := gv_D0
        refine gv_ki (wf := (fun (_ : Unit) => ([] : va_W))) (wc := ([] : va_W)) [] (fun _ => rfl) hP hD hS rfl rfl (va_runS (As := [.int (q15 >>> ((nI i43) &&& 31))]) (rest := []) ⟨hx, hb, hml, hown, hts⟩ (kX0_countHolders l dC dI cI cL (q15 >>> ((nI i43) &&& 31)) (gv_in ([] : va_W))) (va_cwS (rm := gv_R 1 20) 1 hts gX0_leafRowNext_X0_countHolders rfl rfl rfl (by decide +kernel) ⟨Nat.le_of_ble_eq_true rfl, Nat.le_of_ble_eq_true rfl⟩) (gv_preS hK hPc hDc hN) rfl rfl hl.1 rfl (lv_room (Nat.le_of_ble_eq_true rfl)) dX0_leafRowNext_54 ⟨Nat.zero_le _, Nat.zero_le _⟩) (fun q54 u H locs hw hP hD hS => ?_)
        have he := gv_q hw he
        have hP : va_P (dC, dI) vwCl (gv_W cI h0 h1 h2 f h) H := hP
        have hD : va_D A (gv_W cI h0 h1 h2 f h) := hD
        refine lv_istore (lv' := [(8, .int q54), (0, .ref h0), (1, .int (nI w1)), (2, .int p2), (3, .int q15), (4, .int q22), (5, .int q32), (6, .int x6_43), (7, .int (nI i43))]) hx hb dX0_leafRowNext_57 hl (by decide) rfl (fun ls hl => ?_)
        refine lv_iload_n hx hb dX0_leafRowNext_59 rfl (lv_at hl 4 rfl) ?_
        refine lv_iload hx hb dX0_leafRowNext_60 (lv_at hl 8 rfl) ?_
        refine lv_ishr hx hb dX0_leafRowNext_62 ?_
        refine lv_iload hx hb dX0_leafRowNext_63 (lv_at hl 5 rfl) ?_
        refine lv_iload hx hb dX0_leafRowNext_65 (lv_at hl 8 rfl) ?_
        refine lv_ishr hx hb dX0_leafRowNext_67 ?_
        refine lv_iload hx hb dX0_leafRowNext_68 (lv_at hl 6 rfl) ?_
        refine lv_iload hx hb dX0_leafRowNext_70 (lv_at hl 8 rfl) ?_
        refine lv_ishr hx hb dX0_leafRowNext_72 ?_
        have hPc : va_P (dC, dI) vwCl ([] : va_W) H := gv_P0
        have hDc : va_D (gv_in ([] : va_W)) ([] : va_W) := gv_D0
        refine gv_ki (wf := (fun (_ : Unit) => ([] : va_W))) (wc := ([] : va_W)) [] (fun _ => rfl) hP hD hS rfl rfl (va_runS (As := [.int (q15 >>> ((nI i43) &&& 31)), .int (q22 >>> ((nI i43) &&& 31)), .int (q32 >>> ((nI i43) &&& 31))]) (rest := []) ⟨hx, hb, hml, hown, hts⟩ (kX0_countNeighbours l dC dI cI cL (q15 >>> ((nI i43) &&& 31)) (q22 >>> ((nI i43) &&& 31)) (q32 >>> ((nI i43) &&& 31)) (gv_in ([] : va_W))) (va_cwS (rm := gv_R 1 20) 3 hts gX0_leafRowNext_X0_countNeighbours rfl rfl rfl (by decide +kernel) ⟨Nat.le_of_ble_eq_true rfl, Nat.le_of_ble_eq_true rfl⟩) (gv_preS hK hPc hDc hN) rfl rfl hl.1 rfl (lv_room (Nat.le_of_ble_eq_true rfl)) dX0_leafRowNext_73 ⟨Nat.zero_le _, Nat.zero_le _⟩) (fun q73 u H locs hw hP hD hS => ?_)
        have he := gv_q hw he
        have hP : va_P (dC, dI) vwCl (gv_W cI h0 h1 h2 f h) H := hP
        have hD : va_D A (gv_W cI h0 h1 h2 f h) := hD
        refine lv_istore (lv' := [(9, .int q73), (8, .int q54), (0, .ref h0), (1, .int (nI w1)), (2, .int p2), (3, .int q15), (4, .int q22), (5, .int q32), (6, .int x6_43), (7, .int (nI i43))]) hx hb dX0_leafRowNext_76 hl (by decide) rfl (fun ls hl => ?_)
        refine lv_aload_n hx hb dX0_leafRowNext_78 rfl (lv_at hl 2 rfl) ?_
        refine lv_iload_n hx hb dX0_leafRowNext_79 rfl (lv_at hl 3 rfl) ?_
        refine lv_iload hx hb dX0_leafRowNext_80 (lv_at hl 9 rfl) ?_
        refine lv_iload hx hb dX0_leafRowNext_82 (lv_at hl 1 rfl) ?_
        refine lv_iload hx hb dX0_leafRowNext_84 (lv_at hl 0 rfl) ?_
        have hPc : va_P (dC, dI) vwCl (gv_W cI h0 h1 h2 f h) H := gv_sub [0, 1, 2] hP rfl
        have hDc : va_D (gv_in (gv_W cI h0 h1 h2 f h)) (gv_W cI h0 h1 h2 f h) := gv_D hD [0, 1, 2] (by decide) rfl
        refine gv_ki (wf := (fun (_ : Unit) => (gv_W cI h0 h1 h2 f h))) (wc := (gv_W cI h0 h1 h2 f h)) [0, 1, 2] (fun _ => rfl) hP hD hS rfl rfl (va_runV (As := [.int (nI w1), .int (nI i43), .int q54, .int q73]) (rest := []) ⟨hx, hb, hml, hown, hts⟩ (kX0_bearsLeafNext l dC dI cI cL h0 h1 h2 f h (nI w1) w1 rfl (nI i43) q54 q73 (by omega) (gv_in (gv_W cI h0 h1 h2 f h))) (cwV (rm := gv_R 2 45) 4 hts gX0_leafRowNext_X0_bearsLeafNext rfl rfl rfl (by decide +kernel) ⟨Nat.le_of_ble_eq_true rfl, Nat.le_of_ble_eq_true rfl⟩) (gv_preV (ci := 0) hK hPc hDc hN rfl rfl) rfl rfl hl.1 rfl (lv_room (Nat.le_of_ble_eq_true rfl)) dX0_leafRowNext_86 ⟨Nat.zero_le _, Nat.zero_le _⟩) (fun q86 u H locs hw hP hD hS => ?_)
        have he := gv_q hw he
        have hP : va_P (dC, dI) vwCl (gv_W cI h0 h1 h2 f h) H := hP
        have hD : va_D A (gv_W cI h0 h1 h2 f h) := hD
        refine lv_if_eq (tgt := 101) hx hb dX0_leafRowNext_89 (by decide) (fun cd89 => ?_) (fun cd89 => ?_)
        · have he := gv_t cd89 he
          refine lv_iinc (v := (nI (i43 + 1))) (lv' := [(7, .int (nI (i43 + 1))), (9, .int q73), (8, .int q54), (0, .ref h0), (1, .int (nI w1)), (2, .int p2), (3, .int q15), (4, .int q22), (5, .int q32), (6, .int x6_43)]) hx hb dX0_leafRowNext_101 hl (k := 9) rfl (nI_1 i43) (by decide) rfl (fun ls hl => ?_)
          refine lv_goto (tgt := 43) hx hb dX0_leafRowNext_104 (by decide) ?_
          exact ih43 (i43 + 1) x6_43 _ _ _ (by omega) he hP hD hS (lv_sub hl [3, 4, 5, 6, 7, 8, 9, 0] rfl)
        · have he := gv_f cd89 he
          refine lv_iload hx hb dX0_leafRowNext_92 (lv_at hl 8 rfl) ?_
          refine lv_iconst (v := 1) hx hb dX0_leafRowNext_94 (by decide) ?_
          refine lv_iload hx hb dX0_leafRowNext_95 (lv_at hl 9 rfl) ?_
          refine lv_ishl hx hb dX0_leafRowNext_97 ?_
          refine lv_ior hx hb dX0_leafRowNext_98 ?_
          refine lv_istore (lv' := [(6, .int (x6_43 ||| ((1 : Int32) <<< ((nI i43) &&& 31)))), (9, .int q73), (8, .int q54), (0, .ref h0), (1, .int (nI w1)), (2, .int p2), (3, .int q15), (4, .int q22), (5, .int q32), (7, .int (nI i43))]) hx hb dX0_leafRowNext_99 hl (by decide) rfl (fun ls hl => ?_)
          refine lv_iinc (v := (nI (i43 + 1))) (lv' := [(7, .int (nI (i43 + 1))), (6, .int (x6_43 ||| ((1 : Int32) <<< ((nI i43) &&& 31)))), (9, .int q73), (8, .int q54), (0, .ref h0), (1, .int (nI w1)), (2, .int p2), (3, .int q15), (4, .int q22), (5, .int q32)]) hx hb dX0_leafRowNext_101 hl (k := 9) rfl (nI_1 i43) (by decide) rfl (fun ls hl => ?_)
          refine lv_goto (tgt := 43) hx hb dX0_leafRowNext_104 (by decide) ?_
          exact ih43 (i43 + 1) (x6_43 ||| ((1 : Int32) <<< ((nI i43) &&& 31))) _ _ _ (by omega) he hP hD hS (lv_sub hl [4, 5, 6, 7, 8, 9, 1, 0] rfl)
    exact L43 12 0 0 _ _ _ (by omega) he hP hD hS (lv_sub hl [5, 6, 7, 4, 3, 2, 1, 0] rfl)
  · have he := gv_t cd1 he
    refine lv_aload_n hx hb dX0_leafRowNext_4 rfl (lv_at hl 0 rfl) ?_
    refine lv_iconst (v := 0) hx hb dX0_leafRowNext_5 (by decide) ?_
    have hPc : va_P (dC, dI) vwCl (gv_W cI h0 h1 h2 f h) H := gv_sub [0, 1, 2] hP rfl
    have hDc : va_D (gv_in (gv_W cI h0 h1 h2 f h)) (gv_W cI h0 h1 h2 f h) := gv_D hD [0, 1, 2] (by decide) rfl
    refine gv_ki (wf := (fun (_ : Unit) => (gv_W cI h0 h1 h2 f h))) (wc := (gv_W cI h0 h1 h2 f h)) [0, 1, 2] (fun _ => rfl) hP hD hS rfl rfl (va_runV (As := [.int 0]) (rest := []) ⟨hx, hb, hml, hown, hts⟩ (kX0_leafRow l dC dI cI cL h0 h1 h2 f h 0 (gv_in (gv_W cI h0 h1 h2 f h))) (cwV (rm := gv_R 0 0) 1 hts gX0_leafRowNext_X0_leafRow rfl rfl rfl (by decide +kernel) ⟨Nat.le_of_ble_eq_true rfl, Nat.le_of_ble_eq_true rfl⟩) (gv_preV (ci := 0) hK hPc hDc hN rfl rfl) rfl rfl hl.1 rfl (lv_room (Nat.le_of_ble_eq_true rfl)) dX0_leafRowNext_6 ⟨Nat.zero_le _, Nat.zero_le _⟩) (fun q6 u H locs hw hP hD hS => ?_)
    have he := gv_q hw he
    have hP : va_P (dC, dI) vwCl (gv_W cI h0 h1 h2 f h) H := hP
    have hD : va_D A (gv_W cI h0 h1 h2 f h) := hD
    exact kr q6 () _ _ _ _ he hP hS dX0_leafRowNext_9
def lpX0_takeTopmost_6 (b1_6 : Int32) (b2_6 : Int32) (h_c : Nat → Int32) : Nat → (Int32) → (Nat → Int32) → Int32 × (Nat → Int32)
  | 0, x3_6, f_6 => (x3_6, f_6)
  | n6 + 1, x3_6, f_6 => (if b2_6 ≤ x3_6 then (x3_6, f_6) else gv_b (spX0_hasLeafAt f_6 h_c (nI n6) b1_6) (fun q20 => (if q20 = 0 then lpX0_takeTopmost_6 b1_6 b2_6 h_c n6 x3_6 f_6 else gv_b (spX0_takeLeaf f_6 h_c (nI n6) b1_6) (fun f_q30 => lpX0_takeTopmost_6 b1_6 b2_6 h_c n6 (x3_6 + 1) f_q30))))
theorem lpX0_takeTopmost_6_0 (b1_6 : Int32) (b2_6 : Int32) (h_c : Nat → Int32) (x3_6 : Int32) (f_6 : Nat → Int32) : lpX0_takeTopmost_6 b1_6 b2_6 h_c 0 x3_6 f_6 = (x3_6, f_6) := rfl
theorem lpX0_takeTopmost_6_s (b1_6 : Int32) (b2_6 : Int32) (h_c : Nat → Int32) (n6 : Nat) (x3_6 : Int32) (f_6 : Nat → Int32) : lpX0_takeTopmost_6 b1_6 b2_6 h_c (n6 + 1) x3_6 f_6 = (if b2_6 ≤ x3_6 then (x3_6, f_6) else gv_b (spX0_hasLeafAt f_6 h_c (nI n6) b1_6) (fun q20 => (if q20 = 0 then lpX0_takeTopmost_6 b1_6 b2_6 h_c n6 x3_6 f_6 else gv_b (spX0_takeLeaf f_6 h_c (nI n6) b1_6) (fun f_q30 => lpX0_takeTopmost_6 b1_6 b2_6 h_c n6 (x3_6 + 1) f_q30)))) := rfl
def spX0_takeTopmost (f : Nat → Int32) (h : Nat → Int32) (p1 : Int32) (p2 : Int32) : Int32 × (Nat → Int32) := lpX0_takeTopmost_6 p1 p2 h 8 0 f
theorem spX0_takeTopmost_e (f : Nat → Int32) (h : Nat → Int32) (p1 : Int32) (p2 : Int32) : spX0_takeTopmost f h p1 p2 = lpX0_takeTopmost_6 p1 p2 h 8 0 f := rfl
set_option maxHeartbeats 4000000 in
set_option maxRecDepth 100000 in
theorem kX0_takeTopmost (l : Launch) (dC : Nat → ClassId) (dI : Nat → Nat → Nat) (cI cL : ClassId) (h0 : Nat) (h1 : Nat) (h2 : Nat) (f : Nat → Int32) (h : Nat → Int32) (p1 : Int32) (p2 : Int32) : gv_Mi l yX0_takeTopmost wsX0_takeTopmost 2 43 (dC, dI) [(cI, .int), (cL, .long)] [.ref h0, .int p1, .int p2] (gv_W cI h0 h1 h2 f h) (fun (r : Int32) (u : (Nat → Int32)) => (r, u) = spX0_takeTopmost f h p1 p2) (fun (u : (Nat → Int32)) => (gv_W cI h0 h1 h2 u h)) := by
  refine gv_ofi (cc := cX0_takeTopmost) (maxL := 5) (own := RX0) (by decide) rfl (Nat.le_of_ble_eq_true rfl) rfl ?_
  intro A p e s m args below meth c Q ls H locs hx hb hml hts hown hP hK hD hN hS hl kr
  have inX0 : ∀ w ∈ wsX00, w ∈ wsX0_takeTopmost := (fun _ h => List.mem_cons_of_mem _ (List.mem_append_right _ h))
  have hl : lv_has ls 5 [(0, .ref h0), (1, .int p1), (2, .int p2)] := hl
  have he := (spX0_takeTopmost_e f h p1 p2).symm
  refine lv_iconst (v := 0) hx hb dX0_takeTopmost_0 (by decide) ?_
  refine lv_istore_n (lv' := [(3, .int 0), (0, .ref h0), (1, .int p1), (2, .int p2)]) hx hb dX0_takeTopmost_1 rfl hl (by decide) rfl (fun ls hl => ?_)
  refine lv_bipush (v := 7) hx hb dX0_takeTopmost_2 (by decide) ?_
  refine lv_istore (lv' := [(4, .int 7), (3, .int 0), (0, .ref h0), (1, .int p1), (2, .int p2)]) hx hb dX0_takeTopmost_4 hl (by decide) rfl (fun ls hl => ?_)
  have L6 : ∀ (n6 : Nat) (x3_6 : Int32) (f_6 : Nat → Int32) (H : Heap) (locs : List Loc) (ls : Array Slot), n6 ≤ 8 → lpX0_takeTopmost_6 p1 p2 h n6 x3_6 f_6 = spX0_takeTopmost f h p1 p2 → va_P (dC, dI) vwCl (gv_W cI h0 h1 h2 f_6 h) H → va_D A (gv_W cI h0 h1 h2 f_6 h) → va_S A s.heap H locs → lv_has ls 5 [(0, .ref h0), (1, .int p1), (2, .int p2), (3, .int x3_6), (4, .int (nI n6 - 1))] → W p l e (gv_R 2 43) s m args below meth c H locs 0 0 Q (F0 m 6 ls []) := by
    intro n6
    induction n6 with
    | zero =>
      intro x3_6 f_6 H locs ls hi6 he hP hD hS hl
      have he := (lpX0_takeTopmost_6_0 _ _ _ _ _).symm.trans he
      have hl : lv_has ls 5 [(0, .ref h0), (1, .int p1), (2, .int p2), (3, .int x3_6), (4, .int (nI 0 - 1))] := hl
      refine lv_iload hx hb dX0_takeTopmost_6 (lv_at hl 4 rfl) ?_
      refine lv_if_lt (tgt := 42) hx hb dX0_takeTopmost_8 (by decide) (fun _ => ?_) (fun c => absurd (by decide) c)
      refine lv_iload_n hx hb dX0_takeTopmost_42 rfl (lv_at hl 3 rfl) ?_
      exact kr x3_6 f_6 _ _ _ _ he hP hS dX0_takeTopmost_43
    | succ n6 ih6 =>
      intro x3_6 f_6 H locs ls hi6 he hP hD hS hl
      have he := (lpX0_takeTopmost_6_s _ _ _ _ _ _).symm.trans he
      have hl : lv_has ls 5 [(0, .ref h0), (1, .int p1), (2, .int p2), (3, .int x3_6), (4, .int (nI n6))] := by rw [nI_pred] at hl; exact hl
      refine lv_iload hx hb dX0_takeTopmost_6 (lv_at hl 4 rfl) ?_
      refine lv_if_lt (tgt := 42) hx hb dX0_takeTopmost_8 (by decide) (fun c => absurd c (nI_pos (by omega))) (fun _ => ?_)
      refine lv_iload_n hx hb dX0_takeTopmost_11 rfl (lv_at hl 3 rfl) ?_
      refine lv_iload_n hx hb dX0_takeTopmost_12 rfl (lv_at hl 2 rfl) ?_
      refine lv_icmp_ge (tgt := 42) hx hb dX0_takeTopmost_13 (by decide) (fun cd13 => ?_) (fun cd13 => ?_)
      · have he := gv_t cd13 he
        refine lv_iload_n hx hb dX0_takeTopmost_42 rfl (lv_at hl 3 rfl) ?_
        exact kr x3_6 f_6 _ _ _ _ he hP hS dX0_takeTopmost_43
      · have he := gv_f cd13 he
        refine lv_aload_n hx hb dX0_takeTopmost_16 rfl (lv_at hl 0 rfl) ?_
        refine lv_iload hx hb dX0_takeTopmost_17 (lv_at hl 4 rfl) ?_
        refine lv_iload_n hx hb dX0_takeTopmost_19 rfl (lv_at hl 1 rfl) ?_
        have hPc : va_P (dC, dI) vwCl (gv_W cI h0 h1 h2 f_6 h) H := gv_sub [0, 1, 2] hP rfl
        have hDc : va_D (gv_in (gv_W cI h0 h1 h2 f_6 h)) (gv_W cI h0 h1 h2 f_6 h) := gv_D hD [0, 1, 2] (by decide) rfl
        refine gv_ki (wf := (fun (_ : Unit) => (gv_W cI h0 h1 h2 f_6 h))) (wc := (gv_W cI h0 h1 h2 f_6 h)) [0, 1, 2] (fun _ => rfl) hP hD hS rfl rfl (va_runV (As := [.int (nI n6), .int p1]) (rest := []) ⟨hx, hb, hml, hown, hts⟩ (kX0_hasLeafAt l dC dI cI cL h0 h1 h2 f_6 h (nI n6) p1 (gv_in (gv_W cI h0 h1 h2 f_6 h))) (cwV (rm := gv_R 1 21) 2 hts gX0_takeTopmost_X0_hasLeafAt rfl rfl rfl (by decide +kernel) ⟨Nat.le_of_ble_eq_true rfl, Nat.le_of_ble_eq_true rfl⟩) (gv_preV (ci := 0) hK hPc hDc hN rfl rfl) rfl rfl hl.1 rfl (lv_room (Nat.le_of_ble_eq_true rfl)) dX0_takeTopmost_20 ⟨Nat.zero_le _, Nat.zero_le _⟩) (fun q20 u H locs hw hP hD hS => ?_)
        have he := gv_q hw he
        have hP : va_P (dC, dI) vwCl (gv_W cI h0 h1 h2 f_6 h) H := hP
        have hD : va_D A (gv_W cI h0 h1 h2 f_6 h) := hD
        refine lv_if_eq (tgt := 36) hx hb dX0_takeTopmost_23 (by decide) (fun cd23 => ?_) (fun cd23 => ?_)
        · have he := gv_t cd23 he
          refine lv_iinc (v := (nI n6 - 1)) (lv' := [(4, .int (nI n6 - 1)), (0, .ref h0), (1, .int p1), (2, .int p2), (3, .int x3_6)]) hx hb dX0_takeTopmost_36 hl (k := 4) rfl (gv_dec _) (by decide) rfl (fun ls hl => ?_)
          refine lv_goto (tgt := 6) hx hb dX0_takeTopmost_39 (by decide) ?_
          exact ih6  x3_6 f_6 _ _ _ (by omega) he hP hD hS (lv_sub hl [1, 2, 3, 4, 0] rfl)
        · have he := gv_f cd23 he
          refine lv_aload_n hx hb dX0_takeTopmost_26 rfl (lv_at hl 0 rfl) ?_
          refine lv_iload hx hb dX0_takeTopmost_27 (lv_at hl 4 rfl) ?_
          refine lv_iload_n hx hb dX0_takeTopmost_29 rfl (lv_at hl 1 rfl) ?_
          have hPc : va_P (dC, dI) vwCl (gv_W cI h0 h1 h2 f_6 h) H := gv_sub [0, 1, 2] hP rfl
          have hDc : va_D (gv_in (gv_W cI h0 h1 h2 f_6 h)) (gv_W cI h0 h1 h2 f_6 h) := gv_D hD [0, 1, 2] (by decide) rfl
          refine gv_kv (wf := (fun (u : (Nat → Int32)) => (gv_W cI h0 h1 h2 u h))) (wc := (gv_W cI h0 h1 h2 f_6 h)) [0, 1, 2] (fun _ => rfl) hP hD hS rfl rfl (va_runV (As := [.int (nI n6), .int p1]) (rest := []) ⟨hx, hb, hml, hown, hts⟩ (kX0_takeLeaf l dC dI cI cL h0 h1 h2 f_6 h (nI n6) p1 (gv_in (gv_W cI h0 h1 h2 f_6 h))) (cwV (rm := gv_R 1 21) 2 hts gX0_takeTopmost_X0_takeLeaf rfl rfl rfl (by decide +kernel) ⟨Nat.le_of_ble_eq_true rfl, Nat.le_of_ble_eq_true rfl⟩) (gv_preV (ci := 0) hK hPc hDc hN rfl rfl) rfl rfl hl.1 rfl (lv_room (Nat.le_of_ble_eq_true rfl)) dX0_takeTopmost_30 ⟨Nat.zero_le _, Nat.zero_le _⟩) (fun u H locs hw hP hD hS => ?_)
          obtain ⟨f_q30, rfl⟩ : ∃ z, z = u := ⟨_, rfl⟩
          have he := gv_q hw he
          have hP : va_P (dC, dI) vwCl (gv_W cI h0 h1 h2 f_q30 h) H := hP
          have hD : va_D A (gv_W cI h0 h1 h2 f_q30 h) := hD
          refine lv_iinc (v := x3_6 + 1) (lv' := [(3, .int (x3_6 + 1)), (0, .ref h0), (1, .int p1), (2, .int p2), (4, .int (nI n6))]) hx hb dX0_takeTopmost_33 hl (k := 3) rfl rfl (by decide) rfl (fun ls hl => ?_)
          refine lv_iinc (v := (nI n6 - 1)) (lv' := [(4, .int (nI n6 - 1)), (3, .int (x3_6 + 1)), (0, .ref h0), (1, .int p1), (2, .int p2)]) hx hb dX0_takeTopmost_36 hl (k := 4) rfl (gv_dec _) (by decide) rfl (fun ls hl => ?_)
          refine lv_goto (tgt := 6) hx hb dX0_takeTopmost_39 (by decide) ?_
          exact ih6  (x3_6 + 1) f_q30 _ _ _ (by omega) he hP hD hS (lv_sub hl [2, 3, 4, 1, 0] rfl)
  exact L6 8 0 f _ _ _ (by omega) he hP hD hS (lv_sub hl [2, 3, 4, 1, 0] rfl)
def lpX0_becomeNextOf_44 (h_c : Nat → Int32) (f1_c : Nat → Int32) (g1_c : Nat → Int32) (be_c : Nat → Int32) : Nat → Nat → (Int32) → (Nat → Int32) → Int32 × (Nat → Int32) × (Nat → Int32)
  | 0, _, x4_44, f_44 => (x4_44, f_44, h_c)
  | n44 + 1, i44, x4_44, f_44 => gv_b (spX0_countInColumn f_44 h_c (nI i44)) (fun q59 => gv_b2 (spX0_takeTopmost f_44 h_c (nI i44) (q59 - (be_c i44))) (fun q67 f_q67 => lpX0_becomeNextOf_44 h_c f1_c g1_c be_c n44 (i44 + 1) (x4_44 + q67) f_q67))
theorem lpX0_becomeNextOf_44_0 (h_c : Nat → Int32) (f1_c : Nat → Int32) (g1_c : Nat → Int32) (be_c : Nat → Int32) (i44 : Nat) (x4_44 : Int32) (f_44 : Nat → Int32) : lpX0_becomeNextOf_44 h_c f1_c g1_c be_c 0 i44 x4_44 f_44 = (x4_44, f_44, h_c) := rfl
theorem lpX0_becomeNextOf_44_s (h_c : Nat → Int32) (f1_c : Nat → Int32) (g1_c : Nat → Int32) (be_c : Nat → Int32) (n44 : Nat) (i44 : Nat) (x4_44 : Int32) (f_44 : Nat → Int32) : lpX0_becomeNextOf_44 h_c f1_c g1_c be_c (n44 + 1) i44 x4_44 f_44 = gv_b (spX0_countInColumn f_44 h_c (nI i44)) (fun q59 => gv_b2 (spX0_takeTopmost f_44 h_c (nI i44) (q59 - (be_c i44))) (fun q67 f_q67 => lpX0_becomeNextOf_44 h_c f1_c g1_c be_c n44 (i44 + 1) (x4_44 + q67) f_q67)) := rfl
def lpX0_becomeNextOf_3 (b2_3 : Int32) (f1_c : Nat → Int32) (g1_c : Nat → Int32) (be_c : Nat → Int32) : Nat → Nat → (Nat → Int32) → (Nat → Int32) → Int32 × (Nat → Int32) × (Nat → Int32)
  | 0, _, f_3, h_3 => lpX0_becomeNextOf_44 h_3 f1_c g1_c be_c 12 0 0 f_3
  | n3 + 1, i3, f_3, h_3 => gv_b (spX0_leafRowNext f1_c g1_c i3 b2_3) (fun q20 => lpX0_becomeNextOf_3 b2_3 f1_c g1_c be_c n3 (i3 + 1) (upd f_3 i3 q20) (upd h_3 i3 0))
theorem lpX0_becomeNextOf_3_0 (b2_3 : Int32) (f1_c : Nat → Int32) (g1_c : Nat → Int32) (be_c : Nat → Int32) (i3 : Nat) (f_3 : Nat → Int32) (h_3 : Nat → Int32) : lpX0_becomeNextOf_3 b2_3 f1_c g1_c be_c 0 i3 f_3 h_3 = lpX0_becomeNextOf_44 h_3 f1_c g1_c be_c 12 0 0 f_3 := rfl
theorem lpX0_becomeNextOf_3_s (b2_3 : Int32) (f1_c : Nat → Int32) (g1_c : Nat → Int32) (be_c : Nat → Int32) (n3 : Nat) (i3 : Nat) (f_3 : Nat → Int32) (h_3 : Nat → Int32) : lpX0_becomeNextOf_3 b2_3 f1_c g1_c be_c (n3 + 1) i3 f_3 h_3 = gv_b (spX0_leafRowNext f1_c g1_c i3 b2_3) (fun q20 => lpX0_becomeNextOf_3 b2_3 f1_c g1_c be_c n3 (i3 + 1) (upd f_3 i3 q20) (upd h_3 i3 0)) := rfl
def spX0_becomeNextOf (f : Nat → Int32) (h : Nat → Int32) (f1 : Nat → Int32) (g1 : Nat → Int32) (be : Nat → Int32) (p2 : Int32) : Int32 × (Nat → Int32) × (Nat → Int32) := lpX0_becomeNextOf_3 p2 f1 g1 be 8 0 f h
theorem spX0_becomeNextOf_e (f : Nat → Int32) (h : Nat → Int32) (f1 : Nat → Int32) (g1 : Nat → Int32) (be : Nat → Int32) (p2 : Int32) : spX0_becomeNextOf f h f1 g1 be p2 = lpX0_becomeNextOf_3 p2 f1 g1 be 8 0 f h := rfl
set_option maxHeartbeats 4000000 in
set_option maxRecDepth 100000 in
theorem kX0_becomeNextOf (l : Launch) (dC : Nat → ClassId) (dI : Nat → Nat → Nat) (cI cL : ClassId) (h0 : Nat) (h1 : Nat) (h2 : Nat) (k0 : Nat) (k1 : Nat) (k2 : Nat) (b0 : Nat) (f : Nat → Int32) (h : Nat → Int32) (f1 : Nat → Int32) (g1 : Nat → Int32) (be : Nat → Int32) (p2 : Int32) : gv_Mi l yX0_becomeNextOf wsX0_becomeNextOf 4 99 (dC, dI) [(cI, .int), (cL, .long)] [.ref h0, .ref k0, .int p2, .ref b0] (gv_WWA cI h0 h1 h2 k0 k1 k2 b0 f h f1 g1 be) (fun (r : Int32) (u : (Nat → Int32) × (Nat → Int32)) => (r, u) = spX0_becomeNextOf f h f1 g1 be p2) (fun (u : (Nat → Int32) × (Nat → Int32)) => (gv_WWA cI h0 h1 h2 k0 k1 k2 b0 u.1 u.2 f1 g1 be)) := by
  refine gv_ofi (cc := cX0_becomeNextOf) (maxL := 6) (own := RX0) (by decide) rfl (Nat.le_of_ble_eq_true rfl) rfl ?_
  intro A p e s m args below meth c Q ls H locs hx hb hml hts hown hP hK hD hN hS hl kr
  have inX0 : ∀ w ∈ wsX00, w ∈ wsX0_becomeNextOf := (fun _ h => List.mem_cons_of_mem _ (List.mem_append_right _ h))
  have hl : lv_has ls 6 [(0, .ref h0), (1, .ref k0), (2, .int p2), (3, .ref b0)] := hl
  have he := (spX0_becomeNextOf_e f h f1 g1 be p2).symm
  refine lv_iconst (v := 0) hx hb dX0_becomeNextOf_0 (by decide) ?_
  refine lv_istore (lv' := [(4, .int 0), (0, .ref h0), (1, .ref k0), (2, .int p2), (3, .ref b0)]) hx hb dX0_becomeNextOf_1 hl (by decide) rfl (fun ls hl => ?_)
  have L3 : ∀ (n3 i3 : Nat) (f_3 : Nat → Int32) (h_3 : Nat → Int32) (H : Heap) (locs : List Loc) (ls : Array Slot), i3 + n3 = 8 → lpX0_becomeNextOf_3 p2 f1 g1 be n3 i3 f_3 h_3 = spX0_becomeNextOf f h f1 g1 be p2 → va_P (dC, dI) vwCl (gv_WWA cI h0 h1 h2 k0 k1 k2 b0 f_3 h_3 f1 g1 be) H → va_D A (gv_WWA cI h0 h1 h2 k0 k1 k2 b0 f_3 h_3 f1 g1 be) → va_S A s.heap H locs → lv_has ls 6 [(0, .ref h0), (1, .ref k0), (2, .int p2), (3, .ref b0), (4, .int (nI i3))] → W p l e (gv_R 4 99) s m args below meth c H locs 0 0 Q (F0 m 3 ls []) := by
    intro n3
    induction n3 with
    | zero =>
      intro i3 f_3 h_3 H locs ls hi3 he hP hD hS hl
      have he := (lpX0_becomeNextOf_3_0 _ _ _ _ _ _ _).symm.trans he
      refine lv_iload hx hb dX0_becomeNextOf_3 (lv_at hl 4 rfl) ?_
      refine lv_bipush (v := 8) hx hb dX0_becomeNextOf_5 (by decide) ?_
      refine lv_icmp_ge (tgt := 38) hx hb dX0_becomeNextOf_7 (by decide) (fun _ => ?_) (fun c => absurd c (gv_ge (N := 8) rfl (rfl : (8 : Int32) = nI 8) (by omega) (by omega)))
      refine lv_iconst (v := 0) hx hb dX0_becomeNextOf_38 (by decide) ?_
      refine lv_istore (lv' := [(4, .int 0), (0, .ref h0), (1, .ref k0), (2, .int p2), (3, .ref b0)]) hx hb dX0_becomeNextOf_39 hl (by decide) rfl (fun ls hl => ?_)
      refine lv_iconst (v := 0) hx hb dX0_becomeNextOf_41 (by decide) ?_
      refine lv_istore (lv' := [(5, .int 0), (4, .int 0), (0, .ref h0), (1, .ref k0), (2, .int p2), (3, .ref b0)]) hx hb dX0_becomeNextOf_42 hl (by decide) rfl (fun ls hl => ?_)
      have L44 : ∀ (n44 i44 : Nat) (x4_44 : Int32) (f_44 : Nat → Int32) (H : Heap) (locs : List Loc) (ls : Array Slot), i44 + n44 = 12 → lpX0_becomeNextOf_44 h_3 f1 g1 be n44 i44 x4_44 f_44 = spX0_becomeNextOf f h f1 g1 be p2 → va_P (dC, dI) vwCl (gv_WWA cI h0 h1 h2 k0 k1 k2 b0 f_44 h_3 f1 g1 be) H → va_D A (gv_WWA cI h0 h1 h2 k0 k1 k2 b0 f_44 h_3 f1 g1 be) → va_S A s.heap H locs → lv_has ls 6 [(0, .ref h0), (1, .ref k0), (2, .int p2), (3, .ref b0), (4, .int x4_44), (5, .int (nI i44))] → W p l e (gv_R 4 99) s m args below meth c H locs 0 0 Q (F0 m 44 ls []) := by
        intro n44
        induction n44 with
        | zero =>
          intro i44 x4_44 f_44 H locs ls hi44 he hP hD hS hl
          have he := (lpX0_becomeNextOf_44_0 _ _ _ _ _ _ _).symm.trans he
          refine lv_iload hx hb dX0_becomeNextOf_44 (lv_at hl 5 rfl) ?_
          refine lv_bipush (v := 12) hx hb dX0_becomeNextOf_46 (by decide) ?_
          refine lv_icmp_ge (tgt := 79) hx hb dX0_becomeNextOf_48 (by decide) (fun _ => ?_) (fun c => absurd c (gv_ge (N := 12) rfl (rfl : (12 : Int32) = nI 12) (by omega) (by omega)))
          refine lv_iload hx hb dX0_becomeNextOf_79 (lv_at hl 4 rfl) ?_
          exact kr x4_44 (f_44, h_3) _ _ _ _ he hP hS dX0_becomeNextOf_81
        | succ n44 ih44 =>
          intro i44 x4_44 f_44 H locs ls hi44 he hP hD hS hl
          have he := (lpX0_becomeNextOf_44_s _ _ _ _ _ _ _ _).symm.trans he
          refine lv_iload hx hb dX0_becomeNextOf_44 (lv_at hl 5 rfl) ?_
          refine lv_bipush (v := 12) hx hb dX0_becomeNextOf_46 (by decide) ?_
          refine lv_icmp_ge (tgt := 79) hx hb dX0_becomeNextOf_48 (by decide) (fun c => absurd c (gv_lt (N := 12) rfl (rfl : (12 : Int32) = nI 12) (by omega) (by omega))) (fun _ => ?_)
          refine lv_iload hx hb dX0_becomeNextOf_51 (lv_at hl 4 rfl) ?_
          refine lv_aload_n hx hb dX0_becomeNextOf_53 rfl (lv_at hl 0 rfl) ?_
          refine lv_iload hx hb dX0_becomeNextOf_54 (lv_at hl 5 rfl) ?_
          refine lv_aload_n hx hb dX0_becomeNextOf_56 rfl (lv_at hl 0 rfl) ?_
          refine lv_iload hx hb dX0_becomeNextOf_57 (lv_at hl 5 rfl) ?_
          have hPc : va_P (dC, dI) vwCl (gv_W cI h0 h1 h2 f_44 h_3) H := gv_sub [0, 1, 2] hP rfl
          have hDc : va_D (gv_in (gv_W cI h0 h1 h2 f_44 h_3)) (gv_W cI h0 h1 h2 f_44 h_3) := gv_D hD [0, 1, 2] (by decide) rfl
          refine gv_ki (wf := (fun (_ : Unit) => (gv_W cI h0 h1 h2 f_44 h_3))) (wc := (gv_W cI h0 h1 h2 f_44 h_3)) [0, 1, 2] (fun _ => rfl) hP hD hS rfl rfl (va_runV (As := [.int (nI i44)]) (rest := [.int (nI i44), .ref h0, .int x4_44]) ⟨hx, hb, hml, hown, hts⟩ (kX0_countInColumn l dC dI cI cL h0 h1 h2 f_44 h_3 (nI i44) (gv_in (gv_W cI h0 h1 h2 f_44 h_3))) (cwV (rm := gv_R 2 45) 1 hts gX0_becomeNextOf_X0_countInColumn rfl rfl rfl (by decide +kernel) ⟨Nat.le_of_ble_eq_true rfl, Nat.le_of_ble_eq_true rfl⟩) (gv_preV (ci := 0) hK hPc hDc hN rfl rfl) rfl rfl hl.1 rfl (lv_room (Nat.le_of_ble_eq_true rfl)) dX0_becomeNextOf_59 ⟨Nat.zero_le _, Nat.zero_le _⟩) (fun q59 u H locs hw hP hD hS => ?_)
          have he := gv_q hw he
          have hP : va_P (dC, dI) vwCl (gv_WWA cI h0 h1 h2 k0 k1 k2 b0 f_44 h_3 f1 g1 be) H := hP
          have hD : va_D A (gv_WWA cI h0 h1 h2 k0 k1 k2 b0 f_44 h_3 f1 g1 be) := hD
          refine lv_aload_n hx hb dX0_becomeNextOf_62 rfl (lv_at hl 3 rfl) ?_
          refine lv_iload hx hb dX0_becomeNextOf_63 (lv_at hl 5 rfl) ?_
          refine gv_iald (cA := cI) (f := be) (k := i44) hx hb hK hP 6 0 rfl rfl rfl (by omega) (by decide) dX0_becomeNextOf_65 ?_
          refine lv_isub hx hb dX0_becomeNextOf_66 ?_
          have hPc : va_P (dC, dI) vwCl (gv_W cI h0 h1 h2 f_44 h_3) H := gv_sub [0, 1, 2] hP rfl
          have hDc : va_D (gv_in (gv_W cI h0 h1 h2 f_44 h_3)) (gv_W cI h0 h1 h2 f_44 h_3) := gv_D hD [0, 1, 2] (by decide) rfl
          refine gv_ki (wf := (fun (u : (Nat → Int32)) => (gv_W cI h0 h1 h2 u h_3))) (wc := (gv_W cI h0 h1 h2 f_44 h_3)) [0, 1, 2] (fun _ => rfl) hP hD hS rfl rfl (va_runV (As := [.int (nI i44), .int (q59 - (be i44))]) (rest := [.int x4_44]) ⟨hx, hb, hml, hown, hts⟩ (kX0_takeTopmost l dC dI cI cL h0 h1 h2 f_44 h_3 (nI i44) (q59 - (be i44)) (gv_in (gv_W cI h0 h1 h2 f_44 h_3))) (cwV (rm := gv_R 2 43) 2 hts gX0_becomeNextOf_X0_takeTopmost rfl rfl rfl (by decide +kernel) ⟨Nat.le_of_ble_eq_true rfl, Nat.le_of_ble_eq_true rfl⟩) (gv_preV (ci := 0) hK hPc hDc hN rfl rfl) rfl rfl hl.1 rfl (lv_room (Nat.le_of_ble_eq_true rfl)) dX0_becomeNextOf_67 ⟨Nat.zero_le _, Nat.zero_le _⟩) (fun q67 u H locs hw hP hD hS => ?_)
          obtain ⟨f_q67, rfl⟩ : ∃ z, z = u := ⟨_, rfl⟩
          have he := gv_q2 hw he
          have hP : va_P (dC, dI) vwCl (gv_WWA cI h0 h1 h2 k0 k1 k2 b0 f_q67 h_3 f1 g1 be) H := hP
          have hD : va_D A (gv_WWA cI h0 h1 h2 k0 k1 k2 b0 f_q67 h_3 f1 g1 be) := hD
          refine lv_iadd hx hb dX0_becomeNextOf_70 ?_
          refine lv_istore (lv' := [(4, .int (x4_44 + q67)), (0, .ref h0), (1, .ref k0), (2, .int p2), (3, .ref b0), (5, .int (nI i44))]) hx hb dX0_becomeNextOf_71 hl (by decide) rfl (fun ls hl => ?_)
          refine lv_iinc (v := (nI (i44 + 1))) (lv' := [(5, .int (nI (i44 + 1))), (4, .int (x4_44 + q67)), (0, .ref h0), (1, .ref k0), (2, .int p2), (3, .ref b0)]) hx hb dX0_becomeNextOf_73 hl (k := 5) rfl (nI_1 i44) (by decide) rfl (fun ls hl => ?_)
          refine lv_goto (tgt := 44) hx hb dX0_becomeNextOf_76 (by decide) ?_
          exact ih44 (i44 + 1) (x4_44 + q67) f_q67 _ _ _ (by omega) he hP hD hS (lv_sub hl [2, 3, 4, 5, 1, 0] rfl)
      exact L44 12 0 0 f_3 _ _ _ (by omega) he hP hD hS (lv_sub hl [2, 3, 4, 5, 1, 0] rfl)
    | succ n3 ih3 =>
      intro i3 f_3 h_3 H locs ls hi3 he hP hD hS hl
      have he := (lpX0_becomeNextOf_3_s _ _ _ _ _ _ _ _).symm.trans he
      refine lv_iload hx hb dX0_becomeNextOf_3 (lv_at hl 4 rfl) ?_
      refine lv_bipush (v := 8) hx hb dX0_becomeNextOf_5 (by decide) ?_
      refine lv_icmp_ge (tgt := 38) hx hb dX0_becomeNextOf_7 (by decide) (fun c => absurd c (gv_lt (N := 8) rfl (rfl : (8 : Int32) = nI 8) (by omega) (by omega))) (fun _ => ?_)
      refine lv_aload_n hx hb dX0_becomeNextOf_10 rfl (lv_at hl 0 rfl) ?_
      refine va_get (D := (dC, dI)) (ci := 0) (v := .ref h1) (C := RX0) (T := TX0) (N := 2) hx hb hts inX0 hown hK hP 0 rfl rfl 0 (by decide) (hts (.fieldLink RX0 9 "VineWall$Wall" "leafRows" "[I") (List.mem_of_getElem? (i := 1) rfl)) (fun _ h9 => h9) rfl dX0_becomeNextOf_11 ?_
      refine lv_iload hx hb dX0_becomeNextOf_14 (lv_at hl 4 rfl) ?_
      refine lv_aload_n hx hb dX0_becomeNextOf_16 rfl (lv_at hl 1 rfl) ?_
      refine lv_iload hx hb dX0_becomeNextOf_17 (lv_at hl 4 rfl) ?_
      refine lv_iload_n hx hb dX0_becomeNextOf_19 rfl (lv_at hl 2 rfl) ?_
      have hPc : va_P (dC, dI) vwCl (gv_W cI k0 k1 k2 f1 g1) H := gv_sub [3, 4, 5] hP rfl
      have hDc : va_D (gv_in (gv_W cI k0 k1 k2 f1 g1)) (gv_W cI k0 k1 k2 f1 g1) := gv_D hD [3, 4, 5] (by decide) rfl
      refine gv_ki (wf := (fun (_ : Unit) => (gv_W cI k0 k1 k2 f1 g1))) (wc := (gv_W cI k0 k1 k2 f1 g1)) [3, 4, 5] (fun _ => rfl) hP hD hS rfl rfl (va_runV (As := [.int (nI i3), .int p2]) (rest := [.int (nI i3), .ref h1]) ⟨hx, hb, hml, hown, hts⟩ (kX0_leafRowNext l dC dI cI cL k0 k1 k2 f1 g1 (nI i3) i3 rfl p2 (by omega) (gv_in (gv_W cI k0 k1 k2 f1 g1))) (cwV (rm := gv_R 3 70) 2 hts gX0_becomeNextOf_X0_leafRowNext rfl rfl rfl (by decide +kernel) ⟨Nat.le_of_ble_eq_true rfl, Nat.le_of_ble_eq_true rfl⟩) (gv_preV (ci := 0) hK hPc hDc hN rfl rfl) rfl rfl hl.1 rfl (lv_room (Nat.le_of_ble_eq_true rfl)) dX0_becomeNextOf_20 ⟨Nat.zero_le _, Nat.zero_le _⟩) (fun q20 u H locs hw hP hD hS => ?_)
      have he := gv_q hw he
      have hP : va_P (dC, dI) vwCl (gv_WWA cI h0 h1 h2 k0 k1 k2 b0 f_3 h_3 f1 g1 be) H := hP
      have hD : va_D A (gv_WWA cI h0 h1 h2 k0 k1 k2 b0 f_3 h_3 f1 g1 be) := hD
      refine gv_iast (cA := cI) (k := i3) hx hb hK hP hD hS 1 0 rfl rfl rfl (by omega) (by decide) dX0_becomeNextOf_23 (fun H locs hP hD hS => ?_)
      have hP : va_P (dC, dI) vwCl (gv_WWA cI h0 h1 h2 k0 k1 k2 b0 (upd f_3 i3 q20) h_3 f1 g1 be) H := hP
      have hD : va_D A (gv_WWA cI h0 h1 h2 k0 k1 k2 b0 (upd f_3 i3 q20) h_3 f1 g1 be) := hD
      refine lv_aload_n hx hb dX0_becomeNextOf_24 rfl (lv_at hl 0 rfl) ?_
      refine va_get (D := (dC, dI)) (ci := 0) (v := .ref h2) (C := RX0) (T := TX0) (N := 2) hx hb hts inX0 hown hK hP 0 rfl rfl 1 (by decide) (hts (.fieldLink RX0 15 "VineWall$Wall" "cutRows" "[I") (List.mem_of_getElem? (i := 2) rfl)) (fun _ h9 => h9) rfl dX0_becomeNextOf_25 ?_
      refine lv_iload hx hb dX0_becomeNextOf_28 (lv_at hl 4 rfl) ?_
      refine lv_iconst (v := 0) hx hb dX0_becomeNextOf_30 (by decide) ?_
      refine gv_iast (cA := cI) (k := i3) hx hb hK hP hD hS 2 0 rfl rfl rfl (by omega) (by decide) dX0_becomeNextOf_31 (fun H locs hP hD hS => ?_)
      have hP : va_P (dC, dI) vwCl (gv_WWA cI h0 h1 h2 k0 k1 k2 b0 (upd f_3 i3 q20) (upd h_3 i3 0) f1 g1 be) H := hP
      have hD : va_D A (gv_WWA cI h0 h1 h2 k0 k1 k2 b0 (upd f_3 i3 q20) (upd h_3 i3 0) f1 g1 be) := hD
      refine lv_iinc (v := (nI (i3 + 1))) (lv' := [(4, .int (nI (i3 + 1))), (0, .ref h0), (1, .ref k0), (2, .int p2), (3, .ref b0)]) hx hb dX0_becomeNextOf_32 hl (k := 4) rfl (nI_1 i3) (by decide) rfl (fun ls hl => ?_)
      refine lv_goto (tgt := 3) hx hb dX0_becomeNextOf_35 (by decide) ?_
      exact ih3 (i3 + 1) (upd f_3 i3 q20) (upd h_3 i3 0) _ _ _ (by omega) he hP hD hS (lv_sub hl [1, 2, 3, 4, 0] rfl)
  exact L3 8 0 f h _ _ _ (by omega) he hP hD hS (lv_sub hl [1, 2, 3, 4, 0] rfl)
