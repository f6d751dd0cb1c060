def lpX2_breaks_29 (n1_29 : Nat) (n3_29 : Nat) (be_c : Nat → Int32) (si_c : Int32) (ge_c : Int32) (cu_c : Int32) (pl_c : Int32) (br_c : Int32) (th_c : Int32) (k : Int32 → (Nat → Int32) → Int32 × (Nat → Int32)) : Nat → (Int32) → (Int32) → (Nat → Int32) → Int32 × (Nat → Int32)
  | 0, x2_29, _, g_29 => k x2_29 g_29
  | n29 + 1, x2_29, x4_29, g_29 => (if x4_29 ≤ 0 then k x2_29 g_29 else gv_b (spX2_leafAt g_29 be_c si_c ge_c cu_c pl_c br_c th_c n1_29 (nI n29) (nI n3_29)) (fun q44 => (if q44 = 1 then lpX2_breaks_29 n1_29 n3_29 be_c si_c ge_c cu_c pl_c br_c th_c k n29 (x2_29 + 1) (x4_29 - 1) (upd g_29 (((96 * n1_29) + (12 * n29)) + n3_29) 0) else lpX2_breaks_29 n1_29 n3_29 be_c si_c ge_c cu_c pl_c br_c th_c k n29 x2_29 x4_29 g_29)))
theorem lpX2_breaks_29_0 (n1_29 : Nat) (n3_29 : Nat) (be_c : Nat → Int32) (si_c : Int32) (ge_c : Int32) (cu_c : Int32) (pl_c : Int32) (br_c : Int32) (th_c : Int32) (k : Int32 → (Nat → Int32) → Int32 × (Nat → Int32)) (x2_29 : Int32) (x4_29 : Int32) (g_29 : Nat → Int32) : lpX2_breaks_29 n1_29 n3_29 be_c si_c ge_c cu_c pl_c br_c th_c k 0 x2_29 x4_29 g_29 = k x2_29 g_29 := rfl
theorem lpX2_breaks_29_s (n1_29 : Nat) (n3_29 : Nat) (be_c : Nat → Int32) (si_c : Int32) (ge_c : Int32) (cu_c : Int32) (pl_c : Int32) (br_c : Int32) (th_c : Int32) (k : Int32 → (Nat → Int32) → Int32 × (Nat → Int32)) (n29 : Nat) (x2_29 : Int32) (x4_29 : Int32) (g_29 : Nat → Int32) : lpX2_breaks_29 n1_29 n3_29 be_c si_c ge_c cu_c pl_c br_c th_c k (n29 + 1) x2_29 x4_29 g_29 = (if x4_29 ≤ 0 then k x2_29 g_29 else gv_b (spX2_leafAt g_29 be_c si_c ge_c cu_c pl_c br_c th_c n1_29 (nI n29) (nI n3_29)) (fun q44 => (if q44 = 1 then lpX2_breaks_29 n1_29 n3_29 be_c si_c ge_c cu_c pl_c br_c th_c k n29 (x2_29 + 1) (x4_29 - 1) (upd g_29 (((96 * n1_29) + (12 * n29)) + n3_29) 0) else lpX2_breaks_29 n1_29 n3_29 be_c si_c ge_c cu_c pl_c br_c th_c k n29 x2_29 x4_29 g_29))) := rfl
def lpX2_breaks_4 (n1_4 : Nat) (be_c : Nat → Int32) (si_c : Int32) (ge_c : Int32) (cu_c : Int32) (pl_c : Int32) (br_c : Int32) (th_c : Int32) : Nat → Nat → (Int32) → (Nat → Int32) → Int32 × (Nat → Int32)
  | 0, _, x2_4, g_4 => (x2_4, g_4)
  | n4 + 1, i4, x2_4, g_4 => gv_b (spX2_inColumn g_4 be_c si_c ge_c cu_c pl_c br_c th_c n1_4 (nI i4)) (fun q13 => lpX2_breaks_29 n1_4 i4 be_c si_c ge_c cu_c pl_c br_c th_c (fun x2_29 g_29 => lpX2_breaks_4 n1_4 be_c si_c ge_c cu_c pl_c br_c th_c n4 (i4 + 1) x2_29 g_29) 8 x2_4 (q13 - (be_c i4)) g_4)
theorem lpX2_breaks_4_0 (n1_4 : Nat) (be_c : Nat → Int32) (si_c : Int32) (ge_c : Int32) (cu_c : Int32) (pl_c : Int32) (br_c : Int32) (th_c : Int32) (i4 : Nat) (x2_4 : Int32) (g_4 : Nat → Int32) : lpX2_breaks_4 n1_4 be_c si_c ge_c cu_c pl_c br_c th_c 0 i4 x2_4 g_4 = (x2_4, g_4) := rfl
theorem lpX2_breaks_4_s (n1_4 : Nat) (be_c : Nat → Int32) (si_c : Int32) (ge_c : Int32) (cu_c : Int32) (pl_c : Int32) (br_c : Int32) (th_c : Int32) (n4 : Nat) (i4 : Nat) (x2_4 : Int32) (g_4 : Nat → Int32) : lpX2_breaks_4 n1_4 be_c si_c ge_c cu_c pl_c br_c th_c (n4 + 1) i4 x2_4 g_4 = gv_b (spX2_inColumn g_4 be_c si_c ge_c cu_c pl_c br_c th_c n1_4 (nI i4)) (fun q13 => lpX2_breaks_29 n1_4 i4 be_c si_c ge_c cu_c pl_c br_c th_c (fun x2_29 g_29 => lpX2_breaks_4 n1_4 be_c si_c ge_c cu_c pl_c br_c th_c n4 (i4 + 1) x2_29 g_29) 8 x2_4 (q13 - (be_c i4)) g_4) := rfl
def spX2_breaks (g : Nat → Int32) (be : Nat → Int32) (si : Int32) (ge : Int32) (cu : Int32) (pl : Int32) (br : Int32) (th : Int32) (w1 : Nat) : Int32 × (Nat → Int32) := lpX2_breaks_4 w1 be si ge cu pl br th 12 0 0 g
theorem spX2_breaks_e (g : Nat → Int32) (be : Nat → Int32) (si : Int32) (ge : Int32) (cu : Int32) (pl : Int32) (br : Int32) (th : Int32) (w1 : Nat) : spX2_breaks g be si ge cu pl br th w1 = lpX2_breaks_4 w1 be si ge cu pl br th 12 0 0 g := rfl
set_option maxHeartbeats 4000000 in
set_option maxRecDepth 100000 in
theorem kX2_breaks (l : Launch) (dC : Nat → ClassId) (dI : Nat → Nat → Nat) (cI cL : ClassId) (am : Nat → Nat) (g : Nat → Int32) (be : Nat → Int32) (si : Int32) (ge : Int32) (cu : Int32) (pl : Int32) (br : Int32) (th : Int32) (p1 : Int32) (w1 : Nat) (hw1 : p1 = nI w1) (hy0 : w1 < 62) : gv_Mi l yX2_breaks wsX2_breaks 4 91 (dC, dI) [(cI, .int), (cL, .long)] [.ref (am 0), .int p1] (gv_M cI am g be si ge cu pl br th) (fun (r : Int32) (u : (Nat → Int32)) => (r, u) = spX2_breaks g be si ge cu pl br th w1) (fun (u : (Nat → Int32)) => (gv_M cI am u be si ge cu pl br th)) := by
  subst hw1
  refine gv_ofi (cc := cX2_breaks) (maxL := 6) (own := RX2) (by decide) rfl (Nat.le_of_ble_eq_true rfl) rfl ?_
  intro A p e s m args below meth c Q ls H locs hx hb hml hts hown hP hK hD hN hS hl kr
  have inX2 : ∀ w ∈ wsX20, w ∈ wsX2_breaks := (fun _ h => List.mem_cons_of_mem _ (List.mem_append_right _ h))
  have hl : lv_has ls 6 [(0, .ref (am 0)), (1, .int (nI w1))] := hl
  have he := (spX2_breaks_e g be si ge cu pl br th w1).symm
  refine lv_iconst (v := 0) hx hb dX2_breaks_0 (by decide) ?_
  refine lv_istore_n (lv' := [(2, .int 0), (0, .ref (am 0)), (1, .int (nI w1))]) hx hb dX2_breaks_1 rfl hl (by decide) rfl (fun ls hl => ?_)
  refine lv_iconst (v := 0) hx hb dX2_breaks_2 (by decide) ?_
  refine lv_istore_n (lv' := [(3, .int 0), (2, .int 0), (0, .ref (am 0)), (1, .int (nI w1))]) hx hb dX2_breaks_3 rfl hl (by decide) rfl (fun ls hl => ?_)
  have L4 : ∀ (n4 i4 : Nat) (x2_4 : Int32) (g_4 : Nat → Int32) (H : Heap) (locs : List Loc) (ls : Array Slot), i4 + n4 = 12 → lpX2_breaks_4 w1 be si ge cu pl br th n4 i4 x2_4 g_4 = spX2_breaks g be si ge cu pl br th w1 → va_P (dC, dI) vwCl (gv_M cI am g_4 be si ge cu pl br th) H → va_D A (gv_M cI am g_4 be si ge cu pl br th) → va_S A s.heap H locs → lv_has ls 6 [(0, .ref (am 0)), (1, .int (nI w1)), (2, .int x2_4), (3, .int (nI i4))] → W p l e (gv_R 4 91) s m args below meth c H locs 0 0 Q (F0 m 4 ls []) := by
    intro n4
    induction n4 with
    | zero =>
      intro i4 x2_4 g_4 H locs ls hi4 he hP hD hS hl
      have he := (lpX2_breaks_4_0 _ _ _ _ _ _ _ _ _ _ _).symm.trans he
      refine lv_iload_n hx hb dX2_breaks_4 rfl (lv_at hl 3 rfl) ?_
      refine lv_bipush (v := 12) hx hb dX2_breaks_5 (by decide) ?_
      refine lv_icmp_ge (tgt := 87) hx hb dX2_breaks_7 (by decide) (fun _ => ?_) (fun c => absurd c (gv_ge (N := 12) rfl (rfl : (12 : Int32) = nI 12) (by omega) (by omega)))
      refine lv_iload_n hx hb dX2_breaks_87 rfl (lv_at hl 2 rfl) ?_
      exact kr x2_4 g_4 _ _ _ _ he hP hS dX2_breaks_88
    | succ n4 ih4 =>
      intro i4 x2_4 g_4 H locs ls hi4 he hP hD hS hl
      have he := (lpX2_breaks_4_s _ _ _ _ _ _ _ _ _ _ _ _).symm.trans he
      refine lv_iload_n hx hb dX2_breaks_4 rfl (lv_at hl 3 rfl) ?_
      refine lv_bipush (v := 12) hx hb dX2_breaks_5 (by decide) ?_
      refine lv_icmp_ge (tgt := 87) hx hb dX2_breaks_7 (by decide) (fun c => absurd c (gv_lt (N := 12) rfl (rfl : (12 : Int32) = nI 12) (by omega) (by omega))) (fun _ => ?_)
      refine lv_aload_n hx hb dX2_breaks_10 rfl (lv_at hl 0 rfl) ?_
      refine lv_iload_n hx hb dX2_breaks_11 rfl (lv_at hl 1 rfl) ?_
      refine lv_iload_n hx hb dX2_breaks_12 rfl (lv_at hl 3 rfl) ?_
      have hPc : va_P (dC, dI) vwCl (gv_M cI am g_4 be si ge cu pl br th) H := gv_sub [0, 1, 2] hP rfl
      have hDc : va_D (gv_in (gv_M cI am g_4 be si ge cu pl br th)) (gv_M cI am g_4 be si ge cu pl br th) := gv_D hD [0, 1, 2] (by decide) rfl
      refine gv_ki (wf := (fun (_ : Unit) => (gv_M cI am g_4 be si ge cu pl br th))) (wc := (gv_M cI am g_4 be si ge cu pl br th)) [0, 1, 2] (fun _ => rfl) hP hD hS rfl rfl (va_runV (As := [.int (nI w1), .int (nI i4)]) (rest := []) ⟨hx, hb, hml, hown, hts⟩ (kX2_inColumn l dC dI cI cL am g_4 be si ge cu pl br th (nI w1) w1 rfl (nI i4) (by omega) (gv_in (gv_M cI am g_4 be si ge cu pl br th))) (cwV (rm := gv_R 3 69) 2 hts gX2_breaks_X2_inColumn rfl rfl rfl (by decide +kernel) ⟨Nat.le_of_ble_eq_true rfl, Nat.le_of_ble_eq_true rfl⟩) (gv_preV (ci := 2) hK hPc hDc hN rfl rfl) rfl rfl hl.1 rfl (lv_room (Nat.le_of_ble_eq_true rfl)) dX2_breaks_13 ⟨Nat.zero_le _, Nat.zero_le _⟩) (fun q13 u H locs hw hP hD hS => ?_)
      have he := gv_q hw he
      have hP : va_P (dC, dI) vwCl (gv_M cI am g_4 be si ge cu pl br th) H := hP
      have hD : va_D A (gv_M cI am g_4 be si ge cu pl br th) := hD
      refine lv_aload_n hx hb dX2_breaks_16 rfl (lv_at hl 0 rfl) ?_
      refine va_get (D := (dC, dI)) (ci := 2) (v := .ref (am 2)) (C := RX2) (T := TX2) (N := 8) hx hb hts inX2 hown hK hP 0 rfl rfl 1 (by decide) (hts (.fieldLink RX2 13 "VineWallModel" "bears" "[I") (List.mem_of_getElem? (i := 1) rfl)) (fun _ h9 => h9) rfl dX2_breaks_17 ?_
      refine lv_iload_n hx hb dX2_breaks_20 rfl (lv_at hl 3 rfl) ?_
      refine gv_iald (cA := cI) (f := be) (k := i4) hx hb hK hP 2 0 rfl rfl rfl (by omega) (by decide) dX2_breaks_21 ?_
      refine lv_isub hx hb dX2_breaks_22 ?_
      refine lv_istore (lv' := [(4, .int (q13 - (be i4))), (0, .ref (am 0)), (1, .int (nI w1)), (2, .int x2_4), (3, .int (nI i4))]) hx hb dX2_breaks_23 hl (by decide) rfl (fun ls hl => ?_)
      refine lv_bipush (v := 7) hx hb dX2_breaks_25 (by decide) ?_
      refine lv_istore (lv' := [(5, .int 7), (4, .int (q13 - (be i4))), (0, .ref (am 0)), (1, .int (nI w1)), (2, .int x2_4), (3, .int (nI i4))]) hx hb dX2_breaks_27 hl (by decide) rfl (fun ls hl => ?_)
      obtain ⟨K29, hK29⟩ : ∃ z, z = (fun (x2_29 : Int32) (g_29 : Nat → Int32) => lpX2_breaks_4 w1 be si ge cu pl br th n4 (i4 + 1) x2_29 g_29) := ⟨_, rfl⟩
      have he : lpX2_breaks_29 w1 i4 be si ge cu pl br th K29 8 x2_4 (q13 - (be i4)) g_4 = spX2_breaks g be si ge cu pl br th w1 := by rw [hK29]; exact he
      have L29 : ∀ (n29 : Nat) (x2_29 : Int32) (x4_29 : Int32) (g_29 : Nat → Int32) (H : Heap) (locs : List Loc) (ls : Array Slot), n29 ≤ 8 → lpX2_breaks_29 w1 i4 be si ge cu pl br th K29 n29 x2_29 x4_29 g_29 = spX2_breaks g be si ge cu pl br th w1 → va_P (dC, dI) vwCl (gv_M cI am g_29 be si ge cu pl br th) H → va_D A (gv_M cI am g_29 be si ge cu pl br th) → va_S A s.heap H locs → lv_has ls 6 [(0, .ref (am 0)), (1, .int (nI w1)), (2, .int x2_29), (3, .int (nI i4)), (4, .int x4_29), (5, .int (nI n29 - 1))] → W p l e (gv_R 4 91) s m args below meth c H locs 0 0 Q (F0 m 29 ls []) := by
        intro n29
        induction n29 with
        | zero =>
          intro x2_29 x4_29 g_29 H locs ls hi29 he hP hD hS hl
          have he := (lpX2_breaks_29_0 _ _ _ _ _ _ _ _ _ _ _ _ _).symm.trans he
          have hl : lv_has ls 6 [(0, .ref (am 0)), (1, .int (nI w1)), (2, .int x2_29), (3, .int (nI i4)), (4, .int x4_29), (5, .int (nI 0 - 1))] := hl
          refine lv_iload hx hb dX2_breaks_29 (lv_at hl 5 rfl) ?_
          refine lv_if_lt (tgt := 81) hx hb dX2_breaks_31 (by decide) (fun _ => ?_) (fun c => absurd (by decide) c)
          have he := gv_k2 hK29 he
          refine lv_iinc (v := (nI (i4 + 1))) (lv' := [(3, .int (nI (i4 + 1))), (0, .ref (am 0)), (1, .int (nI w1)), (2, .int x2_29), (4, .int x4_29), (5, .int (nI 0 - 1))]) hx hb dX2_breaks_81 hl (k := 3) rfl (nI_1 i4) (by decide) rfl (fun ls hl => ?_)
          refine lv_goto (tgt := 4) hx hb dX2_breaks_84 (by decide) ?_
          exact ih4 (i4 + 1) x2_29 g_29 _ _ _ (by omega) he hP hD hS (lv_sub hl [1, 2, 3, 0] rfl)
        | succ n29 ih29 =>
          intro x2_29 x4_29 g_29 H locs ls hi29 he hP hD hS hl
          have he := (lpX2_breaks_29_s _ _ _ _ _ _ _ _ _ _ _ _ _ _).symm.trans he
          have hl : lv_has ls 6 [(0, .ref (am 0)), (1, .int (nI w1)), (2, .int x2_29), (3, .int (nI i4)), (4, .int x4_29), (5, .int (nI n29))] := by rw [nI_pred] at hl; exact hl
          refine lv_iload hx hb dX2_breaks_29 (lv_at hl 5 rfl) ?_
          refine lv_if_lt (tgt := 81) hx hb dX2_breaks_31 (by decide) (fun c => absurd c (nI_pos (by omega))) (fun _ => ?_)
          refine lv_iload hx hb dX2_breaks_34 (lv_at hl 4 rfl) ?_
          refine lv_if_le (tgt := 81) hx hb dX2_breaks_36 (by decide) (fun cd36 => ?_) (fun cd36 => ?_)
          · have he := gv_t cd36 he
            have he := gv_k2 hK29 he
            refine lv_iinc (v := (nI (i4 + 1))) (lv' := [(3, .int (nI (i4 + 1))), (0, .ref (am 0)), (1, .int (nI w1)), (2, .int x2_29), (4, .int x4_29), (5, .int (nI n29))]) hx hb dX2_breaks_81 hl (k := 3) rfl (nI_1 i4) (by decide) rfl (fun ls hl => ?_)
            refine lv_goto (tgt := 4) hx hb dX2_breaks_84 (by decide) ?_
            exact ih4 (i4 + 1) x2_29 g_29 _ _ _ (by omega) he hP hD hS (lv_sub hl [1, 2, 3, 0] rfl)
          · have he := gv_f cd36 he
            refine lv_aload_n hx hb dX2_breaks_39 rfl (lv_at hl 0 rfl) ?_
            refine lv_iload_n hx hb dX2_breaks_40 rfl (lv_at hl 1 rfl) ?_
            refine lv_iload hx hb dX2_breaks_41 (lv_at hl 5 rfl) ?_
            refine lv_iload_n hx hb dX2_breaks_43 rfl (lv_at hl 3 rfl) ?_
            have hPc : va_P (dC, dI) vwCl (gv_M cI am g_29 be si ge cu pl br th) H := gv_sub [0, 1, 2] hP rfl
            have hDc : va_D (gv_in (gv_M cI am g_29 be si ge cu pl br th)) (gv_M cI am g_29 be si ge cu pl br th) := gv_D hD [0, 1, 2] (by decide) rfl
            refine gv_ki (wf := (fun (_ : Unit) => (gv_M cI am g_29 be si ge cu pl br th))) (wc := (gv_M cI am g_29 be si ge cu pl br th)) [0, 1, 2] (fun _ => rfl) hP hD hS rfl rfl (va_runV (As := [.int (nI w1), .int (nI n29), .int (nI i4)]) (rest := []) ⟨hx, hb, hml, hown, hts⟩ (kX2_leafAt l dC dI cI cL am g_29 be si ge cu pl br th (nI w1) w1 rfl (nI n29) (nI i4) (by omega) (gv_in (gv_M cI am g_29 be si ge cu pl br th))) (cwV (rm := gv_R 1 20) 3 hts gX2_breaks_X2_leafAt rfl rfl rfl (by decide +kernel) ⟨Nat.le_of_ble_eq_true rfl, Nat.le_of_ble_eq_true rfl⟩) (gv_preV (ci := 2) hK hPc hDc hN rfl rfl) rfl rfl hl.1 rfl (lv_room (Nat.le_of_ble_eq_true rfl)) dX2_breaks_44 ⟨Nat.zero_le _, Nat.zero_le _⟩) (fun q44 u H locs hw hP hD hS => ?_)
            have he := gv_q hw he
            have hP : va_P (dC, dI) vwCl (gv_M cI am g_29 be si ge cu pl br th) H := hP
            have hD : va_D A (gv_M cI am g_29 be si ge cu pl br th) := hD
            refine lv_iconst (v := 1) hx hb dX2_breaks_47 (by decide) ?_
            refine lv_icmp_ne (tgt := 75) hx hb dX2_breaks_48 (by decide) (fun cd48 => ?_) (fun cd48 => ?_)
            · have he := gv_f cd48 he
              refine lv_iinc (v := (nI n29 - 1)) (lv' := [(5, .int (nI n29 - 1)), (0, .ref (am 0)), (1, .int (nI w1)), (2, .int x2_29), (3, .int (nI i4)), (4, .int x4_29)]) hx hb dX2_breaks_75 hl (k := 5) rfl (gv_dec _) (by decide) rfl (fun ls hl => ?_)
              refine lv_goto (tgt := 29) hx hb dX2_breaks_78 (by decide) ?_
              exact ih29  x2_29 x4_29 g_29 _ _ _ (by omega) he hP hD hS (lv_sub hl [1, 2, 3, 4, 5, 0] rfl)
            · have he := gv_t cd48 he
              refine lv_aload_n hx hb dX2_breaks_51 rfl (lv_at hl 0 rfl) ?_
              refine va_get (D := (dC, dI)) (ci := 2) (v := .ref (am 1)) (C := RX2) (T := TX2) (N := 8) hx hb hts inX2 hown hK hP 0 rfl rfl 0 (by decide) (hts (.fieldLink RX2 7 "VineWallModel" "walls" "[I") (List.mem_of_getElem? (i := 2) rfl)) (fun _ h9 => h9) rfl dX2_breaks_52 ?_
              refine lv_bipush (v := 96) hx hb dX2_breaks_55 (by decide) ?_
              refine lv_iload_n hx hb dX2_breaks_57 rfl (lv_at hl 1 rfl) ?_
              refine lv_imul hx hb dX2_breaks_58 ?_
              refine lv_bipush (v := 12) hx hb dX2_breaks_59 (by decide) ?_
              refine lv_iload hx hb dX2_breaks_61 (lv_at hl 5 rfl) ?_
              refine lv_imul hx hb dX2_breaks_63 ?_
              refine lv_iadd hx hb dX2_breaks_64 ?_
              refine lv_iload_n hx hb dX2_breaks_65 rfl (lv_at hl 3 rfl) ?_
              refine lv_iadd hx hb dX2_breaks_66 ?_
              refine lv_iconst (v := 0) hx hb dX2_breaks_67 (by decide) ?_
              refine gv_iast (cA := cI) (k := (((96 * w1) + (12 * n29)) + i4)) hx hb hK hP hD hS 1 0 rfl rfl (gn_add (gn_add (gn_mul (rfl : (96 : Int32) = nI 96) rfl) (gn_mul (rfl : (12 : Int32) = nI 12) rfl)) rfl) (by omega) (by decide) dX2_breaks_68 (fun H locs hP hD hS => ?_)
              have hP : va_P (dC, dI) vwCl (gv_M cI am (upd g_29 (((96 * w1) + (12 * n29)) + i4) 0) be si ge cu pl br th) H := hP
              have hD : va_D A (gv_M cI am (upd g_29 (((96 * w1) + (12 * n29)) + i4) 0) be si ge cu pl br th) := hD
              refine lv_iinc (v := x4_29 - 1) (lv' := [(4, .int (x4_29 - 1)), (0, .ref (am 0)), (1, .int (nI w1)), (2, .int x2_29), (3, .int (nI i4)), (5, .int (nI n29))]) hx hb dX2_breaks_69 hl (k := 4) rfl (gv_dec _) (by decide) rfl (fun ls hl => ?_)
              refine lv_iinc (v := x2_29 + 1) (lv' := [(2, .int (x2_29 + 1)), (4, .int (x4_29 - 1)), (0, .ref (am 0)), (1, .int (nI w1)), (3, .int (nI i4)), (5, .int (nI n29))]) hx hb dX2_breaks_72 hl (k := 3) rfl rfl (by decide) rfl (fun ls hl => ?_)
              refine lv_iinc (v := (nI n29 - 1)) (lv' := [(5, .int (nI n29 - 1)), (2, .int (x2_29 + 1)), (4, .int (x4_29 - 1)), (0, .ref (am 0)), (1, .int (nI w1)), (3, .int (nI i4))]) hx hb dX2_breaks_75 hl (k := 5) rfl (gv_dec _) (by decide) rfl (fun ls hl => ?_)
              refine lv_goto (tgt := 29) hx hb dX2_breaks_78 (by decide) ?_
              exact ih29  (x2_29 + 1) (x4_29 - 1) (upd g_29 (((96 * w1) + (12 * n29)) + i4) 0) _ _ _ (by omega) he hP hD hS (lv_sub hl [3, 4, 1, 5, 2, 0] rfl)
      exact L29 8 x2_4 (q13 - (be i4)) g_4 _ _ _ (by omega) he hP hD hS (lv_sub hl [2, 3, 4, 5, 1, 0] rfl)
  exact L4 12 0 0 g _ _ _ (by omega) he hP hD hS (lv_sub hl [2, 3, 1, 0] rfl)
def lpX2_grows_11 (n1_11 : Nat) (n2_11 : Nat) (n3_11 : Nat) (be_c : Nat → Int32) (si_c : Int32) (ge_c : Int32) (cu_c : Int32) (pl_c : Int32) (br_c : Int32) (th_c : Int32) (k : (Nat → Int32) → Int32 × (Nat → Int32)) : Nat → Nat → (Nat → Int32) → Int32 × (Nat → Int32)
  | 0, _, g_11 => k g_11
  | n11 + 1, i11, g_11 => gv_b (spX2_becomes g_11 be_c si_c ge_c cu_c pl_c br_c th_c n1_11 n3_11 i11) (fun q39 => lpX2_grows_11 n1_11 n2_11 n3_11 be_c si_c ge_c cu_c pl_c br_c th_c k n11 (i11 + 1) (upd g_11 (((96 * n2_11) + (12 * n3_11)) + i11) q39))
theorem lpX2_grows_11_0 (n1_11 : Nat) (n2_11 : Nat) (n3_11 : Nat) (be_c : Nat → Int32) (si_c : Int32) (ge_c : Int32) (cu_c : Int32) (pl_c : Int32) (br_c : Int32) (th_c : Int32) (k : (Nat → Int32) → Int32 × (Nat → Int32)) (i11 : Nat) (g_11 : Nat → Int32) : lpX2_grows_11 n1_11 n2_11 n3_11 be_c si_c ge_c cu_c pl_c br_c th_c k 0 i11 g_11 = k g_11 := rfl
theorem lpX2_grows_11_s (n1_11 : Nat) (n2_11 : Nat) (n3_11 : Nat) (be_c : Nat → Int32) (si_c : Int32) (ge_c : Int32) (cu_c : Int32) (pl_c : Int32) (br_c : Int32) (th_c : Int32) (k : (Nat → Int32) → Int32 × (Nat → Int32)) (n11 : Nat) (i11 : Nat) (g_11 : Nat → Int32) : lpX2_grows_11 n1_11 n2_11 n3_11 be_c si_c ge_c cu_c pl_c br_c th_c k (n11 + 1) i11 g_11 = gv_b (spX2_becomes g_11 be_c si_c ge_c cu_c pl_c br_c th_c n1_11 n3_11 i11) (fun q39 => lpX2_grows_11 n1_11 n2_11 n3_11 be_c si_c ge_c cu_c pl_c br_c th_c k n11 (i11 + 1) (upd g_11 (((96 * n2_11) + (12 * n3_11)) + i11) q39)) := rfl
def lpX2_grows_2 (n1_2 : Nat) (n2_2 : Nat) (be_c : Nat → Int32) (si_c : Int32) (ge_c : Int32) (cu_c : Int32) (pl_c : Int32) (br_c : Int32) (th_c : Int32) : Nat → Nat → (Nat → Int32) → Int32 × (Nat → Int32)
  | 0, _, g_2 => gv_b2 (spX2_breaks g_2 be_c si_c ge_c cu_c pl_c br_c th_c n2_2) (fun q57 g_q57 => (q57, g_q57))
  | n2 + 1, i2, g_2 => lpX2_grows_11 n1_2 n2_2 i2 be_c si_c ge_c cu_c pl_c br_c th_c (fun g_11 => lpX2_grows_2 n1_2 n2_2 be_c si_c ge_c cu_c pl_c br_c th_c n2 (i2 + 1) g_11) 12 0 g_2
theorem lpX2_grows_2_0 (n1_2 : Nat) (n2_2 : Nat) (be_c : Nat → Int32) (si_c : Int32) (ge_c : Int32) (cu_c : Int32) (pl_c : Int32) (br_c : Int32) (th_c : Int32) (i2 : Nat) (g_2 : Nat → Int32) : lpX2_grows_2 n1_2 n2_2 be_c si_c ge_c cu_c pl_c br_c th_c 0 i2 g_2 = gv_b2 (spX2_breaks g_2 be_c si_c ge_c cu_c pl_c br_c th_c n2_2) (fun q57 g_q57 => (q57, g_q57)) := rfl
theorem lpX2_grows_2_s (n1_2 : Nat) (n2_2 : Nat) (be_c : Nat → Int32) (si_c : Int32) (ge_c : Int32) (cu_c : Int32) (pl_c : Int32) (br_c : Int32) (th_c : Int32) (n2 : Nat) (i2 : Nat) (g_2 : Nat → Int32) : lpX2_grows_2 n1_2 n2_2 be_c si_c ge_c cu_c pl_c br_c th_c (n2 + 1) i2 g_2 = lpX2_grows_11 n1_2 n2_2 i2 be_c si_c ge_c cu_c pl_c br_c th_c (fun g_11 => lpX2_grows_2 n1_2 n2_2 be_c si_c ge_c cu_c pl_c br_c th_c n2 (i2 + 1) g_11) 12 0 g_2 := rfl
def spX2_grows (g : Nat → Int32) (be : Nat → Int32) (si : Int32) (ge : Int32) (cu : Int32) (pl : Int32) (br : Int32) (th : Int32) (w1 : Nat) (w2 : Nat) : Int32 × (Nat → Int32) := lpX2_grows_2 w1 w2 be si ge cu pl br th 8 0 g
theorem spX2_grows_e (g : Nat → Int32) (be : Nat → Int32) (si : Int32) (ge : Int32) (cu : Int32) (pl : Int32) (br : Int32) (th : Int32) (w1 : Nat) (w2 : Nat) : spX2_grows g be si ge cu pl br th w1 w2 = lpX2_grows_2 w1 w2 be si ge cu pl br th 8 0 g := rfl
set_option maxHeartbeats 4000000 in
set_option maxRecDepth 100000 in
theorem kX2_grows (l : Launch) (dC : Nat → ClassId) (dI : Nat → Nat → Nat) (cI cL : ClassId) (am : Nat → Nat) (g : Nat → Int32) (be : Nat → Int32) (si : Int32) (ge : Int32) (cu : Int32) (pl : Int32) (br : Int32) (th : Int32) (p1 : Int32) (w1 : Nat) (hw1 : p1 = nI w1) (p2 : Int32) (w2 : Nat) (hw2 : p2 = nI w2) (hy0 : w1 < 62) (hy1 : w2 < 62) : gv_Mi l yX2_grows wsX2_grows 5 117 (dC, dI) [(cI, .int), (cL, .long)] [.ref (am 0), .int p1, .int p2] (gv_M cI am g be si ge cu pl br th) (fun (r : Int32) (u : (Nat → Int32)) => (r, u) = spX2_grows g be si ge cu pl br th w1 w2) (fun (u : (Nat → Int32)) => (gv_M cI am u be si ge cu pl br th)) := by
  subst hw1
  subst hw2
  refine gv_ofi (cc := cX2_grows) (maxL := 5) (own := RX2) (by decide) rfl (Nat.le_of_ble_eq_true rfl) rfl ?_
  intro A p e s m args below meth c Q ls H locs hx hb hml hts hown hP hK hD hN hS hl kr
  have inX2 : ∀ w ∈ wsX20, w ∈ wsX2_grows := (fun _ h => List.mem_cons_of_mem _ (List.mem_append_right _ h))
  have hl : lv_has ls 5 [(0, .ref (am 0)), (1, .int (nI w1)), (2, .int (nI w2))] := hl
  have he := (spX2_grows_e g be si ge cu pl br th w1 w2).symm
  refine lv_iconst (v := 0) hx hb dX2_grows_0 (by decide) ?_
  refine lv_istore_n (lv' := [(3, .int 0), (0, .ref (am 0)), (1, .int (nI w1)), (2, .int (nI w2))]) hx hb dX2_grows_1 rfl hl (by decide) rfl (fun ls hl => ?_)
  have L2 : ∀ (n2 i2 : Nat) (g_2 : Nat → Int32) (H : Heap) (locs : List Loc) (ls : Array Slot), i2 + n2 = 8 → lpX2_grows_2 w1 w2 be si ge cu pl br th n2 i2 g_2 = spX2_grows g be si ge cu pl br th w1 w2 → va_P (dC, dI) vwCl (gv_M cI am g_2 be si ge cu pl br th) H → va_D A (gv_M cI am g_2 be si ge cu pl br th) → va_S A s.heap H locs → lv_has ls 5 [(0, .ref (am 0)), (1, .int (nI w1)), (2, .int (nI w2)), (3, .int (nI i2))] → W p l e (gv_R 5 117) s m args below meth c H locs 0 0 Q (F0 m 2 ls []) := by
    intro n2
    induction n2 with
    | zero =>
      intro i2 g_2 H locs ls hi2 he hP hD hS hl
      have he := (lpX2_grows_2_0 _ _ _ _ _ _ _ _ _ _ _).symm.trans he
      refine lv_iload_n hx hb dX2_grows_2 rfl (lv_at hl 3 rfl) ?_
      refine lv_bipush (v := 8) hx hb dX2_grows_3 (by decide) ?_
      refine lv_icmp_ge (tgt := 55) hx hb dX2_grows_5 (by decide) (fun _ => ?_) (fun c => absurd c (gv_ge (N := 8) rfl (rfl : (8 : Int32) = nI 8) (by omega) (by omega)))
      refine lv_aload_n hx hb dX2_grows_55 rfl (lv_at hl 0 rfl) ?_
      refine lv_iload_n hx hb dX2_grows_56 rfl (lv_at hl 2 rfl) ?_
      have hPc : va_P (dC, dI) vwCl (gv_M cI am g_2 be si ge cu pl br th) H := gv_sub [0, 1, 2] hP rfl
      have hDc : va_D (gv_in (gv_M cI am g_2 be si ge cu pl br th)) (gv_M cI am g_2 be si ge cu pl br th) := gv_D hD [0, 1, 2] (by decide) rfl
      refine gv_ki (wf := (fun (u : (Nat → Int32)) => (gv_M cI am u be si ge cu pl br th))) (wc := (gv_M cI am g_2 be si ge cu pl br th)) [0, 1, 2] (fun _ => rfl) hP hD hS rfl rfl (va_runV (As := [.int (nI w2)]) (rest := []) ⟨hx, hb, hml, hown, hts⟩ (kX2_breaks l dC dI cI cL am g_2 be si ge cu pl br th (nI w2) w2 rfl (by omega) (gv_in (gv_M cI am g_2 be si ge cu pl br th))) (cwV (rm := gv_R 4 91) 1 hts gX2_grows_X2_breaks rfl rfl rfl (by decide +kernel) ⟨Nat.le_of_ble_eq_true rfl, Nat.le_of_ble_eq_true rfl⟩) (gv_preV (ci := 2) hK hPc hDc hN rfl rfl) rfl rfl hl.1 rfl (lv_room (Nat.le_of_ble_eq_true rfl)) dX2_grows_57 ⟨Nat.zero_le _, Nat.zero_le _⟩) (fun q57 u H locs hw hP hD hS => ?_)
      obtain ⟨g_q57, rfl⟩ : ∃ z, z = u := ⟨_, rfl⟩
      have he := gv_q2 hw he
      have hP : va_P (dC, dI) vwCl (gv_M cI am g_q57 be si ge cu pl br th) H := hP
      have hD : va_D A (gv_M cI am g_q57 be si ge cu pl br th) := hD
      exact kr q57 g_q57 _ _ _ _ he hP hS dX2_grows_60
    | succ n2 ih2 =>
      intro i2 g_2 H locs ls hi2 he hP hD hS hl
      have he := (lpX2_grows_2_s _ _ _ _ _ _ _ _ _ _ _ _).symm.trans he
      refine lv_iload_n hx hb dX2_grows_2 rfl (lv_at hl 3 rfl) ?_
      refine lv_bipush (v := 8) hx hb dX2_grows_3 (by decide) ?_
      refine lv_icmp_ge (tgt := 55) hx hb dX2_grows_5 (by decide) (fun c => absurd c (gv_lt (N := 8) rfl (rfl : (8 : Int32) = nI 8) (by omega) (by omega))) (fun _ => ?_)
      refine lv_iconst (v := 0) hx hb dX2_grows_8 (by decide) ?_
      refine lv_istore (lv' := [(4, .int 0), (0, .ref (am 0)), (1, .int (nI w1)), (2, .int (nI w2)), (3, .int (nI i2))]) hx hb dX2_grows_9 hl (by decide) rfl (fun ls hl => ?_)
      obtain ⟨K11, hK11⟩ : ∃ z, z = (fun (g_11 : Nat → Int32) => lpX2_grows_2 w1 w2 be si ge cu pl br th n2 (i2 + 1) g_11) := ⟨_, rfl⟩
      have he : lpX2_grows_11 w1 w2 i2 be si ge cu pl br th K11 12 0 g_2 = spX2_grows g be si ge cu pl br th w1 w2 := by rw [hK11]; exact he
      have L11 : ∀ (n11 i11 : Nat) (g_11 : Nat → Int32) (H : Heap) (locs : List Loc) (ls : Array Slot), i11 + n11 = 12 → lpX2_grows_11 w1 w2 i2 be si ge cu pl br th K11 n11 i11 g_11 = spX2_grows g be si ge cu pl br th w1 w2 → va_P (dC, dI) vwCl (gv_M cI am g_11 be si ge cu pl br th) H → va_D A (gv_M cI am g_11 be si ge cu pl br th) → va_S A s.heap H locs → lv_has ls 5 [(0, .ref (am 0)), (1, .int (nI w1)), (2, .int (nI w2)), (3, .int (nI i2)), (4, .int (nI i11))] → W p l e (gv_R 5 117) s m args below meth c H locs 0 0 Q (F0 m 11 ls []) := by
        intro n11
        induction n11 with
        | zero =>
          intro i11 g_11 H locs ls hi11 he hP hD hS hl
          have he := (lpX2_grows_11_0 _ _ _ _ _ _ _ _ _ _ _ _ _).symm.trans he
          refine lv_iload hx hb dX2_grows_11 (lv_at hl 4 rfl) ?_
          refine lv_bipush (v := 12) hx hb dX2_grows_13 (by decide) ?_
          refine lv_icmp_ge (tgt := 49) hx hb dX2_grows_15 (by decide) (fun _ => ?_) (fun c => absurd c (gv_ge (N := 12) rfl (rfl : (12 : Int32) = nI 12) (by omega) (by omega)))
          have he := gv_k1 hK11 he
          refine lv_iinc (v := (nI (i2 + 1))) (lv' := [(3, .int (nI (i2 + 1))), (0, .ref (am 0)), (1, .int (nI w1)), (2, .int (nI w2)), (4, .int (nI i11))]) hx hb dX2_grows_49 hl (k := 3) rfl (nI_1 i2) (by decide) rfl (fun ls hl => ?_)
          refine lv_goto (tgt := 2) hx hb dX2_grows_52 (by decide) ?_
          exact ih2 (i2 + 1) g_11 _ _ _ (by omega) he hP hD hS (lv_sub hl [1, 2, 3, 0] rfl)
        | succ n11 ih11 =>
          intro i11 g_11 H locs ls hi11 he hP hD hS hl
          have he := (lpX2_grows_11_s _ _ _ _ _ _ _ _ _ _ _ _ _ _).symm.trans he
          refine lv_iload hx hb dX2_grows_11 (lv_at hl 4 rfl) ?_
          refine lv_bipush (v := 12) hx hb dX2_grows_13 (by decide) ?_
          refine lv_icmp_ge (tgt := 49) hx hb dX2_grows_15 (by decide) (fun c => absurd c (gv_lt (N := 12) rfl (rfl : (12 : Int32) = nI 12) (by omega) (by omega))) (fun _ => ?_)
          refine lv_aload_n hx hb dX2_grows_18 rfl (lv_at hl 0 rfl) ?_
          refine va_get (D := (dC, dI)) (ci := 2) (v := .ref (am 1)) (C := RX2) (T := TX2) (N := 8) hx hb hts inX2 hown hK hP 0 rfl rfl 0 (by decide) (hts (.fieldLink RX2 7 "VineWallModel" "walls" "[I") (List.mem_of_getElem? (i := 1) rfl)) (fun _ h9 => h9) rfl dX2_grows_19 ?_
          refine lv_bipush (v := 96) hx hb dX2_grows_22 (by decide) ?_
          refine lv_iload_n hx hb dX2_grows_24 rfl (lv_at hl 2 rfl) ?_
          refine lv_imul hx hb dX2_grows_25 ?_
          refine lv_bipush (v := 12) hx hb dX2_grows_26 (by decide) ?_
          refine lv_iload_n hx hb dX2_grows_28 rfl (lv_at hl 3 rfl) ?_
          refine lv_imul hx hb dX2_grows_29 ?_
          refine lv_iadd hx hb dX2_grows_30 ?_
          refine lv_iload hx hb dX2_grows_31 (lv_at hl 4 rfl) ?_
          refine lv_iadd hx hb dX2_grows_33 ?_
          refine lv_aload_n hx hb dX2_grows_34 rfl (lv_at hl 0 rfl) ?_
          refine lv_iload_n hx hb dX2_grows_35 rfl (lv_at hl 1 rfl) ?_
          refine lv_iload_n hx hb dX2_grows_36 rfl (lv_at hl 3 rfl) ?_
          refine lv_iload hx hb dX2_grows_37 (lv_at hl 4 rfl) ?_
          have hPc : va_P (dC, dI) vwCl (gv_M cI am g_11 be si ge cu pl br th) H := gv_sub [0, 1, 2] hP rfl
          have hDc : va_D (gv_in (gv_M cI am g_11 be si ge cu pl br th)) (gv_M cI am g_11 be si ge cu pl br th) := gv_D hD [0, 1, 2] (by decide) rfl
          refine gv_ki (wf := (fun (_ : Unit) => (gv_M cI am g_11 be si ge cu pl br th))) (wc := (gv_M cI am g_11 be si ge cu pl br th)) [0, 1, 2] (fun _ => rfl) hP hD hS rfl rfl (va_runV (As := [.int (nI w1), .int (nI i2), .int (nI i11)]) (rest := [.int (((96 * (nI w2)) + (12 * (nI i2))) + (nI i11)), .ref (am 1)]) ⟨hx, hb, hml, hown, hts⟩ (kX2_becomes l dC dI cI cL am g_11 be si ge cu pl br th (nI w1) w1 rfl (nI i2) i2 rfl (nI i11) i11 rfl (by omega) (by omega) (by omega) (gv_in (gv_M cI am g_11 be si ge cu pl br th))) (cwV (rm := gv_R 4 90) 3 hts gX2_grows_X2_becomes rfl rfl rfl (by decide +kernel) ⟨Nat.le_of_ble_eq_true rfl, Nat.le_of_ble_eq_true rfl⟩) (gv_preV (ci := 2) hK hPc hDc hN rfl rfl) rfl rfl hl.1 rfl (lv_room (Nat.le_of_ble_eq_true rfl)) dX2_grows_39 ⟨Nat.zero_le _, Nat.zero_le _⟩) (fun q39 u H locs hw hP hD hS => ?_)
          have he := gv_q hw he
          have hP : va_P (dC, dI) vwCl (gv_M cI am g_11 be si ge cu pl br th) H := hP
          have hD : va_D A (gv_M cI am g_11 be si ge cu pl br th) := hD
          refine gv_iast (cA := cI) (k := (((96 * w2) + (12 * i2)) + i11)) hx hb hK hP hD hS 1 0 rfl rfl (gn_add (gn_add (gn_mul (rfl : (96 : Int32) = nI 96) rfl) (gn_mul (rfl : (12 : Int32) = nI 12) rfl)) rfl) (by omega) (by decide) dX2_grows_42 (fun H locs hP hD hS => ?_)
          have hP : va_P (dC, dI) vwCl (gv_M cI am (upd g_11 (((96 * w2) + (12 * i2)) + i11) q39) be si ge cu pl br th) H := hP
          have hD : va_D A (gv_M cI am (upd g_11 (((96 * w2) + (12 * i2)) + i11) q39) be si ge cu pl br th) := hD
          refine lv_iinc (v := (nI (i11 + 1))) (lv' := [(4, .int (nI (i11 + 1))), (0, .ref (am 0)), (1, .int (nI w1)), (2, .int (nI w2)), (3, .int (nI i2))]) hx hb dX2_grows_43 hl (k := 4) rfl (nI_1 i11) (by decide) rfl (fun ls hl => ?_)
          refine lv_goto (tgt := 11) hx hb dX2_grows_46 (by decide) ?_
          exact ih11 (i11 + 1) (upd g_11 (((96 * w2) + (12 * i2)) + i11) q39) _ _ _ (by omega) he hP hD hS (lv_sub hl [1, 2, 3, 4, 0] rfl)
      exact L11 12 0 g_2 _ _ _ (by omega) he hP hD hS (lv_sub hl [1, 2, 3, 4, 0] rfl)
  exact L2 8 0 g _ _ _ (by omega) he hP hD hS (lv_sub hl [1, 2, 3, 0] rfl)
def lpX2_repeatsIn_24 (n1_24 : Nat) (g_c : Nat → Int32) (be_c : Nat → Int32) (si_c : Int32) (ge_c : Int32) (cu_c : Int32) (pl_c : Int32) (br_c : Int32) (th_c : Int32) (k : Int32 × (Nat → Int32) × (Int32)) : Nat → Nat → Int32 × (Nat → Int32) × (Int32)
  | 0, _ => k 
  | n24 + 1, i24 => gv_b (spX2_areAlike g_c be_c si_c ge_c cu_c pl_c br_c th_c i24 n1_24) (fun q32 => (if q32 = 0 then lpX2_repeatsIn_24 n1_24 g_c be_c si_c ge_c cu_c pl_c br_c th_c k n24 (i24 + 1)  else ((nI n1_24), g_c, th_c)))
theorem lpX2_repeatsIn_24_0 (n1_24 : Nat) (g_c : Nat → Int32) (be_c : Nat → Int32) (si_c : Int32) (ge_c : Int32) (cu_c : Int32) (pl_c : Int32) (br_c : Int32) (th_c : Int32) (k : Int32 × (Nat → Int32) × (Int32)) (i24 : Nat)  : lpX2_repeatsIn_24 n1_24 g_c be_c si_c ge_c cu_c pl_c br_c th_c k 0 i24 = k  := rfl
theorem lpX2_repeatsIn_24_s (n1_24 : Nat) (g_c : Nat → Int32) (be_c : Nat → Int32) (si_c : Int32) (ge_c : Int32) (cu_c : Int32) (pl_c : Int32) (br_c : Int32) (th_c : Int32) (k : Int32 × (Nat → Int32) × (Int32)) (n24 : Nat) (i24 : Nat)  : lpX2_repeatsIn_24 n1_24 g_c be_c si_c ge_c cu_c pl_c br_c th_c k (n24 + 1) i24 = gv_b (spX2_areAlike g_c be_c si_c ge_c cu_c pl_c br_c th_c i24 n1_24) (fun q32 => (if q32 = 0 then lpX2_repeatsIn_24 n1_24 g_c be_c si_c ge_c cu_c pl_c br_c th_c k n24 (i24 + 1)  else ((nI n1_24), g_c, th_c))) := rfl
def lpX2_repeatsIn_7 (be_c : Nat → Int32) (si_c : Int32) (ge_c : Int32) (cu_c : Int32) (pl_c : Int32) (br_c : Int32) (th_c : Int32) : Nat → Nat → (Nat → Int32) → Int32 × (Nat → Int32) × (Int32)
  | 0, _, g_7 => ((-1), g_7, th_c)
  | n7 + 1, i7, g_7 => gv_b2 (spX2_grows g_7 be_c si_c ge_c cu_c pl_c br_c th_c (i7 - 1) i7) (fun q18 g_q18 => lpX2_repeatsIn_24 i7 g_q18 be_c si_c ge_c cu_c pl_c br_c th_c (lpX2_repeatsIn_7 be_c si_c ge_c cu_c pl_c br_c th_c n7 (i7 + 1) g_q18) (i7 - 0) 0 )
theorem lpX2_repeatsIn_7_0 (be_c : Nat → Int32) (si_c : Int32) (ge_c : Int32) (cu_c : Int32) (pl_c : Int32) (br_c : Int32) (th_c : Int32) (i7 : Nat) (g_7 : Nat → Int32) : lpX2_repeatsIn_7 be_c si_c ge_c cu_c pl_c br_c th_c 0 i7 g_7 = ((-1), g_7, th_c) := rfl
theorem lpX2_repeatsIn_7_s (be_c : Nat → Int32) (si_c : Int32) (ge_c : Int32) (cu_c : Int32) (pl_c : Int32) (br_c : Int32) (th_c : Int32) (n7 : Nat) (i7 : Nat) (g_7 : Nat → Int32) : lpX2_repeatsIn_7 be_c si_c ge_c cu_c pl_c br_c th_c (n7 + 1) i7 g_7 = gv_b2 (spX2_grows g_7 be_c si_c ge_c cu_c pl_c br_c th_c (i7 - 1) i7) (fun q18 g_q18 => lpX2_repeatsIn_24 i7 g_q18 be_c si_c ge_c cu_c pl_c br_c th_c (lpX2_repeatsIn_7 be_c si_c ge_c cu_c pl_c br_c th_c n7 (i7 + 1) g_q18) (i7 - 0) 0 ) := rfl
def spX2_repeatsIn (g : Nat → Int32) (be : Nat → Int32) (si : Int32) (ge : Int32) (cu : Int32) (pl : Int32) (br : Int32) (th : Int32) : Int32 × (Nat → Int32) × (Int32) := lpX2_repeatsIn_7 be si ge cu pl br 0 60 1 g
theorem spX2_repeatsIn_e (g : Nat → Int32) (be : Nat → Int32) (si : Int32) (ge : Int32) (cu : Int32) (pl : Int32) (br : Int32) (th : Int32) : spX2_repeatsIn g be si ge cu pl br th = lpX2_repeatsIn_7 be si ge cu pl br 0 60 1 g := rfl
set_option maxHeartbeats 4000000 in
set_option maxRecDepth 100000 in
theorem kX2_repeatsIn (l : Launch) (dC : Nat → ClassId) (dI : Nat → Nat → Nat) (cI cL : ClassId) (am : Nat → Nat) (g : Nat → Int32) (be : Nat → Int32) (si : Int32) (ge : Int32) (cu : Int32) (pl : Int32) (br : Int32) (th : Int32) : gv_Mi l yX2_repeatsIn wsX2_repeatsIn 6 141 (dC, dI) [(cI, .int), (cL, .long)] [.ref (am 0)] (gv_M cI am g be si ge cu pl br th) (fun (r : Int32) (u : (Nat → Int32) × (Int32)) => (r, u) = spX2_repeatsIn g be si ge cu pl br th) (fun (u : (Nat → Int32) × (Int32)) => (gv_M cI am u.1 be si ge cu pl br u.2)) := by
  refine gv_ofi (cc := cX2_repeatsIn) (maxL := 4) (own := RX2) (by decide) rfl (Nat.le_of_ble_eq_true rfl) rfl ?_
  intro A p e s m args below meth c Q ls H locs hx hb hml hts hown hP hK hD hN hS hl kr
  have inX2 : ∀ w ∈ wsX20, w ∈ wsX2_repeatsIn := (fun _ h => List.mem_cons_of_mem _ (List.mem_append_right _ h))
  have hl : lv_has ls 4 [(0, .ref (am 0))] := hl
  have he := (spX2_repeatsIn_e g be si ge cu pl br th).symm
  refine lv_aload_n hx hb dX2_repeatsIn_0 rfl (lv_at hl 0 rfl) ?_
  refine lv_iconst (v := 0) hx hb dX2_repeatsIn_1 (by decide) ?_
  refine va_put (D := (dC, dI)) (ci := 2) (v := .int 0) (ty := .int) (C := RX2) (T := TX2) (N := 8) hx hb hts inX2 tyX2 tyX2_ok nmX2 hown hK hP hD hS 0 rfl rfl 7 (by decide) (hts (.fieldLink RX2 20 "VineWallModel" "thrown" "I") (List.mem_of_getElem? (i := 1) rfl)) (fun _ h9 => h9) rfl (by decide +kernel) rfl rfl (Nat.le_of_ble_eq_true rfl) dX2_repeatsIn_2 (fun H locs hP hD hS => ?_)
  have hP : va_P (dC, dI) vwCl (gv_M cI am g be si ge cu pl br 0) H := hP
  have hD : va_D A (gv_M cI am g be si ge cu pl br 0) := hD
  refine lv_iconst (v := 1) hx hb dX2_repeatsIn_5 (by decide) ?_
  refine lv_istore_n (lv' := [(1, .int 1), (0, .ref (am 0))]) hx hb dX2_repeatsIn_6 rfl hl (by decide) rfl (fun ls hl => ?_)
  have L7 : ∀ (n7 i7 : Nat) (g_7 : Nat → Int32) (H : Heap) (locs : List Loc) (ls : Array Slot), 1 ≤ i7 ∧ i7 + n7 = 61 → lpX2_repeatsIn_7 be si ge cu pl br 0 n7 i7 g_7 = spX2_repeatsIn g be si ge cu pl br th → va_P (dC, dI) vwCl (gv_M cI am g_7 be si ge cu pl br 0) H → va_D A (gv_M cI am g_7 be si ge cu pl br 0) → va_S A s.heap H locs → lv_has ls 4 [(0, .ref (am 0)), (1, .int (nI i7))] → W p l e (gv_R 6 141) s m args below meth c H locs 0 0 Q (F0 m 7 ls []) := by
    intro n7
    induction n7 with
    | zero =>
      intro i7 g_7 H locs ls hi7 he hP hD hS hl
      have he := (lpX2_repeatsIn_7_0 _ _ _ _ _ _ _ _ _).symm.trans he
      refine lv_iload_n hx hb dX2_repeatsIn_7 rfl (lv_at hl 1 rfl) ?_
      refine lv_bipush (v := 60) hx hb dX2_repeatsIn_8 (by decide) ?_
      refine lv_icmp_gt (tgt := 52) hx hb dX2_repeatsIn_10 (by decide) (fun _ => ?_) (fun c => absurd c (gv_gt (N := 60) rfl (rfl : (60 : Int32) = nI 60) (by omega) (by omega)))
      refine lv_iconst (v := (-1)) hx hb dX2_repeatsIn_52 (by decide) ?_
      exact kr (-1) (g_7, 0) _ _ _ _ he hP hS dX2_repeatsIn_53
    | succ n7 ih7 =>
      intro i7 g_7 H locs ls hi7 he hP hD hS hl
      have he := (lpX2_repeatsIn_7_s _ _ _ _ _ _ _ _ _ _).symm.trans he
      refine lv_iload_n hx hb dX2_repeatsIn_7 rfl (lv_at hl 1 rfl) ?_
      refine lv_bipush (v := 60) hx hb dX2_repeatsIn_8 (by decide) ?_
      refine lv_icmp_gt (tgt := 52) hx hb dX2_repeatsIn_10 (by decide) (fun c => absurd c (gv_ngt (N := 60) rfl (rfl : (60 : Int32) = nI 60) (by omega) (by omega))) (fun _ => ?_)
      refine lv_aload_n hx hb dX2_repeatsIn_13 rfl (lv_at hl 0 rfl) ?_
      refine lv_iload_n hx hb dX2_repeatsIn_14 rfl (lv_at hl 1 rfl) ?_
      refine lv_iconst (v := 1) hx hb dX2_repeatsIn_15 (by decide) ?_
      refine lv_isub hx hb dX2_repeatsIn_16 ?_
      refine lv_iload_n hx hb dX2_repeatsIn_17 rfl (lv_at hl 1 rfl) ?_
      have hPc : va_P (dC, dI) vwCl (gv_M cI am g_7 be si ge cu pl br 0) H := gv_sub [0, 1, 2] hP rfl
      have hDc : va_D (gv_in (gv_M cI am g_7 be si ge cu pl br 0)) (gv_M cI am g_7 be si ge cu pl br 0) := gv_D hD [0, 1, 2] (by decide) rfl
      refine gv_ki (wf := (fun (u : (Nat → Int32)) => (gv_M cI am u be si ge cu pl br 0))) (wc := (gv_M cI am g_7 be si ge cu pl br 0)) [0, 1, 2] (fun _ => rfl) hP hD hS rfl rfl (va_runV (As := [.int ((nI i7) - 1), .int (nI i7)]) (rest := []) ⟨hx, hb, hml, hown, hts⟩ (kX2_grows l dC dI cI cL am g_7 be si ge cu pl br 0 ((nI i7) - 1) (i7 - 1) (gn_sub rfl (rfl : (1 : Int32) = nI 1) (by omega)) (nI i7) i7 rfl (by omega) (by omega) (gv_in (gv_M cI am g_7 be si ge cu pl br 0))) (cwV (rm := gv_R 5 117) 2 hts gX2_repeatsIn_X2_grows rfl rfl rfl (by decide +kernel) ⟨Nat.le_of_ble_eq_true rfl, Nat.le_of_ble_eq_true rfl⟩) (gv_preV (ci := 2) hK hPc hDc hN rfl rfl) rfl rfl hl.1 rfl (lv_room (Nat.le_of_ble_eq_true rfl)) dX2_repeatsIn_18 ⟨Nat.zero_le _, Nat.zero_le _⟩) (fun q18 u H locs hw hP hD hS => ?_)
      obtain ⟨g_q18, rfl⟩ : ∃ z, z = u := ⟨_, rfl⟩
      have he := gv_q2 hw he
      have hP : va_P (dC, dI) vwCl (gv_M cI am g_q18 be si ge cu pl br 0) H := hP
      have hD : va_D A (gv_M cI am g_q18 be si ge cu pl br 0) := hD
      refine lv_istore_n (lv' := [(2, .int q18), (0, .ref (am 0)), (1, .int (nI i7))]) hx hb dX2_repeatsIn_21 rfl hl (by decide) rfl (fun ls hl => ?_)
      refine lv_iconst (v := 0) hx hb dX2_repeatsIn_22 (by decide) ?_
      refine lv_istore_n (lv' := [(3, .int 0), (2, .int q18), (0, .ref (am 0)), (1, .int (nI i7))]) hx hb dX2_repeatsIn_23 rfl hl (by decide) rfl (fun ls hl => ?_)
      obtain ⟨K24, hK24⟩ : ∃ z, z = (lpX2_repeatsIn_7 be si ge cu pl br 0 n7 (i7 + 1) g_q18) := ⟨_, rfl⟩
      have he : lpX2_repeatsIn_24 i7 g_q18 be si ge cu pl br 0 K24 (i7 - 0) 0  = spX2_repeatsIn g be si ge cu pl br th := by rw [hK24]; exact he
      have L24 : ∀ (n24 i24 : Nat) (H : Heap) (locs : List Loc) (ls : Array Slot), i24 + n24 = i7 → lpX2_repeatsIn_24 i7 g_q18 be si ge cu pl br 0 K24 n24 i24  = spX2_repeatsIn g be si ge cu pl br th → va_P (dC, dI) vwCl (gv_M cI am g_q18 be si ge cu pl br 0) H → va_D A (gv_M cI am g_q18 be si ge cu pl br 0) → va_S A s.heap H locs → lv_has ls 4 [(0, .ref (am 0)), (1, .int (nI i7)), (2, .int q18), (3, .int (nI i24))] → W p l e (gv_R 6 141) s m args below meth c H locs 0 0 Q (F0 m 24 ls []) := by
        intro n24
        induction n24 with
        | zero =>
          intro i24  H locs ls hi24 he hP hD hS hl
          have he := (lpX2_repeatsIn_24_0 _ _ _ _ _ _ _ _ _ _ _).symm.trans he
          refine lv_iload_n hx hb dX2_repeatsIn_24 rfl (lv_at hl 3 rfl) ?_
          refine lv_iload_n hx hb dX2_repeatsIn_25 rfl (lv_at hl 1 rfl) ?_
          refine lv_icmp_ge (tgt := 46) hx hb dX2_repeatsIn_26 (by decide) (fun _ => ?_) (fun c => absurd c (gv_ge (N := i7) rfl rfl (by omega) (by omega)))
          have he := hK24.symm.trans he
          refine lv_iinc (v := (nI (i7 + 1))) (lv' := [(1, .int (nI (i7 + 1))), (0, .ref (am 0)), (2, .int q18), (3, .int (nI i24))]) hx hb dX2_repeatsIn_46 hl (k := 1) rfl (nI_1 i7) (by decide) rfl (fun ls hl => ?_)
          refine lv_goto (tgt := 7) hx hb dX2_repeatsIn_49 (by decide) ?_
          exact ih7 (i7 + 1) g_q18 _ _ _ (by omega) he hP hD hS (lv_sub hl [1, 0] rfl)
        | succ n24 ih24 =>
          intro i24  H locs ls hi24 he hP hD hS hl
          have he := (lpX2_repeatsIn_24_s _ _ _ _ _ _ _ _ _ _ _ _).symm.trans he
          refine lv_iload_n hx hb dX2_repeatsIn_24 rfl (lv_at hl 3 rfl) ?_
          refine lv_iload_n hx hb dX2_repeatsIn_25 rfl (lv_at hl 1 rfl) ?_
          refine lv_icmp_ge (tgt := 46) hx hb dX2_repeatsIn_26 (by decide) (fun c => absurd c (gv_lt (N := i7) rfl rfl (by omega) (by omega))) (fun _ => ?_)
          refine lv_aload_n hx hb dX2_repeatsIn_29 rfl (lv_at hl 0 rfl) ?_
          refine lv_iload_n hx hb dX2_repeatsIn_30 rfl (lv_at hl 3 rfl) ?_
          refine lv_iload_n hx hb dX2_repeatsIn_31 rfl (lv_at hl 1 rfl) ?_
          have hPc : va_P (dC, dI) vwCl (gv_M cI am g_q18 be si ge cu pl br 0) H := gv_sub [0, 1, 2] hP rfl
          have hDc : va_D (gv_in (gv_M cI am g_q18 be si ge cu pl br 0)) (gv_M cI am g_q18 be si ge cu pl br 0) := gv_D hD [0, 1, 2] (by decide) rfl
          refine gv_ki (wf := (fun (_ : Unit) => (gv_M cI am g_q18 be si ge cu pl br 0))) (wc := (gv_M cI am g_q18 be si ge cu pl br 0)) [0, 1, 2] (fun _ => rfl) hP hD hS rfl rfl (va_runV (As := [.int (nI i24), .int (nI i7)]) (rest := []) ⟨hx, hb, hml, hown, hts⟩ (kX2_areAlike l dC dI cI cL am g_q18 be si ge cu pl br 0 (nI i24) i24 rfl (nI i7) i7 rfl (by omega) (by omega) (gv_in (gv_M cI am g_q18 be si ge cu pl br 0))) (cwV (rm := gv_R 0 0) 2 hts gX2_repeatsIn_X2_areAlike rfl rfl rfl (by decide +kernel) ⟨Nat.le_of_ble_eq_true rfl, Nat.le_of_ble_eq_true rfl⟩) (gv_preV (ci := 2) hK hPc hDc hN rfl rfl) rfl rfl hl.1 rfl (lv_room (Nat.le_of_ble_eq_true rfl)) dX2_repeatsIn_32 ⟨Nat.zero_le _, Nat.zero_le _⟩) (fun q32 u H locs hw hP hD hS => ?_)
          have he := gv_q hw he
          have hP : va_P (dC, dI) vwCl (gv_M cI am g_q18 be si ge cu pl br 0) H := hP
          have hD : va_D A (gv_M cI am g_q18 be si ge cu pl br 0) := hD
          refine lv_if_eq (tgt := 40) hx hb dX2_repeatsIn_35 (by decide) (fun cd35 => ?_) (fun cd35 => ?_)
          · have he := gv_t cd35 he
            refine lv_iinc (v := (nI (i24 + 1))) (lv' := [(3, .int (nI (i24 + 1))), (0, .ref (am 0)), (1, .int (nI i7)), (2, .int q18)]) hx hb dX2_repeatsIn_40 hl (k := 3) rfl (nI_1 i24) (by decide) rfl (fun ls hl => ?_)
            refine lv_goto (tgt := 24) hx hb dX2_repeatsIn_43 (by decide) ?_
            exact ih24 (i24 + 1)  _ _ _ (by omega) he hP hD hS (lv_sub hl [1, 2, 3, 0] rfl)
          · have he := gv_f cd35 he
            refine lv_iload_n hx hb dX2_repeatsIn_38 rfl (lv_at hl 1 rfl) ?_
            exact kr (nI i7) (g_q18, 0) _ _ _ _ he hP hS dX2_repeatsIn_39
      exact L24 (i7 - 0) 0  _ _ _ (by omega) he hP hD hS (lv_sub hl [2, 3, 1, 0] rfl)
  exact L7 60 1 g _ _ _ (by omega) he hP hD hS (lv_sub hl [1, 0] rfl)
def lpX2_bestCut_11 (be_c : Nat → Int32) (si_c : Int32) (ge_c : Int32) (cu_c : Int32) (pl_c : Int32) (br_c : Int32) (th_c : Int32) : Nat → Nat → (Int32) → (Int32) → (Nat → Int32) → Int32 × (Nat → Int32) × (Int32)
  | 0, _, x1_11, _, g_11 => (x1_11, g_11, th_c)
  | n11 + 1, i11, x1_11, x2_11, g_11 => (if (g_11 i11) = 1 then gv_b (spX2_copies g_11 be_c si_c ge_c cu_c pl_c br_c th_c 0 61) (fun g_q31 => gv_b2 (spX2_grows (upd g_q31 (5856 + i11) 2) be_c si_c ge_c cu_c pl_c br_c th_c 61 1) (fun q49 g_q49 => gv_b (spX2_allLit g_q49 be_c si_c ge_c cu_c pl_c br_c th_c 1) (fun q56 => (if q56 ≤ x2_11 then lpX2_bestCut_11 be_c si_c ge_c cu_c pl_c br_c th_c n11 (i11 + 1) x1_11 x2_11 g_q49 else lpX2_bestCut_11 be_c si_c ge_c cu_c pl_c br_c th_c n11 (i11 + 1) (nI i11) q56 g_q49)))) else lpX2_bestCut_11 be_c si_c ge_c cu_c pl_c br_c th_c n11 (i11 + 1) x1_11 x2_11 g_11)
theorem lpX2_bestCut_11_0 (be_c : Nat → Int32) (si_c : Int32) (ge_c : Int32) (cu_c : Int32) (pl_c : Int32) (br_c : Int32) (th_c : Int32) (i11 : Nat) (x1_11 : Int32) (x2_11 : Int32) (g_11 : Nat → Int32) : lpX2_bestCut_11 be_c si_c ge_c cu_c pl_c br_c th_c 0 i11 x1_11 x2_11 g_11 = (x1_11, g_11, th_c) := rfl
theorem lpX2_bestCut_11_s (be_c : Nat → Int32) (si_c : Int32) (ge_c : Int32) (cu_c : Int32) (pl_c : Int32) (br_c : Int32) (th_c : Int32) (n11 : Nat) (i11 : Nat) (x1_11 : Int32) (x2_11 : Int32) (g_11 : Nat → Int32) : lpX2_bestCut_11 be_c si_c ge_c cu_c pl_c br_c th_c (n11 + 1) i11 x1_11 x2_11 g_11 = (if (g_11 i11) = 1 then gv_b (spX2_copies g_11 be_c si_c ge_c cu_c pl_c br_c th_c 0 61) (fun g_q31 => gv_b2 (spX2_grows (upd g_q31 (5856 + i11) 2) be_c si_c ge_c cu_c pl_c br_c th_c 61 1) (fun q49 g_q49 => gv_b (spX2_allLit g_q49 be_c si_c ge_c cu_c pl_c br_c th_c 1) (fun q56 => (if q56 ≤ x2_11 then lpX2_bestCut_11 be_c si_c ge_c cu_c pl_c br_c th_c n11 (i11 + 1) x1_11 x2_11 g_q49 else lpX2_bestCut_11 be_c si_c ge_c cu_c pl_c br_c th_c n11 (i11 + 1) (nI i11) q56 g_q49)))) else lpX2_bestCut_11 be_c si_c ge_c cu_c pl_c br_c th_c n11 (i11 + 1) x1_11 x2_11 g_11) := rfl
def spX2_bestCut (g : Nat → Int32) (be : Nat → Int32) (si : Int32) (ge : Int32) (cu : Int32) (pl : Int32) (br : Int32) (th : Int32) : Int32 × (Nat → Int32) × (Int32) := lpX2_bestCut_11 be si ge cu pl br 0 96 0 (-1) (-1) g
theorem spX2_bestCut_e (g : Nat → Int32) (be : Nat → Int32) (si : Int32) (ge : Int32) (cu : Int32) (pl : Int32) (br : Int32) (th : Int32) : spX2_bestCut g be si ge cu pl br th = lpX2_bestCut_11 be si ge cu pl br 0 96 0 (-1) (-1) g := rfl
set_option maxHeartbeats 4000000 in
set_option maxRecDepth 100000 in
theorem kX2_bestCut (l : Launch) (dC : Nat → ClassId) (dI : Nat → Nat → Nat) (cI cL : ClassId) (am : Nat → Nat) (g : Nat → Int32) (be : Nat → Int32) (si : Int32) (ge : Int32) (cu : Int32) (pl : Int32) (br : Int32) (th : Int32) : gv_Mi l yX2_bestCut wsX2_bestCut 6 141 (dC, dI) [(cI, .int), (cL, .long)] [.ref (am 0)] (gv_M cI am g be si ge cu pl br th) (fun (r : Int32) (u : (Nat → Int32) × (Int32)) => (r, u) = spX2_bestCut g be si ge cu pl br th) (fun (u : (Nat → Int32) × (Int32)) => (gv_M cI am u.1 be si ge cu pl br u.2)) := by
  refine gv_ofi (cc := cX2_bestCut) (maxL := 6) (own := RX2) (by decide) rfl (Nat.le_of_ble_eq_true rfl) rfl ?_
  intro A p e s m args below meth c Q ls H locs hx hb hml hts hown hP hK hD hN hS hl kr
  have inX2 : ∀ w ∈ wsX20, w ∈ wsX2_bestCut := (fun _ h => List.mem_cons_of_mem _ (List.mem_append_right _ h))
  have hl : lv_has ls 6 [(0, .ref (am 0))] := hl
  have he := (spX2_bestCut_e g be si ge cu pl br th).symm
  refine lv_aload_n hx hb dX2_bestCut_0 rfl (lv_at hl 0 rfl) ?_
  refine lv_iconst (v := 0) hx hb dX2_bestCut_1 (by decide) ?_
  refine va_put (D := (dC, dI)) (ci := 2) (v := .int 0) (ty := .int) (C := RX2) (T := TX2) (N := 8) hx hb hts inX2 tyX2 tyX2_ok nmX2 hown hK hP hD hS 0 rfl rfl 7 (by decide) (hts (.fieldLink RX2 20 "VineWallModel" "thrown" "I") (List.mem_of_getElem? (i := 1) rfl)) (fun _ h9 => h9) rfl (by decide +kernel) rfl rfl (Nat.le_of_ble_eq_true rfl) dX2_bestCut_2 (fun H locs hP hD hS => ?_)
  have hP : va_P (dC, dI) vwCl (gv_M cI am g be si ge cu pl br 0) H := hP
  have hD : va_D A (gv_M cI am g be si ge cu pl br 0) := hD
  refine lv_iconst (v := (-1)) hx hb dX2_bestCut_5 (by decide) ?_
  refine lv_istore_n (lv' := [(1, .int (-1)), (0, .ref (am 0))]) hx hb dX2_bestCut_6 rfl hl (by decide) rfl (fun ls hl => ?_)
  refine lv_iconst (v := (-1)) hx hb dX2_bestCut_7 (by decide) ?_
  refine lv_istore_n (lv' := [(2, .int (-1)), (1, .int (-1)), (0, .ref (am 0))]) hx hb dX2_bestCut_8 rfl hl (by decide) rfl (fun ls hl => ?_)
  refine lv_iconst (v := 0) hx hb dX2_bestCut_9 (by decide) ?_
  refine lv_istore_n (lv' := [(3, .int 0), (2, .int (-1)), (1, .int (-1)), (0, .ref (am 0))]) hx hb dX2_bestCut_10 rfl hl (by decide) rfl (fun ls hl => ?_)
  have L11 : ∀ (n11 i11 : Nat) (x1_11 : Int32) (x2_11 : Int32) (g_11 : Nat → Int32) (H : Heap) (locs : List Loc) (ls : Array Slot), i11 + n11 = 96 → lpX2_bestCut_11 be si ge cu pl br 0 n11 i11 x1_11 x2_11 g_11 = spX2_bestCut g be si ge cu pl br th → va_P (dC, dI) vwCl (gv_M cI am g_11 be si ge cu pl br 0) H → va_D A (gv_M cI am g_11 be si ge cu pl br 0) → va_S A s.heap H locs → lv_has ls 6 [(0, .ref (am 0)), (1, .int x1_11), (2, .int x2_11), (3, .int (nI i11))] → W p l e (gv_R 6 141) s m args below meth c H locs 0 0 Q (F0 m 11 ls []) := by
    intro n11
    induction n11 with
    | zero =>
      intro i11 x1_11 x2_11 g_11 H locs ls hi11 he hP hD hS hl
      have he := (lpX2_bestCut_11_0 _ _ _ _ _ _ _ _ _ _ _).symm.trans he
      refine lv_iload_n hx hb dX2_bestCut_11 rfl (lv_at hl 3 rfl) ?_
      refine lv_bipush (v := 96) hx hb dX2_bestCut_12 (by decide) ?_
      refine lv_icmp_ge (tgt := 92) hx hb dX2_bestCut_14 (by decide) (fun _ => ?_) (fun c => absurd c (gv_ge (N := 96) rfl (rfl : (96 : Int32) = nI 96) (by omega) (by omega)))
      refine lv_iload_n hx hb dX2_bestCut_92 rfl (lv_at hl 1 rfl) ?_
      exact kr x1_11 (g_11, 0) _ _ _ _ he hP hS dX2_bestCut_93
    | succ n11 ih11 =>
      intro i11 x1_11 x2_11 g_11 H locs ls hi11 he hP hD hS hl
      have he := (lpX2_bestCut_11_s _ _ _ _ _ _ _ _ _ _ _ _).symm.trans he
      refine lv_iload_n hx hb dX2_bestCut_11 rfl (lv_at hl 3 rfl) ?_
      refine lv_bipush (v := 96) hx hb dX2_bestCut_12 (by decide) ?_
      refine lv_icmp_ge (tgt := 92) hx hb dX2_bestCut_14 (by decide) (fun c => absurd c (gv_lt (N := 96) rfl (rfl : (96 : Int32) = nI 96) (by omega) (by omega))) (fun _ => ?_)
      refine lv_aload_n hx hb dX2_bestCut_17 rfl (lv_at hl 0 rfl) ?_
      refine va_get (D := (dC, dI)) (ci := 2) (v := .ref (am 1)) (C := RX2) (T := TX2) (N := 8) hx hb hts inX2 hown hK hP 0 rfl rfl 0 (by decide) (hts (.fieldLink RX2 7 "VineWallModel" "walls" "[I") (List.mem_of_getElem? (i := 2) rfl)) (fun _ h9 => h9) rfl dX2_bestCut_18 ?_
      refine lv_iload_n hx hb dX2_bestCut_21 rfl (lv_at hl 3 rfl) ?_
      refine gv_iald (cA := cI) (f := g_11) (k := i11) hx hb hK hP 1 0 rfl rfl rfl (by omega) (by decide) dX2_bestCut_22 ?_
      refine lv_iconst (v := 1) hx hb dX2_bestCut_23 (by decide) ?_
      refine lv_icmp_ne (tgt := 86) hx hb dX2_bestCut_24 (by decide) (fun cd24 => ?_) (fun cd24 => ?_)
      · have he := gv_f cd24 he
        refine lv_iinc (v := (nI (i11 + 1))) (lv' := [(3, .int (nI (i11 + 1))), (0, .ref (am 0)), (1, .int x1_11), (2, .int x2_11)]) hx hb dX2_bestCut_86 hl (k := 3) rfl (nI_1 i11) (by decide) rfl (fun ls hl => ?_)
        refine lv_goto (tgt := 11) hx hb dX2_bestCut_89 (by decide) ?_
        exact ih11 (i11 + 1) x1_11 x2_11 g_11 _ _ _ (by omega) he hP hD hS (lv_sub hl [1, 2, 3, 0] rfl)
      · have he := gv_t cd24 he
        refine lv_aload_n hx hb dX2_bestCut_27 rfl (lv_at hl 0 rfl) ?_
        refine lv_iconst (v := 0) hx hb dX2_bestCut_28 (by decide) ?_
        refine lv_bipush (v := 61) hx hb dX2_bestCut_29 (by decide) ?_
        have hPc : va_P (dC, dI) vwCl (gv_M cI am g_11 be si ge cu pl br 0) H := gv_sub [0, 1, 2] hP rfl
        have hDc : va_D (gv_in (gv_M cI am g_11 be si ge cu pl br 0)) (gv_M cI am g_11 be si ge cu pl br 0) := gv_D hD [0, 1, 2] (by decide) rfl
        refine gv_kv (wf := (fun (u : (Nat → Int32)) => (gv_M cI am u be si ge cu pl br 0))) (wc := (gv_M cI am g_11 be si ge cu pl br 0)) [0, 1, 2] (fun _ => rfl) hP hD hS rfl rfl (va_runV (As := [.int 0, .int 61]) (rest := []) ⟨hx, hb, hml, hown, hts⟩ (kX2_copies l dC dI cI cL am g_11 be si ge cu pl br 0 0 0 (rfl : (0 : Int32) = nI 0) 61 61 (rfl : (61 : Int32) = nI 61) (by omega) (by omega) (gv_in (gv_M cI am g_11 be si ge cu pl br 0))) (cwV (rm := gv_R 0 0) 2 hts gX2_bestCut_X2_copies rfl rfl rfl (by decide +kernel) ⟨Nat.le_of_ble_eq_true rfl, Nat.le_of_ble_eq_true rfl⟩) (gv_preV (ci := 2) hK hPc hDc hN rfl rfl) rfl rfl hl.1 rfl (lv_room (Nat.le_of_ble_eq_true rfl)) dX2_bestCut_31 ⟨Nat.zero_le _, Nat.zero_le _⟩) (fun u H locs hw hP hD hS => ?_)
        obtain ⟨g_q31, rfl⟩ : ∃ z, z = u := ⟨_, rfl⟩
        have he := gv_q hw he
        have hP : va_P (dC, dI) vwCl (gv_M cI am g_q31 be si ge cu pl br 0) H := hP
        have hD : va_D A (gv_M cI am g_q31 be si ge cu pl br 0) := hD
        refine lv_aload_n hx hb dX2_bestCut_34 rfl (lv_at hl 0 rfl) ?_
        refine va_get (D := (dC, dI)) (ci := 2) (v := .ref (am 1)) (C := RX2) (T := TX2) (N := 8) hx hb hts inX2 hown hK hP 0 rfl rfl 0 (by decide) (hts (.fieldLink RX2 7 "VineWallModel" "walls" "[I") (List.mem_of_getElem? (i := 2) rfl)) (fun _ h9 => h9) rfl dX2_bestCut_35 ?_
        refine lv_sipush (v := 5856) hx hb dX2_bestCut_38 (by decide) ?_
        refine lv_iload_n hx hb dX2_bestCut_41 rfl (lv_at hl 3 rfl) ?_
        refine lv_iadd hx hb dX2_bestCut_42 ?_
        refine lv_iconst (v := 2) hx hb dX2_bestCut_43 (by decide) ?_
        refine gv_iast (cA := cI) (k := (5856 + i11)) hx hb hK hP hD hS 1 0 rfl rfl (gn_add (rfl : (5856 : Int32) = nI 5856) rfl) (by omega) (by decide) dX2_bestCut_44 (fun H locs hP hD hS => ?_)
        have hP : va_P (dC, dI) vwCl (gv_M cI am (upd g_q31 (5856 + i11) 2) be si ge cu pl br 0) H := hP
        have hD : va_D A (gv_M cI am (upd g_q31 (5856 + i11) 2) be si ge cu pl br 0) := hD
        refine lv_aload_n hx hb dX2_bestCut_45 rfl (lv_at hl 0 rfl) ?_
        refine lv_bipush (v := 61) hx hb dX2_bestCut_46 (by decide) ?_
        refine lv_iconst (v := 1) hx hb dX2_bestCut_48 (by decide) ?_
        have hPc : va_P (dC, dI) vwCl (gv_M cI am (upd g_q31 (5856 + i11) 2) be si ge cu pl br 0) H := gv_sub [0, 1, 2] hP rfl
        have hDc : va_D (gv_in (gv_M cI am (upd g_q31 (5856 + i11) 2) be si ge cu pl br 0)) (gv_M cI am (upd g_q31 (5856 + i11) 2) be si ge cu pl br 0) := gv_D hD [0, 1, 2] (by decide) rfl
        refine gv_ki (wf := (fun (u : (Nat → Int32)) => (gv_M cI am u be si ge cu pl br 0))) (wc := (gv_M cI am (upd g_q31 (5856 + i11) 2) be si ge cu pl br 0)) [0, 1, 2] (fun _ => rfl) hP hD hS rfl rfl (va_runV (As := [.int 61, .int 1]) (rest := []) ⟨hx, hb, hml, hown, hts⟩ (kX2_grows l dC dI cI cL am (upd g_q31 (5856 + i11) 2) be si ge cu pl br 0 61 61 (rfl : (61 : Int32) = nI 61) 1 1 (rfl : (1 : Int32) = nI 1) (by omega) (by omega) (gv_in (gv_M cI am (upd g_q31 (5856 + i11) 2) be si ge cu pl br 0))) (cwV (rm := gv_R 5 117) 2 hts gX2_bestCut_X2_grows rfl rfl rfl (by decide +kernel) ⟨Nat.le_of_ble_eq_true rfl, Nat.le_of_ble_eq_true rfl⟩) (gv_preV (ci := 2) hK hPc hDc hN rfl rfl) rfl rfl hl.1 rfl (lv_room (Nat.le_of_ble_eq_true rfl)) dX2_bestCut_49 ⟨Nat.zero_le _, Nat.zero_le _⟩) (fun q49 u H locs hw hP hD hS => ?_)
        obtain ⟨g_q49, rfl⟩ : ∃ z, z = u := ⟨_, rfl⟩
        have he := gv_q2 hw he
        have hP : va_P (dC, dI) vwCl (gv_M cI am g_q49 be si ge cu pl br 0) H := hP
        have hD : va_D A (gv_M cI am g_q49 be si ge cu pl br 0) := hD
        refine lv_istore (lv' := [(4, .int q49), (0, .ref (am 0)), (1, .int x1_11), (2, .int x2_11), (3, .int (nI i11))]) hx hb dX2_bestCut_52 hl (by decide) rfl (fun ls hl => ?_)
        refine lv_aload_n hx hb dX2_bestCut_54 rfl (lv_at hl 1 rfl) ?_
        refine lv_iconst (v := 1) hx hb dX2_bestCut_55 (by decide) ?_
        have hPc : va_P (dC, dI) vwCl (gv_M cI am g_q49 be si ge cu pl br 0) H := gv_sub [0, 1, 2] hP rfl
        have hDc : va_D (gv_in (gv_M cI am g_q49 be si ge cu pl br 0)) (gv_M cI am g_q49 be si ge cu pl br 0) := gv_D hD [0, 1, 2] (by decide) rfl
        refine gv_ki (wf := (fun (_ : Unit) => (gv_M cI am g_q49 be si ge cu pl br 0))) (wc := (gv_M cI am g_q49 be si ge cu pl br 0)) [0, 1, 2] (fun _ => rfl) hP hD hS rfl rfl (va_runV (As := [.int 1]) (rest := []) ⟨hx, hb, hml, hown, hts⟩ (kX2_allLit l dC dI cI cL am g_q49 be si ge cu pl br 0 1 1 (rfl : (1 : Int32) = nI 1) (by omega) (gv_in (gv_M cI am g_q49 be si ge cu pl br 0))) (cwV (rm := gv_R 4 91) 1 hts gX2_bestCut_X2_allLit rfl rfl rfl (by decide +kernel) ⟨Nat.le_of_ble_eq_true rfl, Nat.le_of_ble_eq_true rfl⟩) (gv_preV (ci := 2) hK hPc hDc hN rfl rfl) rfl rfl hl.1 rfl (lv_room (Nat.le_of_ble_eq_true rfl)) dX2_bestCut_56 ⟨Nat.zero_le _, Nat.zero_le _⟩) (fun q56 u H locs hw hP hD hS => ?_)
        have he := gv_q hw he
        have hP : va_P (dC, dI) vwCl (gv_M cI am g_q49 be si ge cu pl br 0) H := hP
        have hD : va_D A (gv_M cI am g_q49 be si ge cu pl br 0) := hD
        refine lv_istore (lv' := [(5, .int q56), (4, .int q49), (0, .ref (am 0)), (1, .int x1_11), (2, .int x2_11), (3, .int (nI i11))]) hx hb dX2_bestCut_59 hl (by decide) rfl (fun ls hl => ?_)
        refine lv_iload hx hb dX2_bestCut_61 (lv_at hl 0 rfl) ?_
        refine lv_iload_n hx hb dX2_bestCut_63 rfl (lv_at hl 4 rfl) ?_
        refine lv_icmp_le (tgt := 71) hx hb dX2_bestCut_64 (by decide) (fun cd64 => ?_) (fun cd64 => ?_)
        · have he := gv_t cd64 he
          refine lv_iload_n hx hb dX2_bestCut_71 rfl (lv_at hl 3 rfl) ?_
          refine lv_istore_n (lv' := [(1, .int x1_11), (5, .int q56), (4, .int q49), (0, .ref (am 0)), (2, .int x2_11), (3, .int (nI i11))]) hx hb dX2_bestCut_72 rfl hl (by decide) rfl (fun ls hl => ?_)
          refine lv_iload hx hb dX2_bestCut_73 (lv_at hl 1 rfl) ?_
          refine lv_iload_n hx hb dX2_bestCut_75 rfl (lv_at hl 4 rfl) ?_
          refine lv_icmp_le (tgt := 84) hx hb dX2_bestCut_76 (by decide) (fun _ => ?_) (fun c => absurd cd64 c)
          refine lv_iload_n hx hb dX2_bestCut_84 rfl (lv_at hl 4 rfl) ?_
          refine lv_istore_n (lv' := [(2, .int x2_11), (1, .int x1_11), (5, .int q56), (4, .int q49), (0, .ref (am 0)), (3, .int (nI i11))]) hx hb dX2_bestCut_85 rfl hl (by decide) rfl (fun ls hl => ?_)
          refine lv_iinc (v := (nI (i11 + 1))) (lv' := [(3, .int (nI (i11 + 1))), (2, .int x2_11), (1, .int x1_11), (5, .int q56), (4, .int q49), (0, .ref (am 0))]) hx hb dX2_bestCut_86 hl (k := 5) rfl (nI_1 i11) (by decide) rfl (fun ls hl => ?_)
          refine lv_goto (tgt := 11) hx hb dX2_bestCut_89 (by decide) ?_
          exact ih11 (i11 + 1) x1_11 x2_11 g_q49 _ _ _ (by omega) he hP hD hS (lv_sub hl [5, 2, 1, 0] rfl)
        · have he := gv_f cd64 he
          refine lv_iload_n hx hb dX2_bestCut_67 rfl (lv_at hl 5 rfl) ?_
          refine lv_goto (tgt := 72) hx hb dX2_bestCut_68 (by decide) ?_
          refine lv_istore_n (lv' := [(1, .int (nI i11)), (5, .int q56), (4, .int q49), (0, .ref (am 0)), (2, .int x2_11), (3, .int (nI i11))]) hx hb dX2_bestCut_72 rfl hl (by decide) rfl (fun ls hl => ?_)
          refine lv_iload hx hb dX2_bestCut_73 (lv_at hl 1 rfl) ?_
          refine lv_iload_n hx hb dX2_bestCut_75 rfl (lv_at hl 4 rfl) ?_
          refine lv_icmp_le (tgt := 84) hx hb dX2_bestCut_76 (by decide) (fun c => absurd c cd64) (fun _ => ?_)
          refine lv_iload hx hb dX2_bestCut_79 (lv_at hl 1 rfl) ?_
          refine lv_goto (tgt := 85) hx hb dX2_bestCut_81 (by decide) ?_
          refine lv_istore_n (lv' := [(2, .int q56), (1, .int (nI i11)), (5, .int q56), (4, .int q49), (0, .ref (am 0)), (3, .int (nI i11))]) hx hb dX2_bestCut_85 rfl hl (by decide) rfl (fun ls hl => ?_)
          refine lv_iinc (v := (nI (i11 + 1))) (lv' := [(3, .int (nI (i11 + 1))), (2, .int q56), (1, .int (nI i11)), (5, .int q56), (4, .int q49), (0, .ref (am 0))]) hx hb dX2_bestCut_86 hl (k := 5) rfl (nI_1 i11) (by decide) rfl (fun ls hl => ?_)
          refine lv_goto (tgt := 11) hx hb dX2_bestCut_89 (by decide) ?_
          exact ih11 (i11 + 1) (nI i11) q56 g_q49 _ _ _ (by omega) he hP hD hS (lv_sub hl [5, 2, 1, 0] rfl)
  exact L11 96 0 (-1) (-1) g _ _ _ (by omega) he hP hD hS (lv_sub hl [3, 2, 1, 0] rfl)
def spX2_leavesNext (g : Nat → Int32) (be : Nat → Int32) (si : Int32) (ge : Int32) (cu : Int32) (pl : Int32) (br : Int32) (th : Int32) : Int32 × (Nat → Int32) × (Int32) := gv_b2 (spX2_grows g be si ge cu pl br 0 0 1) (fun q8 g_q8 => gv_b (spX2_allLeaves g_q8 be si ge cu pl br 0 1) (fun q14 => (q14, g_q8, 0)))
theorem spX2_leavesNext_e (g : Nat → Int32) (be : Nat → Int32) (si : Int32) (ge : Int32) (cu : Int32) (pl : Int32) (br : Int32) (th : Int32) : spX2_leavesNext g be si ge cu pl br th = gv_b2 (spX2_grows g be si ge cu pl br 0 0 1) (fun q8 g_q8 => gv_b (spX2_allLeaves g_q8 be si ge cu pl br 0 1) (fun q14 => (q14, g_q8, 0))) := rfl
set_option maxHeartbeats 4000000 in
set_option maxRecDepth 100000 in
theorem kX2_leavesNext (l : Launch) (dC : Nat → ClassId) (dI : Nat → Nat → Nat) (cI cL : ClassId) (am : Nat → Nat) (g : Nat → Int32) (be : Nat → Int32) (si : Int32) (ge : Int32) (cu : Int32) (pl : Int32) (br : Int32) (th : Int32) : gv_Mi l yX2_leavesNext wsX2_leavesNext 6 141 (dC, dI) [(cI, .int), (cL, .long)] [.ref (am 0)] (gv_M cI am g be si ge cu pl br th) (fun (r : Int32) (u : (Nat → Int32) × (Int32)) => (r, u) = spX2_leavesNext g be si ge cu pl br th) (fun (u : (Nat → Int32) × (Int32)) => (gv_M cI am u.1 be si ge cu pl br u.2)) := by
  refine gv_ofi (cc := cX2_leavesNext) (maxL := 2) (own := RX2) (by decide) rfl (Nat.le_of_ble_eq_true rfl) rfl ?_
  intro A p e s m args below meth c Q ls H locs hx hb hml hts hown hP hK hD hN hS hl kr
  have inX2 : ∀ w ∈ wsX20, w ∈ wsX2_leavesNext := (fun _ h => List.mem_cons_of_mem _ (List.mem_append_right _ h))
  have hl : lv_has ls 2 [(0, .ref (am 0))] := hl
  have he := (spX2_leavesNext_e g be si ge cu pl br th).symm
  refine lv_aload_n hx hb dX2_leavesNext_0 rfl (lv_at hl 0 rfl) ?_
  refine lv_iconst (v := 0) hx hb dX2_leavesNext_1 (by decide) ?_
  refine va_put (D := (dC, dI)) (ci := 2) (v := .int 0) (ty := .int) (C := RX2) (T := TX2) (N := 8) hx hb hts inX2 tyX2 tyX2_ok nmX2 hown hK hP hD hS 0 rfl rfl 7 (by decide) (hts (.fieldLink RX2 20 "VineWallModel" "thrown" "I") (List.mem_of_getElem? (i := 1) rfl)) (fun _ h9 => h9) rfl (by decide +kernel) rfl rfl (Nat.le_of_ble_eq_true rfl) dX2_leavesNext_2 (fun H locs hP hD hS => ?_)
  have hP : va_P (dC, dI) vwCl (gv_M cI am g be si ge cu pl br 0) H := hP
  have hD : va_D A (gv_M cI am g be si ge cu pl br 0) := hD
  refine lv_aload_n hx hb dX2_leavesNext_5 rfl (lv_at hl 0 rfl) ?_
  refine lv_iconst (v := 0) hx hb dX2_leavesNext_6 (by decide) ?_
  refine lv_iconst (v := 1) hx hb dX2_leavesNext_7 (by decide) ?_
  have hPc : va_P (dC, dI) vwCl (gv_M cI am g be si ge cu pl br 0) H := gv_sub [0, 1, 2] hP rfl
  have hDc : va_D (gv_in (gv_M cI am g be si ge cu pl br 0)) (gv_M cI am g be si ge cu pl br 0) := gv_D hD [0, 1, 2] (by decide) rfl
  refine gv_ki (wf := (fun (u : (Nat → Int32)) => (gv_M cI am u be si ge cu pl br 0))) (wc := (gv_M cI am g be si ge cu pl br 0)) [0, 1, 2] (fun _ => rfl) hP hD hS rfl rfl (va_runV (As := [.int 0, .int 1]) (rest := []) ⟨hx, hb, hml, hown, hts⟩ (kX2_grows l dC dI cI cL am g be si ge cu pl br 0 0 0 (rfl : (0 : Int32) = nI 0) 1 1 (rfl : (1 : Int32) = nI 1) (by omega) (by omega) (gv_in (gv_M cI am g be si ge cu pl br 0))) (cwV (rm := gv_R 5 117) 2 hts gX2_leavesNext_X2_grows rfl rfl rfl (by decide +kernel) ⟨Nat.le_of_ble_eq_true rfl, Nat.le_of_ble_eq_true rfl⟩) (gv_preV (ci := 2) hK hPc hDc hN rfl rfl) rfl rfl hl.1 rfl (lv_room (Nat.le_of_ble_eq_true rfl)) dX2_leavesNext_8 ⟨Nat.zero_le _, Nat.zero_le _⟩) (fun q8 u H locs hw hP hD hS => ?_)
  obtain ⟨g_q8, rfl⟩ : ∃ z, z = u := ⟨_, rfl⟩
  have he := gv_q2 hw he
  have hP : va_P (dC, dI) vwCl (gv_M cI am g_q8 be si ge cu pl br 0) H := hP
  have hD : va_D A (gv_M cI am g_q8 be si ge cu pl br 0) := hD
  refine lv_istore_n (lv' := [(1, .int q8), (0, .ref (am 0))]) hx hb dX2_leavesNext_11 rfl hl (by decide) rfl (fun ls hl => ?_)
  refine lv_aload_n hx hb dX2_leavesNext_12 rfl (lv_at hl 1 rfl) ?_
  refine lv_iconst (v := 1) hx hb dX2_leavesNext_13 (by decide) ?_
  have hPc : va_P (dC, dI) vwCl (gv_M cI am g_q8 be si ge cu pl br 0) H := gv_sub [0, 1, 2] hP rfl
  have hDc : va_D (gv_in (gv_M cI am g_q8 be si ge cu pl br 0)) (gv_M cI am g_q8 be si ge cu pl br 0) := gv_D hD [0, 1, 2] (by decide) rfl
  refine gv_ki (wf := (fun (_ : Unit) => (gv_M cI am g_q8 be si ge cu pl br 0))) (wc := (gv_M cI am g_q8 be si ge cu pl br 0)) [0, 1, 2] (fun _ => rfl) hP hD hS rfl rfl (va_runV (As := [.int 1]) (rest := []) ⟨hx, hb, hml, hown, hts⟩ (kX2_allLeaves l dC dI cI cL am g_q8 be si ge cu pl br 0 1 1 (rfl : (1 : Int32) = nI 1) (by omega) (gv_in (gv_M cI am g_q8 be si ge cu pl br 0))) (cwV (rm := gv_R 4 91) 1 hts gX2_leavesNext_X2_allLeaves rfl rfl rfl (by decide +kernel) ⟨Nat.le_of_ble_eq_true rfl, Nat.le_of_ble_eq_true rfl⟩) (gv_preV (ci := 2) hK hPc hDc hN rfl rfl) rfl rfl hl.1 rfl (lv_room (Nat.le_of_ble_eq_true rfl)) dX2_leavesNext_14 ⟨Nat.zero_le _, Nat.zero_le _⟩) (fun q14 u H locs hw hP hD hS => ?_)
  have he := gv_q hw he
  have hP : va_P (dC, dI) vwCl (gv_M cI am g_q8 be si ge cu pl br 0) H := hP
  have hD : va_D A (gv_M cI am g_q8 be si ge cu pl br 0) := hD
  exact kr q14 (g_q8, 0) _ _ _ _ he hP hS dX2_leavesNext_17
