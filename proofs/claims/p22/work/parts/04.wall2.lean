theorem mc_isCell {r c : Nat} (hr : r < 8) (hc : c < 12) : spX1_isCell (nI r) (nI c) = 1 := by
  unfold spX1_isCell
  rw [if_neg (nI_pos (by omega)), if_neg (show ¬ (8 : Int32) ≤ nI r from nI_ge (b := 8) hr (by decide)), if_neg (nI_pos (by omega)), if_neg (show ¬ (12 : Int32) ≤ nI c from nI_ge (b := 12) hc (by decide))]
/-! what a passed test of a cell says -/
theorem gm_cell {q a b : Int32} (hq : q = spX1_isCell a b) (h : ¬ q = 0) : vp_in a 8 ∧ vp_in b 12 := by
  subst hq
  unfold spX1_isCell at h
  by_cases h1 : a < 0
  · rw [if_pos h1] at h; exact absurd rfl h
  rw [if_neg h1] at h
  by_cases h2 : (8 : Int32) ≤ a
  · rw [if_pos h2] at h; exact absurd rfl h
  rw [if_neg h2] at h
  by_cases h3 : b < 0
  · rw [if_pos h3] at h; exact absurd rfl h
  rw [if_neg h3] at h
  by_cases h4 : (12 : Int32) ≤ b
  · rw [if_pos h4] at h; exact absurd rfl h
  exact ⟨gv_in8 h1 (rfl : (8 : Int32) = nI 8) (by decide) h2, gv_in8 h3 (rfl : (12 : Int32) = nI 12) (by decide) h4⟩

def lpX0_hasCuts_4 (f_c : Nat → Int32) (h_c : Nat → Int32) : Nat → Nat → (Int32) → Int32
  | 0, _, x1_4 => (if x1_4 = 0 then 0 else 1)
  | n4 + 1, i4, x1_4 => lpX0_hasCuts_4 f_c h_c n4 (i4 + 1) (x1_4 ||| (h_c i4))
theorem lpX0_hasCuts_4_0 (f_c : Nat → Int32) (h_c : Nat → Int32) (i4 : Nat) (x1_4 : Int32) : lpX0_hasCuts_4 f_c h_c 0 i4 x1_4 = (if x1_4 = 0 then 0 else 1) := rfl
theorem lpX0_hasCuts_4_s (f_c : Nat → Int32) (h_c : Nat → Int32) (n4 : Nat) (i4 : Nat) (x1_4 : Int32) : lpX0_hasCuts_4 f_c h_c (n4 + 1) i4 x1_4 = lpX0_hasCuts_4 f_c h_c n4 (i4 + 1) (x1_4 ||| (h_c i4)) := rfl
def spX0_hasCuts (f : Nat → Int32) (h : Nat → Int32) : Int32 := lpX0_hasCuts_4 f h 8 0 0
theorem spX0_hasCuts_e (f : Nat → Int32) (h : Nat → Int32) : spX0_hasCuts f h = lpX0_hasCuts_4 f h 8 0 0 := rfl
set_option maxHeartbeats 4000000 in
set_option maxRecDepth 100000 in
theorem kX0_hasCuts (l : Launch) (dC : Nat → ClassId) (dI : Nat → Nat → Nat) (cI cL : ClassId) (h0 : Nat) (h1 : Nat) (h2 : Nat) (f : Nat → Int32) (h : Nat → Int32) : gv_Mi l yX0_hasCuts wsX0_hasCuts 0 0 (dC, dI) [(cI, .int), (cL, .long)] [.ref h0] (gv_W cI h0 h1 h2 f h) (fun (r : Int32) (_ : Unit) => r = spX0_hasCuts f h) (fun (_ : Unit) => (gv_W cI h0 h1 h2 f h)) := by
  refine gv_ofz (cc := cX0_hasCuts) (maxL := 3) (own := RX0) (ty := .boolean) (by decide) rfl (Nat.le_of_ble_eq_true rfl) rfl ?_
  intro A p e s m args below meth c Q ls H locs hx hb hml hts hown hP hK hD hN hS hl kr
  have inX0 : ∀ w ∈ wsX00, w ∈ wsX0_hasCuts := (fun _ h => List.mem_cons_of_mem _ (List.mem_append_right _ h))
  have hl : lv_has ls 3 [(0, .ref h0)] := hl
  have he := (spX0_hasCuts_e f h).symm
  refine lv_iconst (v := 0) hx hb dX0_hasCuts_0 (by decide) ?_
  refine lv_istore_n (lv' := [(1, .int 0), (0, .ref h0)]) hx hb dX0_hasCuts_1 rfl hl (by decide) rfl (fun ls hl => ?_)
  refine lv_iconst (v := 0) hx hb dX0_hasCuts_2 (by decide) ?_
  refine lv_istore_n (lv' := [(2, .int 0), (1, .int 0), (0, .ref h0)]) hx hb dX0_hasCuts_3 rfl hl (by decide) rfl (fun ls hl => ?_)
  have L4 : ∀ (n4 i4 : Nat) (x1_4 : Int32) (H : Heap) (locs : List Loc) (ls : Array Slot), i4 + n4 = 8 → lpX0_hasCuts_4 f h n4 i4 x1_4 = spX0_hasCuts f h → va_P (dC, dI) vwCl (gv_W cI h0 h1 h2 f h) H → va_D A (gv_W cI h0 h1 h2 f h) → va_S A s.heap H locs → lv_has ls 3 [(0, .ref h0), (1, .int x1_4), (2, .int (nI i4))] → W p l e (gv_R 0 0) s m args below meth c H locs 0 0 Q (F0 m 4 ls []) := by
    intro n4
    induction n4 with
    | zero =>
      intro i4 x1_4 H locs ls hi4 he hP hD hS hl
      have he := (lpX0_hasCuts_4_0 _ _ _ _).symm.trans he
      refine lv_iload_n hx hb dX0_hasCuts_4 rfl (lv_at hl 2 rfl) ?_
      refine lv_bipush (v := 8) hx hb dX0_hasCuts_5 (by decide) ?_
      refine lv_icmp_ge (tgt := 25) hx hb dX0_hasCuts_7 (by decide) (fun _ => ?_) (fun c => absurd c (gv_ge (N := 8) rfl (rfl : (8 : Int32) = nI 8) (by omega) (by omega)))
      refine lv_iload_n hx hb dX0_hasCuts_25 rfl (lv_at hl 1 rfl) ?_
      refine lv_if_eq (tgt := 33) hx hb dX0_hasCuts_26 (by decide) (fun cd26 => ?_) (fun cd26 => ?_)
      · have he := gv_t cd26 he
        refine lv_iconst (v := 0) hx hb dX0_hasCuts_33 (by decide) ?_
        exact kr 0 () _ _ _ _ rfl he hP hS dX0_hasCuts_34
      · have he := gv_f cd26 he
        refine lv_iconst (v := 1) hx hb dX0_hasCuts_29 (by decide) ?_
        refine lv_goto (tgt := 34) hx hb dX0_hasCuts_30 (by decide) ?_
        exact kr 1 () _ _ _ _ rfl he hP hS dX0_hasCuts_34
    | succ n4 ih4 =>
      intro i4 x1_4 H locs ls hi4 he hP hD hS hl
      have he := (lpX0_hasCuts_4_s _ _ _ _ _).symm.trans he
      refine lv_iload_n hx hb dX0_hasCuts_4 rfl (lv_at hl 2 rfl) ?_
      refine lv_bipush (v := 8) hx hb dX0_hasCuts_5 (by decide) ?_
      refine lv_icmp_ge (tgt := 25) hx hb dX0_hasCuts_7 (by decide) (fun c => absurd c (gv_lt (N := 8) rfl (rfl : (8 : Int32) = nI 8) (by omega) (by omega))) (fun _ => ?_)
      refine lv_iload_n hx hb dX0_hasCuts_10 rfl (lv_at hl 1 rfl) ?_
      refine lv_aload_n hx hb dX0_hasCuts_11 rfl (lv_at hl 0 rfl) ?_
      refine va_get (D := (dC, dI)) (ci := 0) (v := .ref h2) (C := RX0) (T := TX0) (N := 2) hx hb hts inX0 hown hK hP 0 rfl rfl 1 (by decide) (hts (.fieldLink RX0 15 "VineWall$Wall" "cutRows" "[I") (List.mem_of_getElem? (i := 1) rfl)) (fun _ h9 => h9) rfl dX0_hasCuts_12 ?_
      refine lv_iload_n hx hb dX0_hasCuts_15 rfl (lv_at hl 2 rfl) ?_
      refine gv_iald (cA := cI) (f := h) (k := i4) hx hb hK hP 2 0 rfl rfl rfl (by omega) (by decide) dX0_hasCuts_16 ?_
      refine lv_ior hx hb dX0_hasCuts_17 ?_
      refine lv_istore_n (lv' := [(1, .int (x1_4 ||| (h i4))), (0, .ref h0), (2, .int (nI i4))]) hx hb dX0_hasCuts_18 rfl hl (by decide) rfl (fun ls hl => ?_)
      refine lv_iinc (v := (nI (i4 + 1))) (lv' := [(2, .int (nI (i4 + 1))), (1, .int (x1_4 ||| (h i4))), (0, .ref h0)]) hx hb dX0_hasCuts_19 hl (k := 2) rfl (nI_1 i4) (by decide) rfl (fun ls hl => ?_)
      refine lv_goto (tgt := 4) hx hb dX0_hasCuts_22 (by decide) ?_
      exact ih4 (i4 + 1) (x1_4 ||| (h i4)) _ _ _ (by omega) he hP hD hS (lv_sub hl [2, 1, 0] rfl)
  exact L4 8 0 0 _ _ _ (by omega) he hP hD hS (lv_sub hl [2, 1, 0] rfl)
def spX0_putLeaf (f : Nat → Int32) (h : Nat → Int32) (p1 : Int32) (p2 : Int32) : (Nat → Int32) := gv_b (spX1_isCell p1 p2) (fun q2 => (if q2 = 0 then f else upd f p1.toNatClampNeg ((f p1.toNatClampNeg) ||| ((1 : Int32) <<< (p2 &&& 31)))))
theorem spX0_putLeaf_e (f : Nat → Int32) (h : Nat → Int32) (p1 : Int32) (p2 : Int32) : spX0_putLeaf f h p1 p2 = gv_b (spX1_isCell p1 p2) (fun q2 => (if q2 = 0 then f else upd f p1.toNatClampNeg ((f p1.toNatClampNeg) ||| ((1 : Int32) <<< (p2 &&& 31))))) := rfl
set_option maxHeartbeats 4000000 in
set_option maxRecDepth 100000 in
theorem kX0_putLeaf (l : Launch) (dC : Nat → ClassId) (dI : Nat → Nat → Nat) (cI cL : ClassId) (h0 : Nat) (h1 : Nat) (h2 : Nat) (f : Nat → Int32) (h : Nat → Int32) (p1 : Int32) (p2 : Int32) : gv_Mv l yX0_putLeaf wsX0_putLeaf 1 21 (dC, dI) [(cI, .int), (cL, .long)] [.ref h0, .int p1, .int p2] (gv_W cI h0 h1 h2 f h) (fun (u : (Nat → Int32)) => u = spX0_putLeaf f h p1 p2) (fun (u : (Nat → Int32)) => (gv_W cI h0 h1 h2 u h)) := by
  refine gv_ofv (cc := cX0_putLeaf) (maxL := 3) (own := RX0) (by decide) rfl (Nat.le_of_ble_eq_true rfl) rfl ?_
  intro A p e s m args below meth c Q ls H locs hx hb hml hts hown hP hK hD hN hS hl kr
  have inX0 : ∀ w ∈ wsX00, w ∈ wsX0_putLeaf := (fun _ h => List.mem_cons_of_mem _ (List.mem_append_right _ h))
  have hl : lv_has ls 3 [(0, .ref h0), (1, .int p1), (2, .int p2)] := hl
  have he := (spX0_putLeaf_e f h p1 p2).symm
  refine lv_iload_n hx hb dX0_putLeaf_0 rfl (lv_at hl 1 rfl) ?_
  refine lv_iload_n hx hb dX0_putLeaf_1 rfl (lv_at hl 2 rfl) ?_
  have hPc : va_P (dC, dI) vwCl ([] : va_W) H := gv_P0
  have hDc : va_D (gv_in ([] : va_W)) ([] : va_W) := gv_D0
  refine gv_ki (wf := (fun (_ : Unit) => ([] : va_W))) (wc := ([] : va_W)) [] (fun _ => rfl) hP hD hS rfl rfl (va_runSN (As := [.int p1, .int p2]) (rest := []) ⟨hx, hb, hml, hown, hts⟩ (kX1_isCell l dC dI cI cL p1 p2 (gv_in ([] : va_W))) ⟨va_cnB (rm := gv_R 0 0) 2 hts gX0_putLeaf_X1_isCell_n29 rfl rfl rfl hN.1 (hts (.initialized RX1) (List.mem_of_getElem? (i := 3) rfl)) (by decide +kernel) ⟨Nat.le_of_ble_eq_true rfl, Nat.le_of_ble_eq_true rfl⟩, hts (.static yX1_isCell) (List.mem_of_getElem? (i := 2) rfl), trivial⟩ (gv_preS hK hPc hDc hN) rfl rfl hl.1 rfl (lv_room (Nat.le_of_ble_eq_true rfl)) dX0_putLeaf_2 ⟨Nat.zero_le _, Nat.zero_le _⟩) (fun q2 u H locs hw hP hD hS => ?_)
  have he := gv_q hw he
  have hP : va_P (dC, dI) vwCl (gv_W cI h0 h1 h2 f h) H := hP
  have hD : va_D A (gv_W cI h0 h1 h2 f h) := hD
  refine lv_if_eq (tgt := 20) hx hb dX0_putLeaf_5 (by decide) (fun cd5 => ?_) (fun cd5 => ?_)
  · have he := gv_t cd5 he
    exact kr f _ _ _ _ he hP hS dX0_putLeaf_20
  · have he := gv_f cd5 he
    have hv8 := gm_cell hw cd5
    refine lv_aload_n hx hb dX0_putLeaf_8 rfl (lv_at hl 0 rfl) ?_
    refine va_get (D := (dC, dI)) (ci := 0) (v := .ref h1) (C := RX0) (T := TX0) (N := 2) hx hb hts inX0 hown hK hP 0 rfl rfl 0 (by decide) (hts (.fieldLink RX0 9 "VineWall$Wall" "leafRows" "[I") (List.mem_of_getElem? (i := 1) rfl)) (fun _ h9 => h9) rfl dX0_putLeaf_9 ?_
    refine lv_iload_n hx hb dX0_putLeaf_12 rfl (lv_at hl 1 rfl) ?_
    refine lv_dup2_11 hx hb dX0_putLeaf_13 rfl rfl ?_
    refine va_iald (cA := cI) hx hb hK hP 1 0 rfl rfl hv8.1 dX0_putLeaf_14 ?_
    refine lv_iconst (v := 1) hx hb dX0_putLeaf_15 (by decide) ?_
    refine lv_iload_n hx hb dX0_putLeaf_16 rfl (lv_at hl 2 rfl) ?_
    refine lv_ishl hx hb dX0_putLeaf_17 ?_
    refine lv_ior hx hb dX0_putLeaf_18 ?_
    refine va_iast (cA := cI) hx hb hK hP hD hS 1 0 rfl rfl hv8.1 dX0_putLeaf_19 (fun H locs hP hD hS => ?_)
    have hP : va_P (dC, dI) vwCl (gv_W cI h0 h1 h2 (upd f p1.toNatClampNeg ((f p1.toNatClampNeg) ||| ((1 : Int32) <<< (p2 &&& 31)))) h) H := hP
    have hD : va_D A (gv_W cI h0 h1 h2 (upd f p1.toNatClampNeg ((f p1.toNatClampNeg) ||| ((1 : Int32) <<< (p2 &&& 31)))) h) := hD
    exact kr (upd f p1.toNatClampNeg ((f p1.toNatClampNeg) ||| ((1 : Int32) <<< (p2 &&& 31)))) _ _ _ _ he hP hS dX0_putLeaf_20
def spX0_takeLeaf (f : Nat → Int32) (h : Nat → Int32) (p1 : Int32) (p2 : Int32) : (Nat → Int32) := gv_b (spX1_isCell p1 p2) (fun q2 => (if q2 = 0 then f else upd f p1.toNatClampNeg ((f p1.toNatClampNeg) &&& (((1 : Int32) <<< (p2 &&& 31)) ^^^ (-1)))))
theorem spX0_takeLeaf_e (f : Nat → Int32) (h : Nat → Int32) (p1 : Int32) (p2 : Int32) : spX0_takeLeaf f h p1 p2 = gv_b (spX1_isCell p1 p2) (fun q2 => (if q2 = 0 then f else upd f p1.toNatClampNeg ((f p1.toNatClampNeg) &&& (((1 : Int32) <<< (p2 &&& 31)) ^^^ (-1))))) := rfl
set_option maxHeartbeats 4000000 in
set_option maxRecDepth 100000 in
theorem kX0_takeLeaf (l : Launch) (dC : Nat → ClassId) (dI : Nat → Nat → Nat) (cI cL : ClassId) (h0 : Nat) (h1 : Nat) (h2 : Nat) (f : Nat → Int32) (h : Nat → Int32) (p1 : Int32) (p2 : Int32) : gv_Mv l yX0_takeLeaf wsX0_takeLeaf 1 21 (dC, dI) [(cI, .int), (cL, .long)] [.ref h0, .int p1, .int p2] (gv_W cI h0 h1 h2 f h) (fun (u : (Nat → Int32)) => u = spX0_takeLeaf f h p1 p2) (fun (u : (Nat → Int32)) => (gv_W cI h0 h1 h2 u h)) := by
  refine gv_ofv (cc := cX0_takeLeaf) (maxL := 3) (own := RX0) (by decide) rfl (Nat.le_of_ble_eq_true rfl) rfl ?_
  intro A p e s m args below meth c Q ls H locs hx hb hml hts hown hP hK hD hN hS hl kr
  have inX0 : ∀ w ∈ wsX00, w ∈ wsX0_takeLeaf := (fun _ h => List.mem_cons_of_mem _ (List.mem_append_right _ h))
  have hl : lv_has ls 3 [(0, .ref h0), (1, .int p1), (2, .int p2)] := hl
  have he := (spX0_takeLeaf_e f h p1 p2).symm
  refine lv_iload_n hx hb dX0_takeLeaf_0 rfl (lv_at hl 1 rfl) ?_
  refine lv_iload_n hx hb dX0_takeLeaf_1 rfl (lv_at hl 2 rfl) ?_
  have hPc : va_P (dC, dI) vwCl ([] : va_W) H := gv_P0
  have hDc : va_D (gv_in ([] : va_W)) ([] : va_W) := gv_D0
  refine gv_ki (wf := (fun (_ : Unit) => ([] : va_W))) (wc := ([] : va_W)) [] (fun _ => rfl) hP hD hS rfl rfl (va_runSN (As := [.int p1, .int p2]) (rest := []) ⟨hx, hb, hml, hown, hts⟩ (kX1_isCell l dC dI cI cL p1 p2 (gv_in ([] : va_W))) ⟨va_cnB (rm := gv_R 0 0) 2 hts gX0_takeLeaf_X1_isCell_n29 rfl rfl rfl hN.1 (hts (.initialized RX1) (List.mem_of_getElem? (i := 3) rfl)) (by decide +kernel) ⟨Nat.le_of_ble_eq_true rfl, Nat.le_of_ble_eq_true rfl⟩, hts (.static yX1_isCell) (List.mem_of_getElem? (i := 2) rfl), trivial⟩ (gv_preS hK hPc hDc hN) rfl rfl hl.1 rfl (lv_room (Nat.le_of_ble_eq_true rfl)) dX0_takeLeaf_2 ⟨Nat.zero_le _, Nat.zero_le _⟩) (fun q2 u H locs hw hP hD hS => ?_)
  have he := gv_q hw he
  have hP : va_P (dC, dI) vwCl (gv_W cI h0 h1 h2 f h) H := hP
  have hD : va_D A (gv_W cI h0 h1 h2 f h) := hD
  refine lv_if_eq (tgt := 22) hx hb dX0_takeLeaf_5 (by decide) (fun cd5 => ?_) (fun cd5 => ?_)
  · have he := gv_t cd5 he
    exact kr f _ _ _ _ he hP hS dX0_takeLeaf_22
  · have he := gv_f cd5 he
    have hv8 := gm_cell hw cd5
    refine lv_aload_n hx hb dX0_takeLeaf_8 rfl (lv_at hl 0 rfl) ?_
    refine va_get (D := (dC, dI)) (ci := 0) (v := .ref h1) (C := RX0) (T := TX0) (N := 2) hx hb hts inX0 hown hK hP 0 rfl rfl 0 (by decide) (hts (.fieldLink RX0 9 "VineWall$Wall" "leafRows" "[I") (List.mem_of_getElem? (i := 1) rfl)) (fun _ h9 => h9) rfl dX0_takeLeaf_9 ?_
    refine lv_iload_n hx hb dX0_takeLeaf_12 rfl (lv_at hl 1 rfl) ?_
    refine lv_dup2_11 hx hb dX0_takeLeaf_13 rfl rfl ?_
    refine va_iald (cA := cI) hx hb hK hP 1 0 rfl rfl hv8.1 dX0_takeLeaf_14 ?_
    refine lv_iconst (v := 1) hx hb dX0_takeLeaf_15 (by decide) ?_
    refine lv_iload_n hx hb dX0_takeLeaf_16 rfl (lv_at hl 2 rfl) ?_
    refine lv_ishl hx hb dX0_takeLeaf_17 ?_
    refine lv_iconst (v := (-1)) hx hb dX0_takeLeaf_18 (by decide) ?_
    refine lv_ixor hx hb dX0_takeLeaf_19 ?_
    refine lv_iand hx hb dX0_takeLeaf_20 ?_
    refine va_iast (cA := cI) hx hb hK hP hD hS 1 0 rfl rfl hv8.1 dX0_takeLeaf_21 (fun H locs hP hD hS => ?_)
    have hP : va_P (dC, dI) vwCl (gv_W cI h0 h1 h2 (upd f p1.toNatClampNeg ((f p1.toNatClampNeg) &&& (((1 : Int32) <<< (p2 &&& 31)) ^^^ (-1)))) h) H := hP
    have hD : va_D A (gv_W cI h0 h1 h2 (upd f p1.toNatClampNeg ((f p1.toNatClampNeg) &&& (((1 : Int32) <<< (p2 &&& 31)) ^^^ (-1)))) h) := hD
    exact kr (upd f p1.toNatClampNeg ((f p1.toNatClampNeg) &&& (((1 : Int32) <<< (p2 &&& 31)) ^^^ (-1)))) _ _ _ _ he hP hS dX0_takeLeaf_22
def spX0_cutLeaf (f : Nat → Int32) (h : Nat → Int32) (p1 : Int32) (p2 : Int32) : (Nat → Int32) × (Nat → Int32) := gv_b (spX0_takeLeaf f h p1 p2) (fun f_q3 => gv_b (spX1_isCell p1 p2) (fun q8 => (if q8 = 0 then (f_q3, h) else (f_q3, upd h p1.toNatClampNeg ((h p1.toNatClampNeg) ||| ((1 : Int32) <<< (p2 &&& 31)))))))
theorem spX0_cutLeaf_e (f : Nat → Int32) (h : Nat → Int32) (p1 : Int32) (p2 : Int32) : spX0_cutLeaf f h p1 p2 = gv_b (spX0_takeLeaf f h p1 p2) (fun f_q3 => gv_b (spX1_isCell p1 p2) (fun q8 => (if q8 = 0 then (f_q3, h) else (f_q3, upd h p1.toNatClampNeg ((h p1.toNatClampNeg) ||| ((1 : Int32) <<< (p2 &&& 31))))))) := rfl
set_option maxHeartbeats 4000000 in
set_option maxRecDepth 100000 in
theorem kX0_cutLeaf (l : Launch) (dC : Nat → ClassId) (dI : Nat → Nat → Nat) (cI cL : ClassId) (h0 : Nat) (h1 : Nat) (h2 : Nat) (f : Nat → Int32) (h : Nat → Int32) (p1 : Int32) (p2 : Int32) : gv_Mv l yX0_cutLeaf wsX0_cutLeaf 2 43 (dC, dI) [(cI, .int), (cL, .long)] [.ref h0, .int p1, .int p2] (gv_W cI h0 h1 h2 f h) (fun (u : (Nat → Int32) × (Nat → Int32)) => u = spX0_cutLeaf f h p1 p2) (fun (u : (Nat → Int32) × (Nat → Int32)) => (gv_W cI h0 h1 h2 u.1 u.2)) := by
  refine gv_ofv (cc := cX0_cutLeaf) (maxL := 3) (own := RX0) (by decide) rfl (Nat.le_of_ble_eq_true rfl) rfl ?_
  intro A p e s m args below meth c Q ls H locs hx hb hml hts hown hP hK hD hN hS hl kr
  have inX0 : ∀ w ∈ wsX00, w ∈ wsX0_cutLeaf := (fun _ h => List.mem_cons_of_mem _ (List.mem_append_right _ h))
  have hl : lv_has ls 3 [(0, .ref h0), (1, .int p1), (2, .int p2)] := hl
  have he := (spX0_cutLeaf_e f h p1 p2).symm
  refine lv_aload_n hx hb dX0_cutLeaf_0 rfl (lv_at hl 0 rfl) ?_
  refine lv_iload_n hx hb dX0_cutLeaf_1 rfl (lv_at hl 1 rfl) ?_
  refine lv_iload_n hx hb dX0_cutLeaf_2 rfl (lv_at hl 2 rfl) ?_
  have hPc : va_P (dC, dI) vwCl (gv_W cI h0 h1 h2 f h) H := gv_sub [0, 1, 2] hP rfl
  have hDc : va_D (gv_in (gv_W cI h0 h1 h2 f h)) (gv_W cI h0 h1 h2 f h) := gv_D hD [0, 1, 2] (by decide) rfl
  refine gv_kv (wf := (fun (u : (Nat → Int32)) => (gv_W cI h0 h1 h2 u h))) (wc := (gv_W cI h0 h1 h2 f h)) [0, 1, 2] (fun _ => rfl) hP hD hS rfl rfl (va_runV (As := [.int p1, .int p2]) (rest := []) ⟨hx, hb, hml, hown, hts⟩ (kX0_takeLeaf l dC dI cI cL h0 h1 h2 f h p1 p2 (gv_in (gv_W cI h0 h1 h2 f h))) (cwV (rm := gv_R 1 21) 2 hts gX0_cutLeaf_X0_takeLeaf rfl rfl rfl (by decide +kernel) ⟨Nat.le_of_ble_eq_true rfl, Nat.le_of_ble_eq_true rfl⟩) (gv_preV (ci := 0) hK hPc hDc hN rfl rfl) rfl rfl hl.1 rfl (lv_room (Nat.le_of_ble_eq_true rfl)) dX0_cutLeaf_3 ⟨Nat.zero_le _, Nat.zero_le _⟩) (fun u H locs hw hP hD hS => ?_)
  obtain ⟨f_q3, rfl⟩ : ∃ z, z = u := ⟨_, rfl⟩
  have he := gv_q hw he
  have hP : va_P (dC, dI) vwCl (gv_W cI h0 h1 h2 f_q3 h) H := hP
  have hD : va_D A (gv_W cI h0 h1 h2 f_q3 h) := hD
  refine lv_iload_n hx hb dX0_cutLeaf_6 rfl (lv_at hl 1 rfl) ?_
  refine lv_iload_n hx hb dX0_cutLeaf_7 rfl (lv_at hl 2 rfl) ?_
  have hPc : va_P (dC, dI) vwCl ([] : va_W) H := gv_P0
  have hDc : va_D (gv_in ([] : va_W)) ([] : va_W) := gv_D0
  refine gv_ki (wf := (fun (_ : Unit) => ([] : va_W))) (wc := ([] : va_W)) [] (fun _ => rfl) hP hD hS rfl rfl (va_runSN (As := [.int p1, .int p2]) (rest := []) ⟨hx, hb, hml, hown, hts⟩ (kX1_isCell l dC dI cI cL p1 p2 (gv_in ([] : va_W))) ⟨va_cnB (rm := gv_R 0 0) 2 hts gX0_cutLeaf_X1_isCell_n29 rfl rfl rfl hN.1 (hts (.initialized RX1) (List.mem_of_getElem? (i := 9) rfl)) (by decide +kernel) ⟨Nat.le_of_ble_eq_true rfl, Nat.le_of_ble_eq_true rfl⟩, hts (.static yX1_isCell) (List.mem_of_getElem? (i := 8) rfl), trivial⟩ (gv_preS hK hPc hDc hN) rfl rfl hl.1 rfl (lv_room (Nat.le_of_ble_eq_true rfl)) dX0_cutLeaf_8 ⟨Nat.zero_le _, Nat.zero_le _⟩) (fun q8 u H locs hw hP hD hS => ?_)
  have he := gv_q hw he
  have hP : va_P (dC, dI) vwCl (gv_W cI h0 h1 h2 f_q3 h) H := hP
  have hD : va_D A (gv_W cI h0 h1 h2 f_q3 h) := hD
  refine lv_if_eq (tgt := 26) hx hb dX0_cutLeaf_11 (by decide) (fun cd11 => ?_) (fun cd11 => ?_)
  · have he := gv_t cd11 he
    exact kr (f_q3, h) _ _ _ _ he hP hS dX0_cutLeaf_26
  · have he := gv_f cd11 he
    have hv8 := gm_cell hw cd11
    refine lv_aload_n hx hb dX0_cutLeaf_14 rfl (lv_at hl 0 rfl) ?_
    refine va_get (D := (dC, dI)) (ci := 0) (v := .ref h2) (C := RX0) (T := TX0) (N := 2) hx hb hts inX0 hown hK hP 0 rfl rfl 1 (by decide) (hts (.fieldLink RX0 15 "VineWall$Wall" "cutRows" "[I") (List.mem_of_getElem? (i := 1) rfl)) (fun _ h9 => h9) rfl dX0_cutLeaf_15 ?_
    refine lv_iload_n hx hb dX0_cutLeaf_18 rfl (lv_at hl 1 rfl) ?_
    refine lv_dup2_11 hx hb dX0_cutLeaf_19 rfl rfl ?_
    refine va_iald (cA := cI) hx hb hK hP 2 0 rfl rfl hv8.1 dX0_cutLeaf_20 ?_
    refine lv_iconst (v := 1) hx hb dX0_cutLeaf_21 (by decide) ?_
    refine lv_iload_n hx hb dX0_cutLeaf_22 rfl (lv_at hl 2 rfl) ?_
    refine lv_ishl hx hb dX0_cutLeaf_23 ?_
    refine lv_ior hx hb dX0_cutLeaf_24 ?_
    refine va_iast (cA := cI) hx hb hK hP hD hS 2 0 rfl rfl hv8.1 dX0_cutLeaf_25 (fun H locs hP hD hS => ?_)
    have hP : va_P (dC, dI) vwCl (gv_W cI h0 h1 h2 f_q3 (upd h p1.toNatClampNeg ((h p1.toNatClampNeg) ||| ((1 : Int32) <<< (p2 &&& 31))))) H := hP
    have hD : va_D A (gv_W cI h0 h1 h2 f_q3 (upd h p1.toNatClampNeg ((h p1.toNatClampNeg) ||| ((1 : Int32) <<< (p2 &&& 31))))) := hD
    exact kr (f_q3, upd h p1.toNatClampNeg ((h p1.toNatClampNeg) ||| ((1 : Int32) <<< (p2 &&& 31)))) _ _ _ _ he hP hS dX0_cutLeaf_26
def lpX0_copyFrom_2 (f1_c : Nat → Int32) (g1_c : Nat → Int32) : Nat → Nat → (Nat → Int32) → (Nat → Int32) → (Nat → Int32) × (Nat → Int32)
  | 0, _, f_2, h_2 => (f_2, h_2)
  | n2 + 1, i2, f_2, h_2 => lpX0_copyFrom_2 f1_c g1_c n2 (i2 + 1) (upd f_2 i2 (f1_c i2)) (upd h_2 i2 (g1_c i2))
theorem lpX0_copyFrom_2_0 (f1_c : Nat → Int32) (g1_c : Nat → Int32) (i2 : Nat) (f_2 : Nat → Int32) (h_2 : Nat → Int32) : lpX0_copyFrom_2 f1_c g1_c 0 i2 f_2 h_2 = (f_2, h_2) := rfl
theorem lpX0_copyFrom_2_s (f1_c : Nat → Int32) (g1_c : Nat → Int32) (n2 : Nat) (i2 : Nat) (f_2 : Nat → Int32) (h_2 : Nat → Int32) : lpX0_copyFrom_2 f1_c g1_c (n2 + 1) i2 f_2 h_2 = lpX0_copyFrom_2 f1_c g1_c n2 (i2 + 1) (upd f_2 i2 (f1_c i2)) (upd h_2 i2 (g1_c i2)) := rfl
def spX0_copyFrom (f : Nat → Int32) (h : Nat → Int32) (f1 : Nat → Int32) (g1 : Nat → Int32) : (Nat → Int32) × (Nat → Int32) := lpX0_copyFrom_2 f1 g1 8 0 f h
theorem spX0_copyFrom_e (f : Nat → Int32) (h : Nat → Int32) (f1 : Nat → Int32) (g1 : Nat → Int32) : spX0_copyFrom f h f1 g1 = lpX0_copyFrom_2 f1 g1 8 0 f h := rfl
set_option maxHeartbeats 4000000 in
set_option maxRecDepth 100000 in
theorem kX0_copyFrom (l : Launch) (dC : Nat → ClassId) (dI : Nat → Nat → Nat) (cI cL : ClassId) (h0 : Nat) (h1 : Nat) (h2 : Nat) (k0 : Nat) (k1 : Nat) (k2 : Nat) (f : Nat → Int32) (h : Nat → Int32) (f1 : Nat → Int32) (g1 : Nat → Int32) : gv_Mv l yX0_copyFrom wsX0_copyFrom 0 0 (dC, dI) [(cI, .int), (cL, .long)] [.ref h0, .ref k0] (gv_WW cI h0 h1 h2 k0 k1 k2 f h f1 g1) (fun (u : (Nat → Int32) × (Nat → Int32)) => u = spX0_copyFrom f h f1 g1) (fun (u : (Nat → Int32) × (Nat → Int32)) => (gv_WW cI h0 h1 h2 k0 k1 k2 u.1 u.2 f1 g1)) := by
  refine gv_ofv (cc := cX0_copyFrom) (maxL := 3) (own := RX0) (by decide) rfl (Nat.le_of_ble_eq_true rfl) rfl ?_
  intro A p e s m args below meth c Q ls H locs hx hb hml hts hown hP hK hD hN hS hl kr
  have inX0 : ∀ w ∈ wsX00, w ∈ wsX0_copyFrom := (fun _ h => List.mem_cons_of_mem _ (List.mem_append_right _ h))
  have hl : lv_has ls 3 [(0, .ref h0), (1, .ref k0)] := hl
  have he := (spX0_copyFrom_e f h f1 g1).symm
  refine lv_iconst (v := 0) hx hb dX0_copyFrom_0 (by decide) ?_
  refine lv_istore_n (lv' := [(2, .int 0), (0, .ref h0), (1, .ref k0)]) hx hb dX0_copyFrom_1 rfl hl (by decide) rfl (fun ls hl => ?_)
  have L2 : ∀ (n2 i2 : Nat) (f_2 : Nat → Int32) (h_2 : Nat → Int32) (H : Heap) (locs : List Loc) (ls : Array Slot), i2 + n2 = 8 → lpX0_copyFrom_2 f1 g1 n2 i2 f_2 h_2 = spX0_copyFrom f h f1 g1 → va_P (dC, dI) vwCl (gv_WW cI h0 h1 h2 k0 k1 k2 f_2 h_2 f1 g1) H → va_D A (gv_WW cI h0 h1 h2 k0 k1 k2 f_2 h_2 f1 g1) → va_S A s.heap H locs → lv_has ls 3 [(0, .ref h0), (1, .ref k0), (2, .int (nI i2))] → W p l e (gv_R 0 0) s m args below meth c H locs 0 0 Q (F0 m 2 ls []) := by
    intro n2
    induction n2 with
    | zero =>
      intro i2 f_2 h_2 H locs ls hi2 he hP hD hS hl
      have he := (lpX0_copyFrom_2_0 _ _ _ _ _).symm.trans he
      refine lv_iload_n hx hb dX0_copyFrom_2 rfl (lv_at hl 2 rfl) ?_
      refine lv_bipush (v := 8) hx hb dX0_copyFrom_3 (by decide) ?_
      refine lv_icmp_ge (tgt := 38) hx hb dX0_copyFrom_5 (by decide) (fun _ => ?_) (fun c => absurd c (gv_ge (N := 8) rfl (rfl : (8 : Int32) = nI 8) (by omega) (by omega)))
      exact kr (f_2, h_2) _ _ _ _ he hP hS dX0_copyFrom_38
    | succ n2 ih2 =>
      intro i2 f_2 h_2 H locs ls hi2 he hP hD hS hl
      have he := (lpX0_copyFrom_2_s _ _ _ _ _ _).symm.trans he
      refine lv_iload_n hx hb dX0_copyFrom_2 rfl (lv_at hl 2 rfl) ?_
      refine lv_bipush (v := 8) hx hb dX0_copyFrom_3 (by decide) ?_
      refine lv_icmp_ge (tgt := 38) hx hb dX0_copyFrom_5 (by decide) (fun c => absurd c (gv_lt (N := 8) rfl (rfl : (8 : Int32) = nI 8) (by omega) (by omega))) (fun _ => ?_)
      refine lv_aload_n hx hb dX0_copyFrom_8 rfl (lv_at hl 0 rfl) ?_
      refine va_get (D := (dC, dI)) (ci := 0) (v := .ref h1) (C := RX0) (T := TX0) (N := 2) hx hb hts inX0 hown hK hP 0 rfl rfl 0 (by decide) (hts (.fieldLink RX0 9 "VineWall$Wall" "leafRows" "[I") (List.mem_of_getElem? (i := 1) rfl)) (fun _ h9 => h9) rfl dX0_copyFrom_9 ?_
      refine lv_iload_n hx hb dX0_copyFrom_12 rfl (lv_at hl 2 rfl) ?_
      refine lv_aload_n hx hb dX0_copyFrom_13 rfl (lv_at hl 1 rfl) ?_
      refine va_get (D := (dC, dI)) (ci := 0) (v := .ref k1) (C := RX0) (T := TX0) (N := 2) hx hb hts inX0 hown hK hP 3 rfl rfl 0 (by decide) (hts (.fieldLink RX0 9 "VineWall$Wall" "leafRows" "[I") (List.mem_of_getElem? (i := 1) rfl)) (fun _ h9 => h9) rfl dX0_copyFrom_14 ?_
      refine lv_iload_n hx hb dX0_copyFrom_17 rfl (lv_at hl 2 rfl) ?_
      refine gv_iald (cA := cI) (f := f1) (k := i2) hx hb hK hP 4 0 rfl rfl rfl (by omega) (by decide) dX0_copyFrom_18 ?_
      refine gv_iast (cA := cI) (k := i2) hx hb hK hP hD hS 1 0 rfl rfl rfl (by omega) (by decide) dX0_copyFrom_19 (fun H locs hP hD hS => ?_)
      have hP : va_P (dC, dI) vwCl (gv_WW cI h0 h1 h2 k0 k1 k2 (upd f_2 i2 (f1 i2)) h_2 f1 g1) H := hP
      have hD : va_D A (gv_WW cI h0 h1 h2 k0 k1 k2 (upd f_2 i2 (f1 i2)) h_2 f1 g1) := hD
      refine lv_aload_n hx hb dX0_copyFrom_20 rfl (lv_at hl 0 rfl) ?_
      refine va_get (D := (dC, dI)) (ci := 0) (v := .ref h2) (C := RX0) (T := TX0) (N := 2) hx hb hts inX0 hown hK hP 0 rfl rfl 1 (by decide) (hts (.fieldLink RX0 15 "VineWall$Wall" "cutRows" "[I") (List.mem_of_getElem? (i := 2) rfl)) (fun _ h9 => h9) rfl dX0_copyFrom_21 ?_
      refine lv_iload_n hx hb dX0_copyFrom_24 rfl (lv_at hl 2 rfl) ?_
      refine lv_aload_n hx hb dX0_copyFrom_25 rfl (lv_at hl 1 rfl) ?_
      refine va_get (D := (dC, dI)) (ci := 0) (v := .ref k2) (C := RX0) (T := TX0) (N := 2) hx hb hts inX0 hown hK hP 3 rfl rfl 1 (by decide) (hts (.fieldLink RX0 15 "VineWall$Wall" "cutRows" "[I") (List.mem_of_getElem? (i := 2) rfl)) (fun _ h9 => h9) rfl dX0_copyFrom_26 ?_
      refine lv_iload_n hx hb dX0_copyFrom_29 rfl (lv_at hl 2 rfl) ?_
      refine gv_iald (cA := cI) (f := g1) (k := i2) hx hb hK hP 5 0 rfl rfl rfl (by omega) (by decide) dX0_copyFrom_30 ?_
      refine gv_iast (cA := cI) (k := i2) hx hb hK hP hD hS 2 0 rfl rfl rfl (by omega) (by decide) dX0_copyFrom_31 (fun H locs hP hD hS => ?_)
      have hP : va_P (dC, dI) vwCl (gv_WW cI h0 h1 h2 k0 k1 k2 (upd f_2 i2 (f1 i2)) (upd h_2 i2 (g1 i2)) f1 g1) H := hP
      have hD : va_D A (gv_WW cI h0 h1 h2 k0 k1 k2 (upd f_2 i2 (f1 i2)) (upd h_2 i2 (g1 i2)) f1 g1) := hD
      refine lv_iinc (v := (nI (i2 + 1))) (lv' := [(2, .int (nI (i2 + 1))), (0, .ref h0), (1, .ref k0)]) hx hb dX0_copyFrom_32 hl (k := 2) rfl (nI_1 i2) (by decide) rfl (fun ls hl => ?_)
      refine lv_goto (tgt := 2) hx hb dX0_copyFrom_35 (by decide) ?_
      exact ih2 (i2 + 1) (upd f_2 i2 (f1 i2)) (upd h_2 i2 (g1 i2)) _ _ _ (by omega) he hP hD hS (lv_sub hl [1, 2, 0] rfl)
  exact L2 8 0 f h _ _ _ (by omega) he hP hD hS (lv_sub hl [1, 2, 0] rfl)
def lpX0_shadeAt_7 (b2_7 : Int32) (f_c : Nat → Int32) (h_c : Nat → Int32) : Nat → Nat → (Int32) → Int32
  | 0, _, x3_7 => x3_7
  | n7 + 1, i7, x3_7 => gv_b (spX0_leafRow f_c h_c (nI i7)) (fun q18 => lpX0_shadeAt_7 b2_7 f_c h_c n7 (i7 + 1) (x3_7 + ((q18 >>> (b2_7 &&& 31)) &&& 1)))
theorem lpX0_shadeAt_7_0 (b2_7 : Int32) (f_c : Nat → Int32) (h_c : Nat → Int32) (i7 : Nat) (x3_7 : Int32) : lpX0_shadeAt_7 b2_7 f_c h_c 0 i7 x3_7 = x3_7 := rfl
theorem lpX0_shadeAt_7_s (b2_7 : Int32) (f_c : Nat → Int32) (h_c : Nat → Int32) (n7 : Nat) (i7 : Nat) (x3_7 : Int32) : lpX0_shadeAt_7 b2_7 f_c h_c (n7 + 1) i7 x3_7 = gv_b (spX0_leafRow f_c h_c (nI i7)) (fun q18 => lpX0_shadeAt_7 b2_7 f_c h_c n7 (i7 + 1) (x3_7 + ((q18 >>> (b2_7 &&& 31)) &&& 1))) := rfl
def spX0_shadeAt (f : Nat → Int32) (h : Nat → Int32) (w1 : Nat) (p2 : Int32) : Int32 := lpX0_shadeAt_7 p2 f h (8 - w1) w1 0
theorem spX0_shadeAt_e (f : Nat → Int32) (h : Nat → Int32) (w1 : Nat) (p2 : Int32) : spX0_shadeAt f h w1 p2 = lpX0_shadeAt_7 p2 f h (8 - w1) w1 0 := rfl
set_option maxHeartbeats 4000000 in
set_option maxRecDepth 100000 in
theorem kX0_shadeAt (l : Launch) (dC : Nat → ClassId) (dI : Nat → Nat → Nat) (cI cL : ClassId) (h0 : Nat) (h1 : Nat) (h2 : Nat) (f : Nat → Int32) (h : Nat → Int32) (p1 : Int32) (w1 : Nat) (hw1 : p1 + 1 = nI w1) (p2 : Int32) (hy0 : w1 ≤ 8) : gv_Mi l yX0_shadeAt wsX0_shadeAt 1 21 (dC, dI) [(cI, .int), (cL, .long)] [.ref h0, .int p1, .int p2] (gv_W cI h0 h1 h2 f h) (fun (r : Int32) (_ : Unit) => r = spX0_shadeAt f h w1 p2) (fun (_ : Unit) => (gv_W cI h0 h1 h2 f h)) := by
  refine gv_ofi (cc := cX0_shadeAt) (maxL := 5) (own := RX0) (by decide) rfl (Nat.le_of_ble_eq_true rfl) rfl ?_
  intro A p e s m args below meth c Q ls H locs hx hb hml hts hown hP hK hD hN hS hl kr
  have inX0 : ∀ w ∈ wsX00, w ∈ wsX0_shadeAt := (fun _ h => List.mem_cons_of_mem _ (List.mem_append_right _ h))
  have hl : lv_has ls 5 [(0, .ref h0), (1, .int p1), (2, .int p2)] := hl
  have he := (spX0_shadeAt_e f h w1 p2).symm
  refine lv_iconst (v := 0) hx hb dX0_shadeAt_0 (by decide) ?_
  refine lv_istore_n (lv' := [(3, .int 0), (0, .ref h0), (1, .int p1), (2, .int p2)]) hx hb dX0_shadeAt_1 rfl hl (by decide) rfl (fun ls hl => ?_)
  refine lv_iload_n hx hb dX0_shadeAt_2 rfl (lv_at hl 2 rfl) ?_
  refine lv_iconst (v := 1) hx hb dX0_shadeAt_3 (by decide) ?_
  refine lv_iadd hx hb dX0_shadeAt_4 ?_
  refine lv_istore (lv' := [(4, .int (p1 + 1)), (3, .int 0), (0, .ref h0), (1, .int p1), (2, .int p2)]) hx hb dX0_shadeAt_5 hl (by decide) rfl (fun ls hl => ?_)
  have L7 : ∀ (n7 i7 : Nat) (x3_7 : Int32) (H : Heap) (locs : List Loc) (ls : Array Slot), w1 ≤ i7 ∧ i7 + n7 = 8 → lpX0_shadeAt_7 p2 f h n7 i7 x3_7 = spX0_shadeAt f h w1 p2 → va_P (dC, dI) vwCl (gv_W cI h0 h1 h2 f h) H → va_D A (gv_W cI h0 h1 h2 f h) → va_S A s.heap H locs → lv_has ls 5 [(0, .ref h0), (1, .int p1), (2, .int p2), (3, .int x3_7), (4, .int (nI i7))] → W p l e (gv_R 1 21) s m args below meth c H locs 0 0 Q (F0 m 7 ls []) := by
    intro n7
    induction n7 with
    | zero =>
      intro i7 x3_7 H locs ls hi7 he hP hD hS hl
      have he := (lpX0_shadeAt_7_0 _ _ _ _ _).symm.trans he
      refine lv_iload hx hb dX0_shadeAt_7 (lv_at hl 4 rfl) ?_
      refine lv_bipush (v := 8) hx hb dX0_shadeAt_9 (by decide) ?_
      refine lv_icmp_ge (tgt := 33) hx hb dX0_shadeAt_11 (by decide) (fun _ => ?_) (fun c => absurd c (gv_ge (N := 8) rfl (rfl : (8 : Int32) = nI 8) (by omega) (by omega)))
      refine lv_iload_n hx hb dX0_shadeAt_33 rfl (lv_at hl 3 rfl) ?_
      exact kr x3_7 () _ _ _ _ he hP hS dX0_shadeAt_34
    | succ n7 ih7 =>
      intro i7 x3_7 H locs ls hi7 he hP hD hS hl
      have he := (lpX0_shadeAt_7_s _ _ _ _ _ _).symm.trans he
      refine lv_iload hx hb dX0_shadeAt_7 (lv_at hl 4 rfl) ?_
      refine lv_bipush (v := 8) hx hb dX0_shadeAt_9 (by decide) ?_
      refine lv_icmp_ge (tgt := 33) hx hb dX0_shadeAt_11 (by decide) (fun c => absurd c (gv_lt (N := 8) rfl (rfl : (8 : Int32) = nI 8) (by omega) (by omega))) (fun _ => ?_)
      refine lv_iload_n hx hb dX0_shadeAt_14 rfl (lv_at hl 3 rfl) ?_
      refine lv_aload_n hx hb dX0_shadeAt_15 rfl (lv_at hl 0 rfl) ?_
      refine lv_iload hx hb dX0_shadeAt_16 (lv_at hl 4 rfl) ?_
      have hPc : va_P (dC, dI) vwCl (gv_W cI h0 h1 h2 f h) H := gv_sub [0, 1, 2] hP rfl
      have hDc : va_D (gv_in (gv_W cI h0 h1 h2 f h)) (gv_W cI h0 h1 h2 f h) := gv_D hD [0, 1, 2] (by decide) rfl
      refine gv_ki (wf := (fun (_ : Unit) => (gv_W cI h0 h1 h2 f h))) (wc := (gv_W cI h0 h1 h2 f h)) [0, 1, 2] (fun _ => rfl) hP hD hS rfl rfl (va_runV (As := [.int (nI i7)]) (rest := [.int x3_7]) ⟨hx, hb, hml, hown, hts⟩ (kX0_leafRow l dC dI cI cL h0 h1 h2 f h (nI i7) (gv_in (gv_W cI h0 h1 h2 f h))) (cwV (rm := gv_R 0 0) 1 hts gX0_shadeAt_X0_leafRow rfl rfl rfl (by decide +kernel) ⟨Nat.le_of_ble_eq_true rfl, Nat.le_of_ble_eq_true rfl⟩) (gv_preV (ci := 0) hK hPc hDc hN rfl rfl) rfl rfl hl.1 rfl (lv_room (Nat.le_of_ble_eq_true rfl)) dX0_shadeAt_18 ⟨Nat.zero_le _, Nat.zero_le _⟩) (fun q18 u H locs hw hP hD hS => ?_)
      have he := gv_q hw he
      have hP : va_P (dC, dI) vwCl (gv_W cI h0 h1 h2 f h) H := hP
      have hD : va_D A (gv_W cI h0 h1 h2 f h) := hD
      refine lv_iload_n hx hb dX0_shadeAt_21 rfl (lv_at hl 2 rfl) ?_
      refine lv_ishr hx hb dX0_shadeAt_22 ?_
      refine lv_iconst (v := 1) hx hb dX0_shadeAt_23 (by decide) ?_
      refine lv_iand hx hb dX0_shadeAt_24 ?_
      refine lv_iadd hx hb dX0_shadeAt_25 ?_
      refine lv_istore_n (lv' := [(3, .int (x3_7 + ((q18 >>> (p2 &&& 31)) &&& 1))), (0, .ref h0), (1, .int p1), (2, .int p2), (4, .int (nI i7))]) hx hb dX0_shadeAt_26 rfl hl (by decide) rfl (fun ls hl => ?_)
      refine lv_iinc (v := (nI (i7 + 1))) (lv' := [(4, .int (nI (i7 + 1))), (3, .int (x3_7 + ((q18 >>> (p2 &&& 31)) &&& 1))), (0, .ref h0), (1, .int p1), (2, .int p2)]) hx hb dX0_shadeAt_27 hl (k := 4) rfl (nI_1 i7) (by decide) rfl (fun ls hl => ?_)
      refine lv_goto (tgt := 7) hx hb dX0_shadeAt_30 (by decide) ?_
      exact ih7 (i7 + 1) (x3_7 + ((q18 >>> (p2 &&& 31)) &&& 1)) _ _ _ (by omega) he hP hD hS (lv_sub hl [2, 3, 4, 1, 0] rfl)
  rw [hw1] at hl
  exact L7 (8 - w1) w1 0 _ _ _ (by omega) he hP hD hS (lv_sub hl [2, 3, 4, 1, 0] rfl)
def spX0_countInColumn (f : Nat → Int32) (h : Nat → Int32) (p1 : Int32) : Int32 := gv_b (spX0_shadeAt f h 0 p1) (fun q3 => q3)
theorem spX0_countInColumn_e (f : Nat → Int32) (h : Nat → Int32) (p1 : Int32) : spX0_countInColumn f h p1 = gv_b (spX0_shadeAt f h 0 p1) (fun q3 => q3) := rfl
set_option maxHeartbeats 4000000 in
set_option maxRecDepth 100000 in
theorem kX0_countInColumn (l : Launch) (dC : Nat → ClassId) (dI : Nat → Nat → Nat) (cI cL : ClassId) (h0 : Nat) (h1 : Nat) (h2 : Nat) (f : Nat → Int32) (h : Nat → Int32) (p1 : Int32) : gv_Mi l yX0_countInColumn wsX0_countInColumn 2 45 (dC, dI) [(cI, .int), (cL, .long)] [.ref h0, .int p1] (gv_W cI h0 h1 h2 f h) (fun (r : Int32) (_ : Unit) => r = spX0_countInColumn f h p1) (fun (_ : Unit) => (gv_W cI h0 h1 h2 f h)) := by
  refine gv_ofi (cc := cX0_countInColumn) (maxL := 2) (own := RX0) (by decide) rfl (Nat.le_of_ble_eq_true rfl) rfl ?_
  intro A p e s m args below meth c Q ls H locs hx hb hml hts hown hP hK hD hN hS hl kr
  have inX0 : ∀ w ∈ wsX00, w ∈ wsX0_countInColumn := (fun _ h => List.mem_cons_of_mem _ (List.mem_append_right _ h))
  have hl : lv_has ls 2 [(0, .ref h0), (1, .int p1)] := hl
  have he := (spX0_countInColumn_e f h p1).symm
  refine lv_aload_n hx hb dX0_countInColumn_0 rfl (lv_at hl 0 rfl) ?_
  refine lv_iconst (v := (-1)) hx hb dX0_countInColumn_1 (by decide) ?_
  refine lv_iload_n hx hb dX0_countInColumn_2 rfl (lv_at hl 1 rfl) ?_
  have hPc : va_P (dC, dI) vwCl (gv_W cI h0 h1 h2 f h) H := gv_sub [0, 1, 2] hP rfl
  have hDc : va_D (gv_in (gv_W cI h0 h1 h2 f h)) (gv_W cI h0 h1 h2 f h) := gv_D hD [0, 1, 2] (by decide) rfl
  refine gv_ki (wf := (fun (_ : Unit) => (gv_W cI h0 h1 h2 f h))) (wc := (gv_W cI h0 h1 h2 f h)) [0, 1, 2] (fun _ => rfl) hP hD hS rfl rfl (va_runV (As := [.int (-1), .int p1]) (rest := []) ⟨hx, hb, hml, hown, hts⟩ (kX0_shadeAt l dC dI cI cL h0 h1 h2 f h (-1) 0 (by decide) p1 (by omega) (gv_in (gv_W cI h0 h1 h2 f h))) (cwV (rm := gv_R 1 21) 2 hts gX0_countInColumn_X0_shadeAt rfl rfl rfl (by decide +kernel) ⟨Nat.le_of_ble_eq_true rfl, Nat.le_of_ble_eq_true rfl⟩) (gv_preV (ci := 0) hK hPc hDc hN rfl rfl) rfl rfl hl.1 rfl (lv_room (Nat.le_of_ble_eq_true rfl)) dX0_countInColumn_3 ⟨Nat.zero_le _, Nat.zero_le _⟩) (fun q3 u H locs hw hP hD hS => ?_)
  have he := gv_q hw he
  have hP : va_P (dC, dI) vwCl (gv_W cI h0 h1 h2 f h) H := hP
  have hD : va_D A (gv_W cI h0 h1 h2 f h) := hD
  exact kr q3 () _ _ _ _ he hP hS dX0_countInColumn_6
def lpX0_countLeaves_4 (f_c : Nat → Int32) (h_c : Nat → Int32) : Nat → Nat → (Int32) → Int32
  | 0, _, x1_4 => x1_4
  | n4 + 1, i4, x1_4 => gv_b (spJ6_bitCount_0f7a4 (f_c i4)) (fun q17 => lpX0_countLeaves_4 f_c h_c n4 (i4 + 1) (x1_4 + q17))
theorem lpX0_countLeaves_4_0 (f_c : Nat → Int32) (h_c : Nat → Int32) (i4 : Nat) (x1_4 : Int32) : lpX0_countLeaves_4 f_c h_c 0 i4 x1_4 = x1_4 := rfl
theorem lpX0_countLeaves_4_s (f_c : Nat → Int32) (h_c : Nat → Int32) (n4 : Nat) (i4 : Nat) (x1_4 : Int32) : lpX0_countLeaves_4 f_c h_c (n4 + 1) i4 x1_4 = gv_b (spJ6_bitCount_0f7a4 (f_c i4)) (fun q17 => lpX0_countLeaves_4 f_c h_c n4 (i4 + 1) (x1_4 + q17)) := rfl
def spX0_countLeaves (f : Nat → Int32) (h : Nat → Int32) : Int32 := lpX0_countLeaves_4 f h 8 0 0
theorem spX0_countLeaves_e (f : Nat → Int32) (h : Nat → Int32) : spX0_countLeaves f h = lpX0_countLeaves_4 f h 8 0 0 := rfl
set_option maxHeartbeats 4000000 in
set_option maxRecDepth 100000 in
theorem kX0_countLeaves (l : Launch) (dC : Nat → ClassId) (dI : Nat → Nat → Nat) (cI cL : ClassId) (h0 : Nat) (h1 : Nat) (h2 : Nat) (f : Nat → Int32) (h : Nat → Int32) : gv_Mi l yX0_countLeaves wsX0_countLeaves 1 20 (dC, dI) [(cI, .int), (cL, .long)] [.ref h0] (gv_W cI h0 h1 h2 f h) (fun (r : Int32) (_ : Unit) => r = spX0_countLeaves f h) (fun (_ : Unit) => (gv_W cI h0 h1 h2 f h)) := by
  refine gv_ofi (cc := cX0_countLeaves) (maxL := 3) (own := RX0) (by decide) rfl (Nat.le_of_ble_eq_true rfl) rfl ?_
  intro A p e s m args below meth c Q ls H locs hx hb hml hts hown hP hK hD hN hS hl kr
  have inX0 : ∀ w ∈ wsX00, w ∈ wsX0_countLeaves := (fun _ h => List.mem_cons_of_mem _ (List.mem_append_right _ h))
  have hl : lv_has ls 3 [(0, .ref h0)] := hl
  have he := (spX0_countLeaves_e f h).symm
  refine lv_iconst (v := 0) hx hb dX0_countLeaves_0 (by decide) ?_
  refine lv_istore_n (lv' := [(1, .int 0), (0, .ref h0)]) hx hb dX0_countLeaves_1 rfl hl (by decide) rfl (fun ls hl => ?_)
  refine lv_iconst (v := 0) hx hb dX0_countLeaves_2 (by decide) ?_
  refine lv_istore_n (lv' := [(2, .int 0), (1, .int 0), (0, .ref h0)]) hx hb dX0_countLeaves_3 rfl hl (by decide) rfl (fun ls hl => ?_)
  have L4 : ∀ (n4 i4 : Nat) (x1_4 : Int32) (H : Heap) (locs : List Loc) (ls : Array Slot), i4 + n4 = 8 → lpX0_countLeaves_4 f h n4 i4 x1_4 = spX0_countLeaves f h → va_P (dC, dI) vwCl (gv_W cI h0 h1 h2 f h) H → va_D A (gv_W cI h0 h1 h2 f h) → va_S A s.heap H locs → lv_has ls 3 [(0, .ref h0), (1, .int x1_4), (2, .int (nI i4))] → W p l e (gv_R 1 20) s m args below meth c H locs 0 0 Q (F0 m 4 ls []) := by
    intro n4
    induction n4 with
    | zero =>
      intro i4 x1_4 H locs ls hi4 he hP hD hS hl
      have he := (lpX0_countLeaves_4_0 _ _ _ _).symm.trans he
      refine lv_iload_n hx hb dX0_countLeaves_4 rfl (lv_at hl 2 rfl) ?_
      refine lv_bipush (v := 8) hx hb dX0_countLeaves_5 (by decide) ?_
      refine lv_icmp_ge (tgt := 28) hx hb dX0_countLeaves_7 (by decide) (fun _ => ?_) (fun c => absurd c (gv_ge (N := 8) rfl (rfl : (8 : Int32) = nI 8) (by omega) (by omega)))
      refine lv_iload_n hx hb dX0_countLeaves_28 rfl (lv_at hl 1 rfl) ?_
      exact kr x1_4 () _ _ _ _ he hP hS dX0_countLeaves_29
    | succ n4 ih4 =>
      intro i4 x1_4 H locs ls hi4 he hP hD hS hl
      have he := (lpX0_countLeaves_4_s _ _ _ _ _).symm.trans he
      refine lv_iload_n hx hb dX0_countLeaves_4 rfl (lv_at hl 2 rfl) ?_
      refine lv_bipush (v := 8) hx hb dX0_countLeaves_5 (by decide) ?_
      refine lv_icmp_ge (tgt := 28) hx hb dX0_countLeaves_7 (by decide) (fun c => absurd c (gv_lt (N := 8) rfl (rfl : (8 : Int32) = nI 8) (by omega) (by omega))) (fun _ => ?_)
      refine lv_iload_n hx hb dX0_countLeaves_10 rfl (lv_at hl 1 rfl) ?_
      refine lv_aload_n hx hb dX0_countLeaves_11 rfl (lv_at hl 0 rfl) ?_
      refine va_get (D := (dC, dI)) (ci := 0) (v := .ref h1) (C := RX0) (T := TX0) (N := 2) hx hb hts inX0 hown hK hP 0 rfl rfl 0 (by decide) (hts (.fieldLink RX0 9 "VineWall$Wall" "leafRows" "[I") (List.mem_of_getElem? (i := 1) rfl)) (fun _ h9 => h9) rfl dX0_countLeaves_12 ?_
      refine lv_iload_n hx hb dX0_countLeaves_15 rfl (lv_at hl 2 rfl) ?_
      refine gv_iald (cA := cI) (f := f) (k := i4) hx hb hK hP 1 0 rfl rfl rfl (by omega) (by decide) dX0_countLeaves_16 ?_
      have hPc : va_P (dC, dI) vwCl ([] : va_W) H := gv_P0
      have hDc : va_D (gv_in ([] : va_W)) ([] : va_W) := gv_D0
      refine gv_ki (wf := (fun (_ : Unit) => ([] : va_W))) (wc := ([] : va_W)) [] (fun _ => rfl) hP hD hS rfl rfl (va_runS (As := [.int (f i4)]) (rest := [.int x1_4]) ⟨hx, hb, hml, hown, hts⟩ (kJ6_bitCount_0f7a4 l dC dI cI cL (f i4) (gv_in ([] : va_W))) (va_cwS (rm := gv_R 0 0) 1 hts gX0_countLeaves_J6_bitCount_0f7a4 rfl rfl rfl (by decide +kernel) ⟨Nat.le_of_ble_eq_true rfl, Nat.le_of_ble_eq_true rfl⟩) (gv_preS hK hPc hDc hN) rfl rfl hl.1 rfl (lv_room (Nat.le_of_ble_eq_true rfl)) dX0_countLeaves_17 ⟨Nat.zero_le _, Nat.zero_le _⟩) (fun q17 u H locs hw hP hD hS => ?_)
      have he := gv_q hw he
      have hP : va_P (dC, dI) vwCl (gv_W cI h0 h1 h2 f h) H := hP
      have hD : va_D A (gv_W cI h0 h1 h2 f h) := hD
      refine lv_iadd hx hb dX0_countLeaves_20 ?_
      refine lv_istore_n (lv' := [(1, .int (x1_4 + q17)), (0, .ref h0), (2, .int (nI i4))]) hx hb dX0_countLeaves_21 rfl hl (by decide) rfl (fun ls hl => ?_)
      refine lv_iinc (v := (nI (i4 + 1))) (lv' := [(2, .int (nI (i4 + 1))), (1, .int (x1_4 + q17)), (0, .ref h0)]) hx hb dX0_countLeaves_22 hl (k := 2) rfl (nI_1 i4) (by decide) rfl (fun ls hl => ?_)
      refine lv_goto (tgt := 4) hx hb dX0_countLeaves_25 (by decide) ?_
      exact ih4 (i4 + 1) (x1_4 + q17) _ _ _ (by omega) he hP hD hS (lv_sub hl [2, 1, 0] rfl)
  exact L4 8 0 0 _ _ _ (by omega) he hP hD hS (lv_sub hl [2, 1, 0] rfl)
def lpX0_countLit_4 (f_c : Nat → Int32) (h_c : Nat → Int32) : Nat → Nat → (Int32) → Int32
  | 0, _, x1_4 => gv_b (spJ6_bitCount_0f7a4 x1_4) (fun q26 => q26)
  | n4 + 1, i4, x1_4 => lpX0_countLit_4 f_c h_c n4 (i4 + 1) (x1_4 ||| (f_c i4))
theorem lpX0_countLit_4_0 (f_c : Nat → Int32) (h_c : Nat → Int32) (i4 : Nat) (x1_4 : Int32) : lpX0_countLit_4 f_c h_c 0 i4 x1_4 = gv_b (spJ6_bitCount_0f7a4 x1_4) (fun q26 => q26) := rfl
theorem lpX0_countLit_4_s (f_c : Nat → Int32) (h_c : Nat → Int32) (n4 : Nat) (i4 : Nat) (x1_4 : Int32) : lpX0_countLit_4 f_c h_c (n4 + 1) i4 x1_4 = lpX0_countLit_4 f_c h_c n4 (i4 + 1) (x1_4 ||| (f_c i4)) := rfl
def spX0_countLit (f : Nat → Int32) (h : Nat → Int32) : Int32 := lpX0_countLit_4 f h 8 0 0
theorem spX0_countLit_e (f : Nat → Int32) (h : Nat → Int32) : spX0_countLit f h = lpX0_countLit_4 f h 8 0 0 := rfl
set_option maxHeartbeats 4000000 in
set_option maxRecDepth 100000 in
theorem kX0_countLit (l : Launch) (dC : Nat → ClassId) (dI : Nat → Nat → Nat) (cI cL : ClassId) (h0 : Nat) (h1 : Nat) (h2 : Nat) (f : Nat → Int32) (h : Nat → Int32) : gv_Mi l yX0_countLit wsX0_countLit 1 20 (dC, dI) [(cI, .int), (cL, .long)] [.ref h0] (gv_W cI h0 h1 h2 f h) (fun (r : Int32) (_ : Unit) => r = spX0_countLit f h) (fun (_ : Unit) => (gv_W cI h0 h1 h2 f h)) := by
  refine gv_ofi (cc := cX0_countLit) (maxL := 3) (own := RX0) (by decide) rfl (Nat.le_of_ble_eq_true rfl) rfl ?_
  intro A p e s m args below meth c Q ls H locs hx hb hml hts hown hP hK hD hN hS hl kr
  have inX0 : ∀ w ∈ wsX00, w ∈ wsX0_countLit := (fun _ h => List.mem_cons_of_mem _ (List.mem_append_right _ h))
  have hl : lv_has ls 3 [(0, .ref h0)] := hl
  have he := (spX0_countLit_e f h).symm
  refine lv_iconst (v := 0) hx hb dX0_countLit_0 (by decide) ?_
  refine lv_istore_n (lv' := [(1, .int 0), (0, .ref h0)]) hx hb dX0_countLit_1 rfl hl (by decide) rfl (fun ls hl => ?_)
  refine lv_iconst (v := 0) hx hb dX0_countLit_2 (by decide) ?_
  refine lv_istore_n (lv' := [(2, .int 0), (1, .int 0), (0, .ref h0)]) hx hb dX0_countLit_3 rfl hl (by decide) rfl (fun ls hl => ?_)
  have L4 : ∀ (n4 i4 : Nat) (x1_4 : Int32) (H : Heap) (locs : List Loc) (ls : Array Slot), i4 + n4 = 8 → lpX0_countLit_4 f h n4 i4 x1_4 = spX0_countLit f h → va_P (dC, dI) vwCl (gv_W cI h0 h1 h2 f h) H → va_D A (gv_W cI h0 h1 h2 f h) → va_S A s.heap H locs → lv_has ls 3 [(0, .ref h0), (1, .int x1_4), (2, .int (nI i4))] → W p l e (gv_R 1 20) s m args below meth c H locs 0 0 Q (F0 m 4 ls []) := by
    intro n4
    induction n4 with
    | zero =>
      intro i4 x1_4 H locs ls hi4 he hP hD hS hl
      have he := (lpX0_countLit_4_0 _ _ _ _).symm.trans he
      refine lv_iload_n hx hb dX0_countLit_4 rfl (lv_at hl 2 rfl) ?_
      refine lv_bipush (v := 8) hx hb dX0_countLit_5 (by decide) ?_
      refine lv_icmp_ge (tgt := 25) hx hb dX0_countLit_7 (by decide) (fun _ => ?_) (fun c => absurd c (gv_ge (N := 8) rfl (rfl : (8 : Int32) = nI 8) (by omega) (by omega)))
      refine lv_iload_n hx hb dX0_countLit_25 rfl (lv_at hl 1 rfl) ?_
      have hPc : va_P (dC, dI) vwCl ([] : va_W) H := gv_P0
      have hDc : va_D (gv_in ([] : va_W)) ([] : va_W) := gv_D0
      refine gv_ki (wf := (fun (_ : Unit) => ([] : va_W))) (wc := ([] : va_W)) [] (fun _ => rfl) hP hD hS rfl rfl (va_runS (As := [.int x1_4]) (rest := []) ⟨hx, hb, hml, hown, hts⟩ (kJ6_bitCount_0f7a4 l dC dI cI cL x1_4 (gv_in ([] : va_W))) (va_cwS (rm := gv_R 0 0) 1 hts gX0_countLit_J6_bitCount_0f7a4 rfl rfl rfl (by decide +kernel) ⟨Nat.le_of_ble_eq_true rfl, Nat.le_of_ble_eq_true rfl⟩) (gv_preS hK hPc hDc hN) rfl rfl hl.1 rfl (lv_room (Nat.le_of_ble_eq_true rfl)) dX0_countLit_26 ⟨Nat.zero_le _, Nat.zero_le _⟩) (fun q26 u H locs hw hP hD hS => ?_)
      have he := gv_q hw he
      have hP : va_P (dC, dI) vwCl (gv_W cI h0 h1 h2 f h) H := hP
      have hD : va_D A (gv_W cI h0 h1 h2 f h) := hD
      exact kr q26 () _ _ _ _ he hP hS dX0_countLit_29
    | succ n4 ih4 =>
      intro i4 x1_4 H locs ls hi4 he hP hD hS hl
      have he := (lpX0_countLit_4_s _ _ _ _ _).symm.trans he
      refine lv_iload_n hx hb dX0_countLit_4 rfl (lv_at hl 2 rfl) ?_
      refine lv_bipush (v := 8) hx hb dX0_countLit_5 (by decide) ?_
      refine lv_icmp_ge (tgt := 25) hx hb dX0_countLit_7 (by decide) (fun c => absurd c (gv_lt (N := 8) rfl (rfl : (8 : Int32) = nI 8) (by omega) (by omega))) (fun _ => ?_)
      refine lv_iload_n hx hb dX0_countLit_10 rfl (lv_at hl 1 rfl) ?_
      refine lv_aload_n hx hb dX0_countLit_11 rfl (lv_at hl 0 rfl) ?_
      refine va_get (D := (dC, dI)) (ci := 0) (v := .ref h1) (C := RX0) (T := TX0) (N := 2) hx hb hts inX0 hown hK hP 0 rfl rfl 0 (by decide) (hts (.fieldLink RX0 9 "VineWall$Wall" "leafRows" "[I") (List.mem_of_getElem? (i := 1) rfl)) (fun _ h9 => h9) rfl dX0_countLit_12 ?_
      refine lv_iload_n hx hb dX0_countLit_15 rfl (lv_at hl 2 rfl) ?_
      refine gv_iald (cA := cI) (f := f) (k := i4) hx hb hK hP 1 0 rfl rfl rfl (by omega) (by decide) dX0_countLit_16 ?_
      refine lv_ior hx hb dX0_countLit_17 ?_
      refine lv_istore_n (lv' := [(1, .int (x1_4 ||| (f i4))), (0, .ref h0), (2, .int (nI i4))]) hx hb dX0_countLit_18 rfl hl (by decide) rfl (fun ls hl => ?_)
      refine lv_iinc (v := (nI (i4 + 1))) (lv' := [(2, .int (nI (i4 + 1))), (1, .int (x1_4 ||| (f i4))), (0, .ref h0)]) hx hb dX0_countLit_19 hl (k := 2) rfl (nI_1 i4) (by decide) rfl (fun ls hl => ?_)
      refine lv_goto (tgt := 4) hx hb dX0_countLit_22 (by decide) ?_
      exact ih4 (i4 + 1) (x1_4 ||| (f i4)) _ _ _ (by omega) he hP hD hS (lv_sub hl [2, 1, 0] rfl)
  exact L4 8 0 0 _ _ _ (by omega) he hP hD hS (lv_sub hl [2, 1, 0] rfl)
def lpX0_leavesOfHalf_5 (n1_5 : Nat) (f_c : Nat → Int32) (h_c : Nat → Int32) : Nat → Nat → (Int64) → Int64
  | 0, _, x2_5 => x2_5
  | n5 + 1, i5, x2_5 => gv_b (spX0_leafRow f_c h_c (nI i5)) (fun q20 => lpX0_leavesOfHalf_5 n1_5 f_c h_c n5 (i5 + 1) ((x2_5 <<< ((12 : Int32).toInt64 &&& 63)) ||| q20.toInt64))
theorem lpX0_leavesOfHalf_5_0 (n1_5 : Nat) (f_c : Nat → Int32) (h_c : Nat → Int32) (i5 : Nat) (x2_5 : Int64) : lpX0_leavesOfHalf_5 n1_5 f_c h_c 0 i5 x2_5 = x2_5 := rfl
theorem lpX0_leavesOfHalf_5_s (n1_5 : Nat) (f_c : Nat → Int32) (h_c : Nat → Int32) (n5 : Nat) (i5 : Nat) (x2_5 : Int64) : lpX0_leavesOfHalf_5 n1_5 f_c h_c (n5 + 1) i5 x2_5 = gv_b (spX0_leafRow f_c h_c (nI i5)) (fun q20 => lpX0_leavesOfHalf_5 n1_5 f_c h_c n5 (i5 + 1) ((x2_5 <<< ((12 : Int32).toInt64 &&& 63)) ||| q20.toInt64)) := rfl
def spX0_leavesOfHalf (f : Nat → Int32) (h : Nat → Int32) (w1 : Nat) : Int64 := lpX0_leavesOfHalf_5 w1 f h 4 w1 0
theorem spX0_leavesOfHalf_e (f : Nat → Int32) (h : Nat → Int32) (w1 : Nat) : spX0_leavesOfHalf f h w1 = lpX0_leavesOfHalf_5 w1 f h 4 w1 0 := rfl
set_option maxHeartbeats 4000000 in
set_option maxRecDepth 100000 in
theorem kX0_leavesOfHalf (l : Launch) (dC : Nat → ClassId) (dI : Nat → Nat → Nat) (cI cL : ClassId) (h0 : Nat) (h1 : Nat) (h2 : Nat) (f : Nat → Int32) (h : Nat → Int32) (p1 : Int32) (w1 : Nat) (hw1 : p1 = nI w1) (hy0 : w1 ≤ 4) : gv_Ml l yX0_leavesOfHalf wsX0_leavesOfHalf 1 21 (dC, dI) [(cI, .int), (cL, .long)] [.ref h0, .int p1] (gv_W cI h0 h1 h2 f h) (fun (r : Int64) (_ : Unit) => r = spX0_leavesOfHalf f h w1) (fun (_ : Unit) => (gv_W cI h0 h1 h2 f h)) := by
  subst hw1
  refine gv_ofl (cc := cX0_leavesOfHalf) (maxL := 5) (own := RX0) (by decide) rfl (Nat.le_of_ble_eq_true rfl) rfl ?_
  intro A p e s m args below meth c Q ls H locs hx hb hml hts hown hP hK hD hN hS hl kr
  have inX0 : ∀ w ∈ wsX00, w ∈ wsX0_leavesOfHalf := (fun _ h => List.mem_cons_of_mem _ (List.mem_append_right _ h))
  have hl : lv_has ls 5 [(0, .ref h0), (1, .int (nI w1))] := hl
  have he := (spX0_leavesOfHalf_e f h w1).symm
  refine lv_lconst (v := 0) hx hb dX0_leavesOfHalf_0 (by decide) ?_
  refine lv_lstore_n (lv' := [(2, .long 0), (0, .ref h0), (1, .int (nI w1))]) hx hb dX0_leavesOfHalf_1 rfl hl (by decide) rfl (fun ls hl => ?_)
  refine lv_iload_n hx hb dX0_leavesOfHalf_2 rfl (lv_at hl 2 rfl) ?_
  refine lv_istore (lv' := [(4, .int (nI w1)), (2, .long 0), (0, .ref h0), (1, .int (nI w1))]) hx hb dX0_leavesOfHalf_3 hl (by decide) rfl (fun ls hl => ?_)
  have L5 : ∀ (n5 i5 : Nat) (x2_5 : Int64) (H : Heap) (locs : List Loc) (ls : Array Slot), w1 ≤ i5 ∧ i5 + n5 = (w1 + 4) → lpX0_leavesOfHalf_5 w1 f h n5 i5 x2_5 = spX0_leavesOfHalf f h w1 → va_P (dC, dI) vwCl (gv_W cI h0 h1 h2 f h) H → va_D A (gv_W cI h0 h1 h2 f h) → va_S A s.heap H locs → lv_has ls 5 [(0, .ref h0), (1, .int (nI w1)), (2, .long x2_5), (4, .int (nI i5))] → W p l e (gv_R 1 21) s m args below meth c H locs 0 0 Q (F0 m 5 ls []) := by
    intro n5
    induction n5 with
    | zero =>
      intro i5 x2_5 H locs ls hi5 he hP hD hS hl
      have he := (lpX0_leavesOfHalf_5_0 _ _ _ _ _).symm.trans he
      refine lv_iload hx hb dX0_leavesOfHalf_5 (lv_at hl 3 rfl) ?_
      refine lv_iload_n hx hb dX0_leavesOfHalf_7 rfl (lv_at hl 1 rfl) ?_
      refine lv_iconst (v := 4) hx hb dX0_leavesOfHalf_8 (by decide) ?_
      refine lv_iadd hx hb dX0_leavesOfHalf_9 ?_
      refine lv_icmp_ge (tgt := 32) hx hb dX0_leavesOfHalf_10 (by decide) (fun _ => ?_) (fun c => absurd c (gv_ge (N := (w1 + 4)) rfl (gn_add rfl (rfl : (4 : Int32) = nI 4)) (by omega) (by omega)))
      refine lv_lload_n hx hb dX0_leavesOfHalf_32 rfl (lv_at hl 2 rfl) ?_
      exact kr x2_5 () _ _ _ _ he hP hS dX0_leavesOfHalf_33
    | succ n5 ih5 =>
      intro i5 x2_5 H locs ls hi5 he hP hD hS hl
      have he := (lpX0_leavesOfHalf_5_s _ _ _ _ _ _).symm.trans he
      refine lv_iload hx hb dX0_leavesOfHalf_5 (lv_at hl 3 rfl) ?_
      refine lv_iload_n hx hb dX0_leavesOfHalf_7 rfl (lv_at hl 1 rfl) ?_
      refine lv_iconst (v := 4) hx hb dX0_leavesOfHalf_8 (by decide) ?_
      refine lv_iadd hx hb dX0_leavesOfHalf_9 ?_
      refine lv_icmp_ge (tgt := 32) hx hb dX0_leavesOfHalf_10 (by decide) (fun c => absurd c (gv_lt (N := (w1 + 4)) rfl (gn_add rfl (rfl : (4 : Int32) = nI 4)) (by omega) (by omega))) (fun _ => ?_)
      refine lv_lload_n hx hb dX0_leavesOfHalf_13 rfl (lv_at hl 2 rfl) ?_
      refine lv_bipush (v := 12) hx hb dX0_leavesOfHalf_14 (by decide) ?_
      refine lv_lshl (v := x2_5 <<< ((12 : Int32).toInt64 &&& 63)) hx hb dX0_leavesOfHalf_16 rfl ?_
      refine lv_aload_n hx hb dX0_leavesOfHalf_17 rfl (lv_at hl 0 rfl) ?_
      refine lv_iload hx hb dX0_leavesOfHalf_18 (lv_at hl 3 rfl) ?_
      have hPc : va_P (dC, dI) vwCl (gv_W cI h0 h1 h2 f h) H := gv_sub [0, 1, 2] hP rfl
      have hDc : va_D (gv_in (gv_W cI h0 h1 h2 f h)) (gv_W cI h0 h1 h2 f h) := gv_D hD [0, 1, 2] (by decide) rfl
      refine gv_ki (wf := (fun (_ : Unit) => (gv_W cI h0 h1 h2 f h))) (wc := (gv_W cI h0 h1 h2 f h)) [0, 1, 2] (fun _ => rfl) hP hD hS rfl rfl (va_runV (As := [.int (nI i5)]) (rest := [.long (x2_5 <<< ((12 : Int32).toInt64 &&& 63))]) ⟨hx, hb, hml, hown, hts⟩ (kX0_leafRow l dC dI cI cL h0 h1 h2 f h (nI i5) (gv_in (gv_W cI h0 h1 h2 f h))) (cwV (rm := gv_R 0 0) 1 hts gX0_leavesOfHalf_X0_leafRow rfl rfl rfl (by decide +kernel) ⟨Nat.le_of_ble_eq_true rfl, Nat.le_of_ble_eq_true rfl⟩) (gv_preV (ci := 0) hK hPc hDc hN rfl rfl) rfl rfl hl.1 rfl (lv_room (Nat.le_of_ble_eq_true rfl)) dX0_leavesOfHalf_20 ⟨Nat.zero_le _, Nat.zero_le _⟩) (fun q20 u H locs hw hP hD hS => ?_)
      have he := gv_q hw he
      have hP : va_P (dC, dI) vwCl (gv_W cI h0 h1 h2 f h) H := hP
      have hD : va_D A (gv_W cI h0 h1 h2 f h) := hD
      refine lv_i2l (v := q20.toInt64) hx hb dX0_leavesOfHalf_23 rfl ?_
      refine lv_lor hx hb dX0_leavesOfHalf_24 ?_
      refine lv_lstore_n (lv' := [(2, .long ((x2_5 <<< ((12 : Int32).toInt64 &&& 63)) ||| q20.toInt64)), (0, .ref h0), (1, .int (nI w1)), (4, .int (nI i5))]) hx hb dX0_leavesOfHalf_25 rfl hl (by decide) rfl (fun ls hl => ?_)
      refine lv_iinc (v := (nI (i5 + 1))) (lv' := [(4, .int (nI (i5 + 1))), (2, .long ((x2_5 <<< ((12 : Int32).toInt64 &&& 63)) ||| q20.toInt64)), (0, .ref h0), (1, .int (nI w1))]) hx hb dX0_leavesOfHalf_26 hl (k := 3) rfl (nI_1 i5) (by decide) rfl (fun ls hl => ?_)
      refine lv_goto (tgt := 5) hx hb dX0_leavesOfHalf_29 (by decide) ?_
      exact ih5 (i5 + 1) ((x2_5 <<< ((12 : Int32).toInt64 &&& 63)) ||| q20.toInt64) _ _ _ (by omega) he hP hD hS (lv_sub hl [2, 3, 1, 0] rfl)
  exact L5 4 w1 0 _ _ _ (by omega) he hP hD hS (lv_sub hl [2, 3, 1, 0] rfl)
