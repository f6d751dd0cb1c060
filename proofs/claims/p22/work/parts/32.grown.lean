theorem gr_z (x : Nat) : nI x + 0 = nI ((false).toNat + x) := by
  rw [show (0 : Int32) = nI 0 from nI_0.symm, nI_add, Nat.add_zero]
  exact congrArg nI (Nat.zero_add x).symm
theorem gr_l1 {x3 : Int32} {a y y' : Nat} (h : x3 = nI (a + (if y = 0 then 0 else 1))) (z : y = 0) (hs : y' = (true).toNat + y) : x3 + 1 = nI (a + (if y' = 0 then 0 else 1)) := by
  rw [h, if_pos z, hs, z, nI_1]
  rfl
theorem gr_l2 {x3 : Int32} {a y y' : Nat} (h : x3 = nI (a + (if y = 0 then 0 else 1))) (z : ¬ y = 0) (hs : y' = (true).toNat + y) : x3 + 0 = nI (a + (if y' = 0 then 0 else 1)) := by
  have e : ¬ y' = 0 := by rw [hs]; show ¬ 1 + y = 0; omega
  rw [h, if_neg z, if_neg e, show (0 : Int32) = nI 0 from nI_0.symm, nI_add]
theorem gr_l3 {x3 : Int32} {a y y' : Nat} (h : x3 = nI (a + (if y = 0 then 0 else 1))) (hs : y' = (false).toNat + y) : x3 + 0 = nI (a + (if y' = 0 then 0 else 1)) := by
  have e : y' = y := by rw [hs]; exact Nat.zero_add y
  rw [h, e, show (0 : Int32) = nI 0 from nI_0.symm, nI_add, Nat.add_zero]
theorem gr_lit {L : Nat → Nat → Bool} {i : Nat} {x3 : Int32} (h : x3 = nI (ma_ct (ma_any L 8) i + (if ma_sd L 0 i = 0 then 0 else 1))) : x3 = nI (ma_ct (ma_any L 8) (i + 1)) := by
  rw [h, ma_ct]
  have e := ma_any_sd L i
  cases hq : ma_any L 8 i with
  | false => rw [if_pos (by rw [e]; exact hq)]; rfl
  | true => rw [if_neg (by rw [e, hq]; decide)]; rfl
set_option maxHeartbeats 4000000 in
set_option maxRecDepth 100000 in
theorem kL_isGrownRight (l : Launch) (dC : Nat → ClassId) (dI : Nat → Nat → Nat) (cI cL : ClassId) (ad : Nat → Nat) (b0 : Nat) (f0 : Nat → Int32) (c0 : Nat → Int32) (f1 : Nat → Int32) (c1 : Nat → Int32) (f2 : Nat → Int32) (c2 : Nat → Int32) (lo : Nat → Int64) (up : Nat → Int64) (be : Nat → Int32) (si : Int32) (pl : Int32) (cu : Int32) (ge : Int32) (fa : Int32) (bb : Nat → Int32) {L : Nat → Nat → Bool} {B : Nat → Nat} (hf : mF f0 L) (hc : mF c0 ma_C0) (hB : mB bb B) (hle : ∀ k, k < 12 → ma_sd L 0 k ≤ B k) (hcu : cu = 0) : gv_Mi l yL_isGrownRight wsL_isGrownRight 4 92 (dC, dI) [(cI, .int), (cL, .long)] [.ref (ad 0), .ref b0] (gl_VB cI cL ad b0 f0 c0 f1 c1 f2 c2 lo up be si pl cu ge fa bb) (fun (r : Int32) (_ : Unit) => r = 1) (fun (_ : Unit) => (gl_VB cI cL ad b0 f0 c0 f1 c1 f2 c2 lo up be si pl cu ge fa bb)) := by
  refine gv_ofz (cc := cL_isGrownRight) (maxL := 9) (own := RL) (ty := .boolean) (by decide) rfl (Nat.le_of_ble_eq_true rfl) rfl ?_
  intro A p e s m args below meth c Q ls H locs hx hb hml hts hown hP hK hD hN hS hl kr
  have hl : lv_has ls 9 [(0, .ref (ad 0)), (1, .ref b0)] := hl
  refine lv_iconst (v := 0) hx hb dL_isGrownRight_0 (by decide) ?_
  refine lv_istore_n (lv' := [(2, .int 0), (0, .ref (ad 0)), (1, .ref b0)]) hx hb dL_isGrownRight_1 rfl hl (by decide) rfl (fun ls hl => ?_)
  refine lv_iconst (v := 0) hx hb dL_isGrownRight_2 (by decide) ?_
  refine lv_istore_n (lv' := [(3, .int 0), (2, .int 0), (0, .ref (ad 0)), (1, .ref b0)]) hx hb dL_isGrownRight_3 rfl hl (by decide) rfl (fun ls hl => ?_)
  refine lv_iconst (v := 1) hx hb dL_isGrownRight_4 (by decide) ?_
  refine lv_istore (lv' := [(4, .int 1), (3, .int 0), (2, .int 0), (0, .ref (ad 0)), (1, .ref b0)]) hx hb dL_isGrownRight_5 hl (by decide) rfl (fun ls hl => ?_)
  refine lv_iconst (v := 0) hx hb dL_isGrownRight_7 (by decide) ?_
  refine lv_istore (lv' := [(5, .int 0), (4, .int 1), (3, .int 0), (2, .int 0), (0, .ref (ad 0)), (1, .ref b0)]) hx hb dL_isGrownRight_8 hl (by decide) rfl (fun ls hl => ?_)
  have L10 : ∀ (n i : Nat) (x2 x3 : Int32) (H : Heap) (locs : List Loc) (ls : Array Slot), i + n = 12 → x2 = nI (ma_all L i) → x3 = nI (ma_ct (ma_any L 8) i) → va_P (dC, dI) vwCl (gl_VB cI cL ad b0 f0 c0 f1 c1 f2 c2 lo up be si pl cu ge fa bb) H → va_D A (gl_VB cI cL ad b0 f0 c0 f1 c1 f2 c2 lo up be si pl cu ge fa bb) → va_S A s.heap H locs → lv_has ls 9 [(0, .ref (ad 0)), (1, .ref b0), (2, .int x2), (3, .int x3), (4, .int 1), (5, .int (nI i))] → W p l e (gv_R 4 92) s m args below meth c H locs 0 0 Q (F0 m 10 ls []) := by
    intro n
    induction n with
    | zero =>
      intro i x2 x3 H locs ls hi h2 h3 hP hD hS hl
      obtain rfl : i = 12 := by omega
      refine lv_iload hx hb dL_isGrownRight_10 (lv_at hl 5 rfl) ?_
      refine lv_bipush (v := 12) hx hb dL_isGrownRight_12 (by decide) ?_
      refine lv_icmp_ge (tgt := 188) hx hb dL_isGrownRight_14 (by decide) (fun _ => ?_) (fun c => absurd (show (12 : Int32) ≤ nI 12 by decide) c)
      refine lv_iload hx hb dL_isGrownRight_188 (lv_at hl 4 rfl) ?_
      refine lv_if_eq (tgt := 230) hx hb dL_isGrownRight_190 (by decide) (fun c => absurd c (by decide)) (fun _ => ?_)
      refine lv_aload_n hx hb dL_isGrownRight_193 rfl (lv_at hl 0 rfl) ?_
      have hPc : va_P (dC, dI) vwCl (gv_V cI cL ad f0 c0 f1 c1 f2 c2 lo up be si pl cu ge fa) H := gv_sub [0, 1, 2, 3, 4, 5, 6, 7, 8, 9, 10, 11, 12] hP gs_VB1
      have hDc : va_D (gv_in (gv_V cI cL ad f0 c0 f1 c1 f2 c2 lo up be si pl cu ge fa)) (gv_V cI cL ad f0 c0 f1 c1 f2 c2 lo up be si pl cu ge fa) := gv_D hD [0, 1, 2, 3, 4, 5, 6, 7, 8, 9, 10, 11, 12] (by decide) gs_VB1
      refine gv_ki (wf := (fun (_ : Unit) => (gv_V cI cL ad f0 c0 f1 c1 f2 c2 lo up be si pl cu ge fa))) (wc := (gv_V cI cL ad f0 c0 f1 c1 f2 c2 lo up be si pl cu ge fa)) [0, 1, 2, 3, 4, 5, 6, 7, 8, 9, 10, 11, 12] (fun _ => rfl) hP hD hS rfl gs_VB1 (va_runV (As := []) (rest := []) ⟨hx, hb, hml, hown, hts⟩ (kX1_leaves l dC dI cI cL ad f0 c0 f1 c1 f2 c2 lo up be si pl cu ge fa (gv_in (gv_V cI cL ad f0 c0 f1 c1 f2 c2 lo up be si pl cu ge fa))) (cwV (rm := gv_R 2 42) 0 hts gL_isGrownRight_X1_leaves rfl rfl rfl (by decide +kernel) ⟨Nat.le_of_ble_eq_true rfl, Nat.le_of_ble_eq_true rfl⟩) (gv_preV (ci := 1) hK hPc hDc hN rfl rfl) rfl rfl hl.1 rfl (lv_room (Nat.le_of_ble_eq_true rfl)) dL_isGrownRight_194 ⟨Nat.zero_le _, Nat.zero_le _⟩) (fun q194 u H locs hw hP hD hS => ?_)
      have e194 := hw
      have hP : va_P (dC, dI) vwCl (gl_VB cI cL ad b0 f0 c0 f1 c1 f2 c2 lo up be si pl cu ge fa bb) H := gp_VB1 hP
      have hD : va_D A (gl_VB cI cL ad b0 f0 c0 f1 c1 f2 c2 lo up be si pl cu ge fa bb) := gq_VB1 hD
      refine lv_iload_n hx hb dL_isGrownRight_197 rfl (lv_at hl 2 rfl) ?_
      refine lv_icmp_ne (tgt := 230) hx hb dL_isGrownRight_198 (by decide) (fun c => absurd (e194.trans ((sv_leaves hf).trans h2.symm)) c) (fun _ => ?_)
      refine lv_aload_n hx hb dL_isGrownRight_201 rfl (lv_at hl 0 rfl) ?_
      have hPc : va_P (dC, dI) vwCl (gv_V cI cL ad f0 c0 f1 c1 f2 c2 lo up be si pl cu ge fa) H := gv_sub [0, 1, 2, 3, 4, 5, 6, 7, 8, 9, 10, 11, 12] hP gs_VB1
      have hDc : va_D (gv_in (gv_V cI cL ad f0 c0 f1 c1 f2 c2 lo up be si pl cu ge fa)) (gv_V cI cL ad f0 c0 f1 c1 f2 c2 lo up be si pl cu ge fa) := gv_D hD [0, 1, 2, 3, 4, 5, 6, 7, 8, 9, 10, 11, 12] (by decide) gs_VB1
      refine gv_ki (wf := (fun (_ : Unit) => (gv_V cI cL ad f0 c0 f1 c1 f2 c2 lo up be si pl cu ge fa))) (wc := (gv_V cI cL ad f0 c0 f1 c1 f2 c2 lo up be si pl cu ge fa)) [0, 1, 2, 3, 4, 5, 6, 7, 8, 9, 10, 11, 12] (fun _ => rfl) hP hD hS rfl gs_VB1 (va_runV (As := []) (rest := []) ⟨hx, hb, hml, hown, hts⟩ (kX1_lit l dC dI cI cL ad f0 c0 f1 c1 f2 c2 lo up be si pl cu ge fa (gv_in (gv_V cI cL ad f0 c0 f1 c1 f2 c2 lo up be si pl cu ge fa))) (cwV (rm := gv_R 2 42) 0 hts gL_isGrownRight_X1_lit rfl rfl rfl (by decide +kernel) ⟨Nat.le_of_ble_eq_true rfl, Nat.le_of_ble_eq_true rfl⟩) (gv_preV (ci := 1) hK hPc hDc hN rfl rfl) rfl rfl hl.1 rfl (lv_room (Nat.le_of_ble_eq_true rfl)) dL_isGrownRight_202 ⟨Nat.zero_le _, Nat.zero_le _⟩) (fun q202 u H locs hw hP hD hS => ?_)
      have e202 := hw
      have hP : va_P (dC, dI) vwCl (gl_VB cI cL ad b0 f0 c0 f1 c1 f2 c2 lo up be si pl cu ge fa bb) H := gp_VB1 hP
      have hD : va_D A (gl_VB cI cL ad b0 f0 c0 f1 c1 f2 c2 lo up be si pl cu ge fa bb) := gq_VB1 hD
      refine lv_iload_n hx hb dL_isGrownRight_205 rfl (lv_at hl 3 rfl) ?_
      refine lv_icmp_ne (tgt := 230) hx hb dL_isGrownRight_206 (by decide) (fun c => absurd (e202.trans ((sv_lit hf).trans h3.symm)) c) (fun _ => ?_)
      refine lv_aload_n hx hb dL_isGrownRight_209 rfl (lv_at hl 0 rfl) ?_
      have hPc : va_P (dC, dI) vwCl (gv_V cI cL ad f0 c0 f1 c1 f2 c2 lo up be si pl cu ge fa) H := gv_sub [0, 1, 2, 3, 4, 5, 6, 7, 8, 9, 10, 11, 12] hP gs_VB1
      have hDc : va_D (gv_in (gv_V cI cL ad f0 c0 f1 c1 f2 c2 lo up be si pl cu ge fa)) (gv_V cI cL ad f0 c0 f1 c1 f2 c2 lo up be si pl cu ge fa) := gv_D hD [0, 1, 2, 3, 4, 5, 6, 7, 8, 9, 10, 11, 12] (by decide) gs_VB1
      refine gv_ki (wf := (fun (_ : Unit) => (gv_V cI cL ad f0 c0 f1 c1 f2 c2 lo up be si pl cu ge fa))) (wc := (gv_V cI cL ad f0 c0 f1 c1 f2 c2 lo up be si pl cu ge fa)) [0, 1, 2, 3, 4, 5, 6, 7, 8, 9, 10, 11, 12] (fun _ => rfl) hP hD hS rfl gs_VB1 (va_runV (As := []) (rest := []) ⟨hx, hb, hml, hown, hts⟩ (kX1_lit l dC dI cI cL ad f0 c0 f1 c1 f2 c2 lo up be si pl cu ge fa (gv_in (gv_V cI cL ad f0 c0 f1 c1 f2 c2 lo up be si pl cu ge fa))) (cwV (rm := gv_R 2 42) 0 hts gL_isGrownRight_X1_lit rfl rfl rfl (by decide +kernel) ⟨Nat.le_of_ble_eq_true rfl, Nat.le_of_ble_eq_true rfl⟩) (gv_preV (ci := 1) hK hPc hDc hN rfl rfl) rfl rfl hl.1 rfl (lv_room (Nat.le_of_ble_eq_true rfl)) dL_isGrownRight_210 ⟨Nat.zero_le _, Nat.zero_le _⟩) (fun q210 u H locs hw hP hD hS => ?_)
      have e210 := hw
      have hP : va_P (dC, dI) vwCl (gl_VB cI cL ad b0 f0 c0 f1 c1 f2 c2 lo up be si pl cu ge fa bb) H := gp_VB1 hP
      have hD : va_D A (gl_VB cI cL ad b0 f0 c0 f1 c1 f2 c2 lo up be si pl cu ge fa bb) := gq_VB1 hD
      refine lv_bipush (v := 12) hx hb dL_isGrownRight_213 (by decide) ?_
      refine lv_icmp_gt (tgt := 230) hx hb dL_isGrownRight_215 (by decide) (fun c => absurd c (by rw [e210.trans (sv_lit hf)]; exact fun z => absurd ((nI_ltI (a := 12) (by decide) (Nat.lt_of_le_of_lt (ma_ct_le _ 12) (by decide))).mp z) (Nat.not_lt.mpr (ma_ct_le _ 12)))) (fun _ => ?_)
      refine lv_aload_n hx hb dL_isGrownRight_218 rfl (lv_at hl 0 rfl) ?_
      have hPc : va_P (dC, dI) vwCl (gv_V cI cL ad f0 c0 f1 c1 f2 c2 lo up be si pl cu ge fa) H := gv_sub [0, 1, 2, 3, 4, 5, 6, 7, 8, 9, 10, 11, 12] hP gs_VB1
      have hDc : va_D (gv_in (gv_V cI cL ad f0 c0 f1 c1 f2 c2 lo up be si pl cu ge fa)) (gv_V cI cL ad f0 c0 f1 c1 f2 c2 lo up be si pl cu ge fa) := gv_D hD [0, 1, 2, 3, 4, 5, 6, 7, 8, 9, 10, 11, 12] (by decide) gs_VB1
      refine gv_ki (wf := (fun (_ : Unit) => (gv_V cI cL ad f0 c0 f1 c1 f2 c2 lo up be si pl cu ge fa))) (wc := (gv_V cI cL ad f0 c0 f1 c1 f2 c2 lo up be si pl cu ge fa)) [0, 1, 2, 3, 4, 5, 6, 7, 8, 9, 10, 11, 12] (fun _ => rfl) hP hD hS rfl gs_VB1 (va_runV (As := []) (rest := []) ⟨hx, hb, hml, hown, hts⟩ (kX1_cutsLeft l dC dI cI cL ad f0 c0 f1 c1 f2 c2 lo up be si pl cu ge fa (gv_in (gv_V cI cL ad f0 c0 f1 c1 f2 c2 lo up be si pl cu ge fa))) (cwV (rm := gv_R 0 0) 0 hts gL_isGrownRight_X1_cutsLeft rfl rfl rfl (by decide +kernel) ⟨Nat.le_of_ble_eq_true rfl, Nat.le_of_ble_eq_true rfl⟩) (gv_preV (ci := 1) hK hPc hDc hN rfl rfl) rfl rfl hl.1 rfl (lv_room (Nat.le_of_ble_eq_true rfl)) dL_isGrownRight_219 ⟨Nat.zero_le _, Nat.zero_le _⟩) (fun q219 u H locs hw hP hD hS => ?_)
      have e219 := hw
      have hP : va_P (dC, dI) vwCl (gl_VB cI cL ad b0 f0 c0 f1 c1 f2 c2 lo up be si pl cu ge fa bb) H := gp_VB1 hP
      have hD : va_D A (gl_VB cI cL ad b0 f0 c0 f1 c1 f2 c2 lo up be si pl cu ge fa bb) := gq_VB1 hD
      refine lv_iconst (v := 3) hx hb dL_isGrownRight_222 (by decide) ?_
      refine lv_icmp_ne (tgt := 230) hx hb dL_isGrownRight_223 (by decide) (fun c => absurd (e219.trans (by rw [spX1_cutsLeft_e, hcu]; rfl)) c) (fun _ => ?_)
      refine lv_iconst (v := 1) hx hb dL_isGrownRight_226 (by decide) ?_
      refine lv_goto (tgt := 231) hx hb dL_isGrownRight_227 (by decide) ?_
      exact kr 1 () _ _ _ _ rfl rfl hP hS dL_isGrownRight_231
    | succ n ih =>
      intro i x2 x3 H locs ls hi h2 h3 hP hD hS hl
      refine lv_iload hx hb dL_isGrownRight_10 (lv_at hl 5 rfl) ?_
      refine lv_bipush (v := 12) hx hb dL_isGrownRight_12 (by decide) ?_
      refine lv_icmp_ge (tgt := 188) hx hb dL_isGrownRight_14 (by decide) (fun c => absurd c (show ¬ (12 : Int32) ≤ nI i from nI_ge (b := 12) (by omega) (by decide))) (fun _ => ?_)
      refine lv_iconst (v := 0) hx hb dL_isGrownRight_17 (by decide) ?_
      refine lv_istore (lv' := [(6, .int 0), (0, .ref (ad 0)), (1, .ref b0), (2, .int x2), (3, .int x3), (4, .int 1), (5, .int (nI i))]) hx hb dL_isGrownRight_18 hl (by decide) rfl (fun ls hl => ?_)
      refine lv_bipush (v := 7) hx hb dL_isGrownRight_20 (by decide) ?_
      refine lv_istore (lv' := [(7, .int 7), (6, .int 0), (0, .ref (ad 0)), (1, .ref b0), (2, .int x2), (3, .int x3), (4, .int 1), (5, .int (nI i))]) hx hb dL_isGrownRight_22 hl (by decide) rfl (fun ls hl => ?_)
      have K145 : ∀ (x3 x6 : Int32) (H : Heap) (locs : List Loc) (ls : Array Slot), x6 = nI (ma_sd L 0 i) → x3 = nI (ma_ct (ma_any L 8) (i + 1)) → va_P (dC, dI) vwCl (gl_VB cI cL ad b0 f0 c0 f1 c1 f2 c2 lo up be si pl cu ge fa bb) H → va_D A (gl_VB cI cL ad b0 f0 c0 f1 c1 f2 c2 lo up be si pl cu ge fa bb) → va_S A s.heap H locs → lv_has ls 9 [(0, .ref (ad 0)), (1, .ref b0), (2, .int x2), (3, .int x3), (4, .int 1), (5, .int (nI i)), (6, .int x6)] → W p l e (gv_R 4 92) s m args below meth c H locs 0 0 Q (F0 m 145 ls []) := by
        intro x3 x6 H locs ls h6 h3 hP hD hS hl
        have hb1 := hB i (by omega)
        have hb2 := hle i (by omega)
        refine lv_iload_n hx hb dL_isGrownRight_145 rfl (lv_at hl 2 rfl) ?_
        refine lv_iload hx hb dL_isGrownRight_146 (lv_at hl 6 rfl) ?_
        refine lv_iadd hx hb dL_isGrownRight_148 ?_
        refine lv_istore_n (lv' := [(2, .int (x2 + x6)), (0, .ref (ad 0)), (1, .ref b0), (3, .int x3), (4, .int 1), (5, .int (nI i)), (6, .int x6)]) hx hb dL_isGrownRight_149 rfl hl (by decide) rfl (fun ls hl => ?_)
        refine lv_iload hx hb dL_isGrownRight_150 (lv_at hl 4 rfl) ?_
        refine lv_if_eq (tgt := 179) hx hb dL_isGrownRight_152 (by decide) (fun c => absurd c (by decide)) (fun _ => ?_)
        refine lv_aload_n hx hb dL_isGrownRight_155 rfl (lv_at hl 1 rfl) ?_
        refine lv_iload hx hb dL_isGrownRight_156 (lv_at hl 5 rfl) ?_
        have hPc : va_P (dC, dI) vwCl (gv_V cI cL ad f0 c0 f1 c1 f2 c2 lo up be si pl cu ge fa) H := gv_sub [0, 1, 2, 3, 4, 5, 6, 7, 8, 9, 10, 11, 12] hP gs_VB1
        have hDc : va_D (gv_in (gv_V cI cL ad f0 c0 f1 c1 f2 c2 lo up be si pl cu ge fa)) (gv_V cI cL ad f0 c0 f1 c1 f2 c2 lo up be si pl cu ge fa) := gv_D hD [0, 1, 2, 3, 4, 5, 6, 7, 8, 9, 10, 11, 12] (by decide) gs_VB1
        refine gv_ki (wf := (fun (_ : Unit) => (gv_V cI cL ad f0 c0 f1 c1 f2 c2 lo up be si pl cu ge fa))) (wc := (gv_V cI cL ad f0 c0 f1 c1 f2 c2 lo up be si pl cu ge fa)) [0, 1, 2, 3, 4, 5, 6, 7, 8, 9, 10, 11, 12] (fun _ => rfl) hP hD hS rfl gs_VB1 (va_runV (As := [.int (nI i)]) (rest := []) ⟨hx, hb, hml, hown, hts⟩ (kX1_leavesIn l dC dI cI cL ad f0 c0 f1 c1 f2 c2 lo up be si pl cu ge fa (nI i) i rfl (by omega) (gv_in (gv_V cI cL ad f0 c0 f1 c1 f2 c2 lo up be si pl cu ge fa))) (cwV (rm := gv_R 3 66) 1 hts gL_isGrownRight_X1_leavesIn rfl rfl rfl (by decide +kernel) ⟨Nat.le_of_ble_eq_true rfl, Nat.le_of_ble_eq_true rfl⟩) (gv_preV (ci := 1) hK hPc hDc hN rfl rfl) rfl rfl hl.1 rfl (lv_room (Nat.le_of_ble_eq_true rfl)) dL_isGrownRight_158 ⟨Nat.zero_le _, Nat.zero_le _⟩) (fun q158 u H locs hw hP hD hS => ?_)
        have e158 := hw
        have hP : va_P (dC, dI) vwCl (gl_VB cI cL ad b0 f0 c0 f1 c1 f2 c2 lo up be si pl cu ge fa bb) H := gp_VB1 hP
        have hD : va_D A (gl_VB cI cL ad b0 f0 c0 f1 c1 f2 c2 lo up be si pl cu ge fa bb) := gq_VB1 hD
        refine lv_iload hx hb dL_isGrownRight_161 (lv_at hl 6 rfl) ?_
        refine lv_icmp_ne (tgt := 179) hx hb dL_isGrownRight_163 (by decide) (fun c => absurd (e158.trans ((sv_in hf (by omega)).trans h6.symm)) c) (fun _ => ?_)
        refine lv_iload hx hb dL_isGrownRight_166 (lv_at hl 6 rfl) ?_
        refine lv_aload_n hx hb dL_isGrownRight_168 rfl (lv_at hl 2 rfl) ?_
        refine lv_iload hx hb dL_isGrownRight_169 (lv_at hl 5 rfl) ?_
        refine gv_iald (cA := cI) (f := bb) (k := i) hx hb hK hP 13 0 rfl rfl rfl (by omega) (by decide) dL_isGrownRight_171 ?_
        refine lv_icmp_gt (tgt := 179) hx hb dL_isGrownRight_172 (by decide) (fun c => absurd c (by rw [hb1.1, h6]; exact fun z => absurd ((nI_ltI (by omega) (by omega)).mp z) (by omega))) (fun _ => ?_)
        refine lv_iconst (v := 1) hx hb dL_isGrownRight_175 (by decide) ?_
        refine lv_goto (tgt := 180) hx hb dL_isGrownRight_176 (by decide) ?_
        refine lv_istore (lv' := [(4, .int 1), (2, .int (x2 + x6)), (0, .ref (ad 0)), (1, .ref b0), (3, .int x3), (5, .int (nI i)), (6, .int x6)]) hx hb dL_isGrownRight_180 hl (by decide) rfl (fun ls hl => ?_)
        refine lv_iinc (v := (nI (i + 1))) (lv' := [(5, .int (nI (i + 1))), (4, .int 1), (2, .int (x2 + x6)), (0, .ref (ad 0)), (1, .ref b0), (3, .int x3), (6, .int x6)]) hx hb dL_isGrownRight_182 hl (k := 5) rfl (nI_1 i) (by decide) rfl (fun ls hl => ?_)
        refine lv_goto (tgt := 10) hx hb dL_isGrownRight_185 (by decide) ?_
        exact ih (i + 1) _ _ _ _ _ (by omega) (by rw [h2, h6, nI_add]; rfl) h3 hP hD hS (lv_sub hl [3, 4, 2, 5, 1, 0] rfl)
      have L24 : ∀ (n : Nat) (x3 x6 : Int32) (H : Heap) (locs : List Loc) (ls : Array Slot), n ≤ 8 → x6 = nI (ma_sd L n i) → x3 = nI (ma_ct (ma_any L 8) i + (if ma_sd L n i = 0 then 0 else 1)) → va_P (dC, dI) vwCl (gl_VB cI cL ad b0 f0 c0 f1 c1 f2 c2 lo up be si pl cu ge fa bb) H → va_D A (gl_VB cI cL ad b0 f0 c0 f1 c1 f2 c2 lo up be si pl cu ge fa bb) → va_S A s.heap H locs → lv_has ls 9 [(0, .ref (ad 0)), (1, .ref b0), (2, .int x2), (3, .int x3), (4, .int 1), (5, .int (nI i)), (6, .int x6), (7, .int (nI n - 1))] → W p l e (gv_R 4 92) s m args below meth c H locs 0 0 Q (F0 m 24 ls []) := by
        intro n
        induction n with
        | zero =>
          intro x3 x6 H locs ls hn h6 h3 hP hD hS hl
          refine lv_iload hx hb dL_isGrownRight_24 (lv_at hl 7 rfl) ?_
          refine lv_if_lt (tgt := 145) hx hb dL_isGrownRight_26 (by decide) (fun _ => ?_) (fun c => absurd (show (nI 0 - 1 : Int32) < 0 by decide) c)
          exact K145 _ _ _ _ _ h6 (gr_lit h3) hP hD hS (lv_sub hl [0, 1, 2, 3, 4, 5, 6] rfl)
        | succ n ih2 =>
          intro x3 x6 H locs ls hn h6 h3 hP hD hS hl
          rw [nI_pred] at hl
          have hs := ma_sd_s L (w := n) (by omega) i
          have h8 : ma_sd L (n + 1) i ≤ 8 := Nat.le_trans (ma_u_le _ _ _) (by omega)
          cases hL : L n i with
          | true =>
            rw [hL] at hs
            refine lv_iload hx hb dL_isGrownRight_24 (lv_at hl 7 rfl) ?_
            refine lv_if_lt (tgt := 145) hx hb dL_isGrownRight_26 (by decide) (fun c => absurd c (nI_pos (by omega))) (fun _ => ?_)
            refine lv_aload_n hx hb dL_isGrownRight_29 rfl (lv_at hl 0 rfl) ?_
            refine lv_iload hx hb dL_isGrownRight_30 (lv_at hl 7 rfl) ?_
            refine lv_iload hx hb dL_isGrownRight_32 (lv_at hl 5 rfl) ?_
            have hPc : va_P (dC, dI) vwCl (gv_V cI cL ad f0 c0 f1 c1 f2 c2 lo up be si pl cu ge fa) H := gv_sub [0, 1, 2, 3, 4, 5, 6, 7, 8, 9, 10, 11, 12] hP gs_VB1
            have hDc : va_D (gv_in (gv_V cI cL ad f0 c0 f1 c1 f2 c2 lo up be si pl cu ge fa)) (gv_V cI cL ad f0 c0 f1 c1 f2 c2 lo up be si pl cu ge fa) := gv_D hD [0, 1, 2, 3, 4, 5, 6, 7, 8, 9, 10, 11, 12] (by decide) gs_VB1
            refine gv_ki (wf := (fun (_ : Unit) => (gv_V cI cL ad f0 c0 f1 c1 f2 c2 lo up be si pl cu ge fa))) (wc := (gv_V cI cL ad f0 c0 f1 c1 f2 c2 lo up be si pl cu ge fa)) [0, 1, 2, 3, 4, 5, 6, 7, 8, 9, 10, 11, 12] (fun _ => rfl) hP hD hS rfl gs_VB1 (va_runV (As := [.int (nI n), .int (nI i)]) (rest := []) ⟨hx, hb, hml, hown, hts⟩ (kX1_look l dC dI cI cL ad f0 c0 f1 c1 f2 c2 lo up be si pl cu ge fa (nI n) n rfl (nI i) i rfl (by omega) (by omega) (gv_in (gv_V cI cL ad f0 c0 f1 c1 f2 c2 lo up be si pl cu ge fa))) (cwV (rm := gv_R 3 65) 2 hts gL_isGrownRight_X1_look rfl rfl rfl (by decide +kernel) ⟨Nat.le_of_ble_eq_true rfl, Nat.le_of_ble_eq_true rfl⟩) (gv_preV (ci := 1) hK hPc hDc hN rfl rfl) rfl rfl hl.1 rfl (lv_room (Nat.le_of_ble_eq_true rfl)) dL_isGrownRight_34 ⟨Nat.zero_le _, Nat.zero_le _⟩) (fun q34 u H locs hw hP hD hS => ?_)
            have e34 := hw
            have hP : va_P (dC, dI) vwCl (gl_VB cI cL ad b0 f0 c0 f1 c1 f2 c2 lo up be si pl cu ge fa bb) H := gp_VB1 hP
            have hD : va_D A (gl_VB cI cL ad b0 f0 c0 f1 c1 f2 c2 lo up be si pl cu ge fa bb) := gq_VB1 hD
            refine lv_bipush (v := 35) hx hb dL_isGrownRight_37 (by decide) ?_
            refine lv_icmp_ne (tgt := 46) hx hb dL_isGrownRight_39 (by decide) (fun c => absurd (by rw [e34.trans (sv_look hf hc (by omega) (by omega)), hL]; exact (by decide : mk_ true false = 35)) c) (fun _ => ?_)
            refine lv_iconst (v := 1) hx hb dL_isGrownRight_42 (by decide) ?_
            refine lv_goto (tgt := 47) hx hb dL_isGrownRight_43 (by decide) ?_
            refine lv_istore (lv' := [(8, .int 1), (0, .ref (ad 0)), (1, .ref b0), (2, .int x2), (3, .int x3), (4, .int 1), (5, .int (nI i)), (6, .int x6), (7, .int (nI n))]) hx hb dL_isGrownRight_47 hl (by decide) rfl (fun ls hl => ?_)
            refine lv_iload hx hb dL_isGrownRight_49 (lv_at hl 5 rfl) ?_
            refine lv_if_eq (tgt := 103) hx hb dL_isGrownRight_51 (by decide) (fun c => absurd c (by decide)) (fun _ => ?_)
            refine lv_aload_n hx hb dL_isGrownRight_54 rfl (lv_at hl 1 rfl) ?_
            refine lv_iload hx hb dL_isGrownRight_55 (lv_at hl 8 rfl) ?_
            refine lv_iload hx hb dL_isGrownRight_57 (lv_at hl 6 rfl) ?_
            have hPc : va_P (dC, dI) vwCl (gv_V cI cL ad f0 c0 f1 c1 f2 c2 lo up be si pl cu ge fa) H := gv_sub [0, 1, 2, 3, 4, 5, 6, 7, 8, 9, 10, 11, 12] hP gs_VB1
            have hDc : va_D (gv_in (gv_V cI cL ad f0 c0 f1 c1 f2 c2 lo up be si pl cu ge fa)) (gv_V cI cL ad f0 c0 f1 c1 f2 c2 lo up be si pl cu ge fa) := gv_D hD [0, 1, 2, 3, 4, 5, 6, 7, 8, 9, 10, 11, 12] (by decide) gs_VB1
            refine gv_ki (wf := (fun (_ : Unit) => (gv_V cI cL ad f0 c0 f1 c1 f2 c2 lo up be si pl cu ge fa))) (wc := (gv_V cI cL ad f0 c0 f1 c1 f2 c2 lo up be si pl cu ge fa)) [0, 1, 2, 3, 4, 5, 6, 7, 8, 9, 10, 11, 12] (fun _ => rfl) hP hD hS rfl gs_VB1 (va_runV (As := [.int (nI n), .int (nI i)]) (rest := []) ⟨hx, hb, hml, hown, hts⟩ (kX1_shadeOf l dC dI cI cL ad f0 c0 f1 c1 f2 c2 lo up be si pl cu ge fa (nI n) n rfl (nI i) i rfl (by omega) (by omega) (gv_in (gv_V cI cL ad f0 c0 f1 c1 f2 c2 lo up be si pl cu ge fa))) (cwV (rm := gv_R 2 45) 2 hts gL_isGrownRight_X1_shadeOf rfl rfl rfl (by decide +kernel) ⟨Nat.le_of_ble_eq_true rfl, Nat.le_of_ble_eq_true rfl⟩) (gv_preV (ci := 1) hK hPc hDc hN rfl rfl) rfl rfl hl.1 rfl (lv_room (Nat.le_of_ble_eq_true rfl)) dL_isGrownRight_59 ⟨Nat.zero_le _, Nat.zero_le _⟩) (fun q59 u H locs hw hP hD hS => ?_)
            have e59 := hw
            have hP : va_P (dC, dI) vwCl (gl_VB cI cL ad b0 f0 c0 f1 c1 f2 c2 lo up be si pl cu ge fa bb) H := gp_VB1 hP
            have hD : va_D A (gl_VB cI cL ad b0 f0 c0 f1 c1 f2 c2 lo up be si pl cu ge fa bb) := gq_VB1 hD
            refine lv_iload hx hb dL_isGrownRight_62 (lv_at hl 7 rfl) ?_
            refine lv_icmp_ne (tgt := 103) hx hb dL_isGrownRight_64 (by decide) (fun c => absurd (e59.trans ((sv_shade hf (by omega) (by omega)).trans h6.symm)) c) (fun _ => ?_)
            refine lv_aload_n hx hb dL_isGrownRight_67 rfl (lv_at hl 1 rfl) ?_
            refine lv_iload hx hb dL_isGrownRight_68 (lv_at hl 8 rfl) ?_
            refine lv_iload hx hb dL_isGrownRight_70 (lv_at hl 6 rfl) ?_
            have hPc : va_P (dC, dI) vwCl (gv_V cI cL ad f0 c0 f1 c1 f2 c2 lo up be si pl cu ge fa) H := gv_sub [0, 1, 2, 3, 4, 5, 6, 7, 8, 9, 10, 11, 12] hP gs_VB1
            have hDc : va_D (gv_in (gv_V cI cL ad f0 c0 f1 c1 f2 c2 lo up be si pl cu ge fa)) (gv_V cI cL ad f0 c0 f1 c1 f2 c2 lo up be si pl cu ge fa) := gv_D hD [0, 1, 2, 3, 4, 5, 6, 7, 8, 9, 10, 11, 12] (by decide) gs_VB1
            refine gv_ki (wf := (fun (_ : Unit) => (gv_V cI cL ad f0 c0 f1 c1 f2 c2 lo up be si pl cu ge fa))) (wc := (gv_V cI cL ad f0 c0 f1 c1 f2 c2 lo up be si pl cu ge fa)) [0, 1, 2, 3, 4, 5, 6, 7, 8, 9, 10, 11, 12] (fun _ => rfl) hP hD hS rfl gs_VB1 (va_runV (As := [.int (nI n), .int (nI i)]) (rest := []) ⟨hx, hb, hml, hown, hts⟩ (kX1_holdersOf l dC dI cI cL ad f0 c0 f1 c1 f2 c2 lo up be si pl cu ge fa (nI n) n rfl (nI i) i rfl (by omega) (by omega) (gv_in (gv_V cI cL ad f0 c0 f1 c1 f2 c2 lo up be si pl cu ge fa))) (cwV (rm := gv_R 3 70) 2 hts gL_isGrownRight_X1_holdersOf rfl rfl rfl (by decide +kernel) ⟨Nat.le_of_ble_eq_true rfl, Nat.le_of_ble_eq_true rfl⟩) (gv_preV (ci := 1) hK hPc hDc hN rfl rfl) rfl rfl hl.1 rfl (lv_room (Nat.le_of_ble_eq_true rfl)) dL_isGrownRight_72 ⟨Nat.zero_le _, Nat.zero_le _⟩) (fun q72 u H locs hw hP hD hS => ?_)
            have e72 := hw
            have hP : va_P (dC, dI) vwCl (gl_VB cI cL ad b0 f0 c0 f1 c1 f2 c2 lo up be si pl cu ge fa bb) H := gp_VB1 hP
            have hD : va_D A (gl_VB cI cL ad b0 f0 c0 f1 c1 f2 c2 lo up be si pl cu ge fa bb) := gq_VB1 hD
            refine lv_aload_n hx hb dL_isGrownRight_75 rfl (lv_at hl 1 rfl) ?_
            refine lv_iload hx hb dL_isGrownRight_76 (lv_at hl 8 rfl) ?_
            refine lv_iload hx hb dL_isGrownRight_78 (lv_at hl 6 rfl) ?_
            have hPc : va_P (dC, dI) vwCl (gv_V cI cL ad f0 c0 f1 c1 f2 c2 lo up be si pl cu ge fa) H := gv_sub [0, 1, 2, 3, 4, 5, 6, 7, 8, 9, 10, 11, 12] hP gs_VB1
            have hDc : va_D (gv_in (gv_V cI cL ad f0 c0 f1 c1 f2 c2 lo up be si pl cu ge fa)) (gv_V cI cL ad f0 c0 f1 c1 f2 c2 lo up be si pl cu ge fa) := gv_D hD [0, 1, 2, 3, 4, 5, 6, 7, 8, 9, 10, 11, 12] (by decide) gs_VB1
            refine gv_ki (wf := (fun (_ : Unit) => (gv_V cI cL ad f0 c0 f1 c1 f2 c2 lo up be si pl cu ge fa))) (wc := (gv_V cI cL ad f0 c0 f1 c1 f2 c2 lo up be si pl cu ge fa)) [0, 1, 2, 3, 4, 5, 6, 7, 8, 9, 10, 11, 12] (fun _ => rfl) hP hD hS rfl gs_VB1 (va_runV (As := [.int (nI n), .int (nI i)]) (rest := [.int q72]) ⟨hx, hb, hml, hown, hts⟩ (kX1_neighboursOf l dC dI cI cL ad f0 c0 f1 c1 f2 c2 lo up be si pl cu ge fa (nI n) n rfl (nI i) i rfl (by omega) (by omega) (gv_in (gv_V cI cL ad f0 c0 f1 c1 f2 c2 lo up be si pl cu ge fa))) (cwV (rm := gv_R 3 70) 2 hts gL_isGrownRight_X1_neighboursOf rfl rfl rfl (by decide +kernel) ⟨Nat.le_of_ble_eq_true rfl, Nat.le_of_ble_eq_true rfl⟩) (gv_preV (ci := 1) hK hPc hDc hN rfl rfl) rfl rfl hl.1 rfl (lv_room (Nat.le_of_ble_eq_true rfl)) dL_isGrownRight_80 ⟨Nat.zero_le _, Nat.zero_le _⟩) (fun q80 u H locs hw hP hD hS => ?_)
            have e80 := hw
            have hP : va_P (dC, dI) vwCl (gl_VB cI cL ad b0 f0 c0 f1 c1 f2 c2 lo up be si pl cu ge fa bb) H := gp_VB1 hP
            have hD : va_D A (gl_VB cI cL ad b0 f0 c0 f1 c1 f2 c2 lo up be si pl cu ge fa bb) := gq_VB1 hD
            refine lv_icmp_gt (tgt := 103) hx hb dL_isGrownRight_83 (by decide) (fun c => absurd c (by rw [e72.trans (sv_holders hf (by omega) (by omega)), e80.trans (sv_neigh hf (by omega) (by omega))]; exact fun z => absurd ((nI_ltI (Nat.lt_of_le_of_lt (ma_ne_le _ _ _ _) (by decide)) (Nat.lt_of_le_of_lt (ma_ho_le _ _ _ _) (by decide))).mp z) (Nat.not_lt.mpr (ma_ho_ne _ _ _ _)))) (fun _ => ?_)
            refine lv_aload_n hx hb dL_isGrownRight_86 rfl (lv_at hl 1 rfl) ?_
            refine lv_iload hx hb dL_isGrownRight_87 (lv_at hl 8 rfl) ?_
            refine lv_iload hx hb dL_isGrownRight_89 (lv_at hl 6 rfl) ?_
            have hPc : va_P (dC, dI) vwCl (gv_V cI cL ad f0 c0 f1 c1 f2 c2 lo up be si pl cu ge fa) H := gv_sub [0, 1, 2, 3, 4, 5, 6, 7, 8, 9, 10, 11, 12] hP gs_VB1
            have hDc : va_D (gv_in (gv_V cI cL ad f0 c0 f1 c1 f2 c2 lo up be si pl cu ge fa)) (gv_V cI cL ad f0 c0 f1 c1 f2 c2 lo up be si pl cu ge fa) := gv_D hD [0, 1, 2, 3, 4, 5, 6, 7, 8, 9, 10, 11, 12] (by decide) gs_VB1
            refine gv_ki (wf := (fun (_ : Unit) => (gv_V cI cL ad f0 c0 f1 c1 f2 c2 lo up be si pl cu ge fa))) (wc := (gv_V cI cL ad f0 c0 f1 c1 f2 c2 lo up be si pl cu ge fa)) [0, 1, 2, 3, 4, 5, 6, 7, 8, 9, 10, 11, 12] (fun _ => rfl) hP hD hS rfl gs_VB1 (va_runV (As := [.int (nI n), .int (nI i)]) (rest := []) ⟨hx, hb, hml, hown, hts⟩ (kX1_look l dC dI cI cL ad f0 c0 f1 c1 f2 c2 lo up be si pl cu ge fa (nI n) n rfl (nI i) i rfl (by omega) (by omega) (gv_in (gv_V cI cL ad f0 c0 f1 c1 f2 c2 lo up be si pl cu ge fa))) (cwV (rm := gv_R 3 65) 2 hts gL_isGrownRight_X1_look rfl rfl rfl (by decide +kernel) ⟨Nat.le_of_ble_eq_true rfl, Nat.le_of_ble_eq_true rfl⟩) (gv_preV (ci := 1) hK hPc hDc hN rfl rfl) rfl rfl hl.1 rfl (lv_room (Nat.le_of_ble_eq_true rfl)) dL_isGrownRight_91 ⟨Nat.zero_le _, Nat.zero_le _⟩) (fun q91 u H locs hw hP hD hS => ?_)
            have e91 := hw
            have hP : va_P (dC, dI) vwCl (gl_VB cI cL ad b0 f0 c0 f1 c1 f2 c2 lo up be si pl cu ge fa bb) H := gp_VB1 hP
            have hD : va_D A (gl_VB cI cL ad b0 f0 c0 f1 c1 f2 c2 lo up be si pl cu ge fa bb) := gq_VB1 hD
            refine lv_bipush (v := 120) hx hb dL_isGrownRight_94 (by decide) ?_
            refine lv_icmp_eq (tgt := 103) hx hb dL_isGrownRight_96 (by decide) (fun c => absurd c (by rw [e91.trans (sv_look hf hc (by omega) (by omega)), hL]; exact (by decide : ¬ mk_ true false = 120))) (fun _ => ?_)
            refine lv_iconst (v := 1) hx hb dL_isGrownRight_99 (by decide) ?_
            refine lv_goto (tgt := 104) hx hb dL_isGrownRight_100 (by decide) ?_
            refine lv_istore (lv' := [(4, .int 1), (8, .int 1), (0, .ref (ad 0)), (1, .ref b0), (2, .int x2), (3, .int x3), (5, .int (nI i)), (6, .int x6), (7, .int (nI n))]) hx hb dL_isGrownRight_104 hl (by decide) rfl (fun ls hl => ?_)
            by_cases z : ma_sd L (n + 1) i = 0
            · refine lv_iload_n hx hb dL_isGrownRight_106 rfl (lv_at hl 5 rfl) ?_
              refine lv_iload hx hb dL_isGrownRight_107 (lv_at hl 1 rfl) ?_
              refine lv_if_eq (tgt := 121) hx hb dL_isGrownRight_109 (by decide) (fun c => absurd c (by decide)) (fun _ => ?_)
              refine lv_iload hx hb dL_isGrownRight_112 (lv_at hl 7 rfl) ?_
              refine lv_if_ne (tgt := 121) hx hb dL_isGrownRight_114 (by decide) (fun c => absurd (by rw [h6, z]; rfl) c) (fun _ => ?_)
              refine lv_iconst (v := 1) hx hb dL_isGrownRight_117 (by decide) ?_
              refine lv_goto (tgt := 122) hx hb dL_isGrownRight_118 (by decide) ?_
              refine lv_iadd hx hb dL_isGrownRight_122 ?_
              refine lv_istore_n (lv' := [(3, .int (x3 + 1)), (4, .int 1), (8, .int 1), (0, .ref (ad 0)), (1, .ref b0), (2, .int x2), (5, .int (nI i)), (6, .int x6), (7, .int (nI n))]) hx hb dL_isGrownRight_123 rfl hl (by decide) rfl (fun ls hl => ?_)
              refine lv_iload hx hb dL_isGrownRight_124 (lv_at hl 7 rfl) ?_
              refine lv_iload hx hb dL_isGrownRight_126 (lv_at hl 2 rfl) ?_
              refine lv_if_eq (tgt := 135) hx hb dL_isGrownRight_128 (by decide) (fun c => absurd c (by decide)) (fun _ => ?_)
              refine lv_iconst (v := 1) hx hb dL_isGrownRight_131 (by decide) ?_
              refine lv_goto (tgt := 136) hx hb dL_isGrownRight_132 (by decide) ?_
              refine lv_iadd hx hb dL_isGrownRight_136 ?_
              refine lv_istore (lv' := [(6, .int (x6 + 1)), (3, .int (x3 + 1)), (4, .int 1), (8, .int 1), (0, .ref (ad 0)), (1, .ref b0), (2, .int x2), (5, .int (nI i)), (7, .int (nI n))]) hx hb dL_isGrownRight_137 hl (by decide) rfl (fun ls hl => ?_)
              refine lv_iinc (v := (nI n - 1)) (lv' := [(7, .int (nI n - 1)), (6, .int (x6 + 1)), (3, .int (x3 + 1)), (4, .int 1), (8, .int 1), (0, .ref (ad 0)), (1, .ref b0), (2, .int x2), (5, .int (nI i))]) hx hb dL_isGrownRight_139 hl (k := 8) rfl (gv_dec _) (by decide) rfl (fun ls hl => ?_)
              refine lv_goto (tgt := 24) hx hb dL_isGrownRight_142 (by decide) ?_
              exact ih2 _ _ _ _ _ (by omega) (by rw [hs, h6, nI_1]; exact congrArg nI (Nat.add_comm _ _)) (gr_l1 h3 z hs) hP hD hS (lv_sub hl [5, 6, 7, 2, 3, 8, 1, 0] rfl)
            · refine lv_iload_n hx hb dL_isGrownRight_106 rfl (lv_at hl 5 rfl) ?_
              refine lv_iload hx hb dL_isGrownRight_107 (lv_at hl 1 rfl) ?_
              refine lv_if_eq (tgt := 121) hx hb dL_isGrownRight_109 (by decide) (fun c => absurd c (by decide)) (fun _ => ?_)
              refine lv_iload hx hb dL_isGrownRight_112 (lv_at hl 7 rfl) ?_
              refine lv_if_ne (tgt := 121) hx hb dL_isGrownRight_114 (by decide) (fun _ => ?_) (fun c => absurd c (fun y => z ((nI_eq (b := 0) (by omega) (by decide)).mp (h6.symm.trans y))))
              refine lv_iconst (v := 0) hx hb dL_isGrownRight_121 (by decide) ?_
              refine lv_iadd hx hb dL_isGrownRight_122 ?_
              refine lv_istore_n (lv' := [(3, .int (x3 + 0)), (4, .int 1), (8, .int 1), (0, .ref (ad 0)), (1, .ref b0), (2, .int x2), (5, .int (nI i)), (6, .int x6), (7, .int (nI n))]) hx hb dL_isGrownRight_123 rfl hl (by decide) rfl (fun ls hl => ?_)
              refine lv_iload hx hb dL_isGrownRight_124 (lv_at hl 7 rfl) ?_
              refine lv_iload hx hb dL_isGrownRight_126 (lv_at hl 2 rfl) ?_
              refine lv_if_eq (tgt := 135) hx hb dL_isGrownRight_128 (by decide) (fun c => absurd c (by decide)) (fun _ => ?_)
              refine lv_iconst (v := 1) hx hb dL_isGrownRight_131 (by decide) ?_
              refine lv_goto (tgt := 136) hx hb dL_isGrownRight_132 (by decide) ?_
              refine lv_iadd hx hb dL_isGrownRight_136 ?_
              refine lv_istore (lv' := [(6, .int (x6 + 1)), (3, .int (x3 + 0)), (4, .int 1), (8, .int 1), (0, .ref (ad 0)), (1, .ref b0), (2, .int x2), (5, .int (nI i)), (7, .int (nI n))]) hx hb dL_isGrownRight_137 hl (by decide) rfl (fun ls hl => ?_)
              refine lv_iinc (v := (nI n - 1)) (lv' := [(7, .int (nI n - 1)), (6, .int (x6 + 1)), (3, .int (x3 + 0)), (4, .int 1), (8, .int 1), (0, .ref (ad 0)), (1, .ref b0), (2, .int x2), (5, .int (nI i))]) hx hb dL_isGrownRight_139 hl (k := 8) rfl (gv_dec _) (by decide) rfl (fun ls hl => ?_)
              refine lv_goto (tgt := 24) hx hb dL_isGrownRight_142 (by decide) ?_
              exact ih2 _ _ _ _ _ (by omega) (by rw [hs, h6, nI_1]; exact congrArg nI (Nat.add_comm _ _)) (gr_l2 h3 z hs) hP hD hS (lv_sub hl [5, 6, 7, 2, 3, 8, 1, 0] rfl)
          | false =>
            rw [hL] at hs
            refine lv_iload hx hb dL_isGrownRight_24 (lv_at hl 7 rfl) ?_
            refine lv_if_lt (tgt := 145) hx hb dL_isGrownRight_26 (by decide) (fun c => absurd c (nI_pos (by omega))) (fun _ => ?_)
            refine lv_aload_n hx hb dL_isGrownRight_29 rfl (lv_at hl 0 rfl) ?_
            refine lv_iload hx hb dL_isGrownRight_30 (lv_at hl 7 rfl) ?_
            refine lv_iload hx hb dL_isGrownRight_32 (lv_at hl 5 rfl) ?_
            have hPc : va_P (dC, dI) vwCl (gv_V cI cL ad f0 c0 f1 c1 f2 c2 lo up be si pl cu ge fa) H := gv_sub [0, 1, 2, 3, 4, 5, 6, 7, 8, 9, 10, 11, 12] hP gs_VB1
            have hDc : va_D (gv_in (gv_V cI cL ad f0 c0 f1 c1 f2 c2 lo up be si pl cu ge fa)) (gv_V cI cL ad f0 c0 f1 c1 f2 c2 lo up be si pl cu ge fa) := gv_D hD [0, 1, 2, 3, 4, 5, 6, 7, 8, 9, 10, 11, 12] (by decide) gs_VB1
            refine gv_ki (wf := (fun (_ : Unit) => (gv_V cI cL ad f0 c0 f1 c1 f2 c2 lo up be si pl cu ge fa))) (wc := (gv_V cI cL ad f0 c0 f1 c1 f2 c2 lo up be si pl cu ge fa)) [0, 1, 2, 3, 4, 5, 6, 7, 8, 9, 10, 11, 12] (fun _ => rfl) hP hD hS rfl gs_VB1 (va_runV (As := [.int (nI n), .int (nI i)]) (rest := []) ⟨hx, hb, hml, hown, hts⟩ (kX1_look l dC dI cI cL ad f0 c0 f1 c1 f2 c2 lo up be si pl cu ge fa (nI n) n rfl (nI i) i rfl (by omega) (by omega) (gv_in (gv_V cI cL ad f0 c0 f1 c1 f2 c2 lo up be si pl cu ge fa))) (cwV (rm := gv_R 3 65) 2 hts gL_isGrownRight_X1_look rfl rfl rfl (by decide +kernel) ⟨Nat.le_of_ble_eq_true rfl, Nat.le_of_ble_eq_true rfl⟩) (gv_preV (ci := 1) hK hPc hDc hN rfl rfl) rfl rfl hl.1 rfl (lv_room (Nat.le_of_ble_eq_true rfl)) dL_isGrownRight_34 ⟨Nat.zero_le _, Nat.zero_le _⟩) (fun q34 u H locs hw hP hD hS => ?_)
            have e34 := hw
            have hP : va_P (dC, dI) vwCl (gl_VB cI cL ad b0 f0 c0 f1 c1 f2 c2 lo up be si pl cu ge fa bb) H := gp_VB1 hP
            have hD : va_D A (gl_VB cI cL ad b0 f0 c0 f1 c1 f2 c2 lo up be si pl cu ge fa bb) := gq_VB1 hD
            refine lv_bipush (v := 35) hx hb dL_isGrownRight_37 (by decide) ?_
            refine lv_icmp_ne (tgt := 46) hx hb dL_isGrownRight_39 (by decide) (fun _ => ?_) (fun c => absurd c (by rw [e34.trans (sv_look hf hc (by omega) (by omega)), hL]; exact (by decide : ¬ mk_ false false = 35)))
            refine lv_iconst (v := 0) hx hb dL_isGrownRight_46 (by decide) ?_
            refine lv_istore (lv' := [(8, .int 0), (0, .ref (ad 0)), (1, .ref b0), (2, .int x2), (3, .int x3), (4, .int 1), (5, .int (nI i)), (6, .int x6), (7, .int (nI n))]) hx hb dL_isGrownRight_47 hl (by decide) rfl (fun ls hl => ?_)
            refine lv_iload hx hb dL_isGrownRight_49 (lv_at hl 5 rfl) ?_
            refine lv_if_eq (tgt := 103) hx hb dL_isGrownRight_51 (by decide) (fun c => absurd c (by decide)) (fun _ => ?_)
            refine lv_aload_n hx hb dL_isGrownRight_54 rfl (lv_at hl 1 rfl) ?_
            refine lv_iload hx hb dL_isGrownRight_55 (lv_at hl 8 rfl) ?_
            refine lv_iload hx hb dL_isGrownRight_57 (lv_at hl 6 rfl) ?_
            have hPc : va_P (dC, dI) vwCl (gv_V cI cL ad f0 c0 f1 c1 f2 c2 lo up be si pl cu ge fa) H := gv_sub [0, 1, 2, 3, 4, 5, 6, 7, 8, 9, 10, 11, 12] hP gs_VB1
            have hDc : va_D (gv_in (gv_V cI cL ad f0 c0 f1 c1 f2 c2 lo up be si pl cu ge fa)) (gv_V cI cL ad f0 c0 f1 c1 f2 c2 lo up be si pl cu ge fa) := gv_D hD [0, 1, 2, 3, 4, 5, 6, 7, 8, 9, 10, 11, 12] (by decide) gs_VB1
            refine gv_ki (wf := (fun (_ : Unit) => (gv_V cI cL ad f0 c0 f1 c1 f2 c2 lo up be si pl cu ge fa))) (wc := (gv_V cI cL ad f0 c0 f1 c1 f2 c2 lo up be si pl cu ge fa)) [0, 1, 2, 3, 4, 5, 6, 7, 8, 9, 10, 11, 12] (fun _ => rfl) hP hD hS rfl gs_VB1 (va_runV (As := [.int (nI n), .int (nI i)]) (rest := []) ⟨hx, hb, hml, hown, hts⟩ (kX1_shadeOf l dC dI cI cL ad f0 c0 f1 c1 f2 c2 lo up be si pl cu ge fa (nI n) n rfl (nI i) i rfl (by omega) (by omega) (gv_in (gv_V cI cL ad f0 c0 f1 c1 f2 c2 lo up be si pl cu ge fa))) (cwV (rm := gv_R 2 45) 2 hts gL_isGrownRight_X1_shadeOf rfl rfl rfl (by decide +kernel) ⟨Nat.le_of_ble_eq_true rfl, Nat.le_of_ble_eq_true rfl⟩) (gv_preV (ci := 1) hK hPc hDc hN rfl rfl) rfl rfl hl.1 rfl (lv_room (Nat.le_of_ble_eq_true rfl)) dL_isGrownRight_59 ⟨Nat.zero_le _, Nat.zero_le _⟩) (fun q59 u H locs hw hP hD hS => ?_)
            have e59 := hw
            have hP : va_P (dC, dI) vwCl (gl_VB cI cL ad b0 f0 c0 f1 c1 f2 c2 lo up be si pl cu ge fa bb) H := gp_VB1 hP
            have hD : va_D A (gl_VB cI cL ad b0 f0 c0 f1 c1 f2 c2 lo up be si pl cu ge fa bb) := gq_VB1 hD
            refine lv_iload hx hb dL_isGrownRight_62 (lv_at hl 7 rfl) ?_
            refine lv_icmp_ne (tgt := 103) hx hb dL_isGrownRight_64 (by decide) (fun c => absurd (e59.trans ((sv_shade hf (by omega) (by omega)).trans h6.symm)) c) (fun _ => ?_)
            refine lv_aload_n hx hb dL_isGrownRight_67 rfl (lv_at hl 1 rfl) ?_
            refine lv_iload hx hb dL_isGrownRight_68 (lv_at hl 8 rfl) ?_
            refine lv_iload hx hb dL_isGrownRight_70 (lv_at hl 6 rfl) ?_
            have hPc : va_P (dC, dI) vwCl (gv_V cI cL ad f0 c0 f1 c1 f2 c2 lo up be si pl cu ge fa) H := gv_sub [0, 1, 2, 3, 4, 5, 6, 7, 8, 9, 10, 11, 12] hP gs_VB1
            have hDc : va_D (gv_in (gv_V cI cL ad f0 c0 f1 c1 f2 c2 lo up be si pl cu ge fa)) (gv_V cI cL ad f0 c0 f1 c1 f2 c2 lo up be si pl cu ge fa) := gv_D hD [0, 1, 2, 3, 4, 5, 6, 7, 8, 9, 10, 11, 12] (by decide) gs_VB1
            refine gv_ki (wf := (fun (_ : Unit) => (gv_V cI cL ad f0 c0 f1 c1 f2 c2 lo up be si pl cu ge fa))) (wc := (gv_V cI cL ad f0 c0 f1 c1 f2 c2 lo up be si pl cu ge fa)) [0, 1, 2, 3, 4, 5, 6, 7, 8, 9, 10, 11, 12] (fun _ => rfl) hP hD hS rfl gs_VB1 (va_runV (As := [.int (nI n), .int (nI i)]) (rest := []) ⟨hx, hb, hml, hown, hts⟩ (kX1_holdersOf l dC dI cI cL ad f0 c0 f1 c1 f2 c2 lo up be si pl cu ge fa (nI n) n rfl (nI i) i rfl (by omega) (by omega) (gv_in (gv_V cI cL ad f0 c0 f1 c1 f2 c2 lo up be si pl cu ge fa))) (cwV (rm := gv_R 3 70) 2 hts gL_isGrownRight_X1_holdersOf rfl rfl rfl (by decide +kernel) ⟨Nat.le_of_ble_eq_true rfl, Nat.le_of_ble_eq_true rfl⟩) (gv_preV (ci := 1) hK hPc hDc hN rfl rfl) rfl rfl hl.1 rfl (lv_room (Nat.le_of_ble_eq_true rfl)) dL_isGrownRight_72 ⟨Nat.zero_le _, Nat.zero_le _⟩) (fun q72 u H locs hw hP hD hS => ?_)
            have e72 := hw
            have hP : va_P (dC, dI) vwCl (gl_VB cI cL ad b0 f0 c0 f1 c1 f2 c2 lo up be si pl cu ge fa bb) H := gp_VB1 hP
            have hD : va_D A (gl_VB cI cL ad b0 f0 c0 f1 c1 f2 c2 lo up be si pl cu ge fa bb) := gq_VB1 hD
            refine lv_aload_n hx hb dL_isGrownRight_75 rfl (lv_at hl 1 rfl) ?_
            refine lv_iload hx hb dL_isGrownRight_76 (lv_at hl 8 rfl) ?_
            refine lv_iload hx hb dL_isGrownRight_78 (lv_at hl 6 rfl) ?_
            have hPc : va_P (dC, dI) vwCl (gv_V cI cL ad f0 c0 f1 c1 f2 c2 lo up be si pl cu ge fa) H := gv_sub [0, 1, 2, 3, 4, 5, 6, 7, 8, 9, 10, 11, 12] hP gs_VB1
            have hDc : va_D (gv_in (gv_V cI cL ad f0 c0 f1 c1 f2 c2 lo up be si pl cu ge fa)) (gv_V cI cL ad f0 c0 f1 c1 f2 c2 lo up be si pl cu ge fa) := gv_D hD [0, 1, 2, 3, 4, 5, 6, 7, 8, 9, 10, 11, 12] (by decide) gs_VB1
            refine gv_ki (wf := (fun (_ : Unit) => (gv_V cI cL ad f0 c0 f1 c1 f2 c2 lo up be si pl cu ge fa))) (wc := (gv_V cI cL ad f0 c0 f1 c1 f2 c2 lo up be si pl cu ge fa)) [0, 1, 2, 3, 4, 5, 6, 7, 8, 9, 10, 11, 12] (fun _ => rfl) hP hD hS rfl gs_VB1 (va_runV (As := [.int (nI n), .int (nI i)]) (rest := [.int q72]) ⟨hx, hb, hml, hown, hts⟩ (kX1_neighboursOf l dC dI cI cL ad f0 c0 f1 c1 f2 c2 lo up be si pl cu ge fa (nI n) n rfl (nI i) i rfl (by omega) (by omega) (gv_in (gv_V cI cL ad f0 c0 f1 c1 f2 c2 lo up be si pl cu ge fa))) (cwV (rm := gv_R 3 70) 2 hts gL_isGrownRight_X1_neighboursOf rfl rfl rfl (by decide +kernel) ⟨Nat.le_of_ble_eq_true rfl, Nat.le_of_ble_eq_true rfl⟩) (gv_preV (ci := 1) hK hPc hDc hN rfl rfl) rfl rfl hl.1 rfl (lv_room (Nat.le_of_ble_eq_true rfl)) dL_isGrownRight_80 ⟨Nat.zero_le _, Nat.zero_le _⟩) (fun q80 u H locs hw hP hD hS => ?_)
            have e80 := hw
            have hP : va_P (dC, dI) vwCl (gl_VB cI cL ad b0 f0 c0 f1 c1 f2 c2 lo up be si pl cu ge fa bb) H := gp_VB1 hP
            have hD : va_D A (gl_VB cI cL ad b0 f0 c0 f1 c1 f2 c2 lo up be si pl cu ge fa bb) := gq_VB1 hD
            refine lv_icmp_gt (tgt := 103) hx hb dL_isGrownRight_83 (by decide) (fun c => absurd c (by rw [e72.trans (sv_holders hf (by omega) (by omega)), e80.trans (sv_neigh hf (by omega) (by omega))]; exact fun z => absurd ((nI_ltI (Nat.lt_of_le_of_lt (ma_ne_le _ _ _ _) (by decide)) (Nat.lt_of_le_of_lt (ma_ho_le _ _ _ _) (by decide))).mp z) (Nat.not_lt.mpr (ma_ho_ne _ _ _ _)))) (fun _ => ?_)
            refine lv_aload_n hx hb dL_isGrownRight_86 rfl (lv_at hl 1 rfl) ?_
            refine lv_iload hx hb dL_isGrownRight_87 (lv_at hl 8 rfl) ?_
            refine lv_iload hx hb dL_isGrownRight_89 (lv_at hl 6 rfl) ?_
            have hPc : va_P (dC, dI) vwCl (gv_V cI cL ad f0 c0 f1 c1 f2 c2 lo up be si pl cu ge fa) H := gv_sub [0, 1, 2, 3, 4, 5, 6, 7, 8, 9, 10, 11, 12] hP gs_VB1
            have hDc : va_D (gv_in (gv_V cI cL ad f0 c0 f1 c1 f2 c2 lo up be si pl cu ge fa)) (gv_V cI cL ad f0 c0 f1 c1 f2 c2 lo up be si pl cu ge fa) := gv_D hD [0, 1, 2, 3, 4, 5, 6, 7, 8, 9, 10, 11, 12] (by decide) gs_VB1
            refine gv_ki (wf := (fun (_ : Unit) => (gv_V cI cL ad f0 c0 f1 c1 f2 c2 lo up be si pl cu ge fa))) (wc := (gv_V cI cL ad f0 c0 f1 c1 f2 c2 lo up be si pl cu ge fa)) [0, 1, 2, 3, 4, 5, 6, 7, 8, 9, 10, 11, 12] (fun _ => rfl) hP hD hS rfl gs_VB1 (va_runV (As := [.int (nI n), .int (nI i)]) (rest := []) ⟨hx, hb, hml, hown, hts⟩ (kX1_look l dC dI cI cL ad f0 c0 f1 c1 f2 c2 lo up be si pl cu ge fa (nI n) n rfl (nI i) i rfl (by omega) (by omega) (gv_in (gv_V cI cL ad f0 c0 f1 c1 f2 c2 lo up be si pl cu ge fa))) (cwV (rm := gv_R 3 65) 2 hts gL_isGrownRight_X1_look rfl rfl rfl (by decide +kernel) ⟨Nat.le_of_ble_eq_true rfl, Nat.le_of_ble_eq_true rfl⟩) (gv_preV (ci := 1) hK hPc hDc hN rfl rfl) rfl rfl hl.1 rfl (lv_room (Nat.le_of_ble_eq_true rfl)) dL_isGrownRight_91 ⟨Nat.zero_le _, Nat.zero_le _⟩) (fun q91 u H locs hw hP hD hS => ?_)
            have e91 := hw
            have hP : va_P (dC, dI) vwCl (gl_VB cI cL ad b0 f0 c0 f1 c1 f2 c2 lo up be si pl cu ge fa bb) H := gp_VB1 hP
            have hD : va_D A (gl_VB cI cL ad b0 f0 c0 f1 c1 f2 c2 lo up be si pl cu ge fa bb) := gq_VB1 hD
            refine lv_bipush (v := 120) hx hb dL_isGrownRight_94 (by decide) ?_
            refine lv_icmp_eq (tgt := 103) hx hb dL_isGrownRight_96 (by decide) (fun c => absurd c (by rw [e91.trans (sv_look hf hc (by omega) (by omega)), hL]; exact (by decide : ¬ mk_ false false = 120))) (fun _ => ?_)
            refine lv_iconst (v := 1) hx hb dL_isGrownRight_99 (by decide) ?_
            refine lv_goto (tgt := 104) hx hb dL_isGrownRight_100 (by decide) ?_
            refine lv_istore (lv' := [(4, .int 1), (8, .int 0), (0, .ref (ad 0)), (1, .ref b0), (2, .int x2), (3, .int x3), (5, .int (nI i)), (6, .int x6), (7, .int (nI n))]) hx hb dL_isGrownRight_104 hl (by decide) rfl (fun ls hl => ?_)
            refine lv_iload_n hx hb dL_isGrownRight_106 rfl (lv_at hl 5 rfl) ?_
            refine lv_iload hx hb dL_isGrownRight_107 (lv_at hl 1 rfl) ?_
            refine lv_if_eq (tgt := 121) hx hb dL_isGrownRight_109 (by decide) (fun _ => ?_) (fun c => absurd (by decide) c)
            refine lv_iconst (v := 0) hx hb dL_isGrownRight_121 (by decide) ?_
            refine lv_iadd hx hb dL_isGrownRight_122 ?_
            refine lv_istore_n (lv' := [(3, .int (x3 + 0)), (4, .int 1), (8, .int 0), (0, .ref (ad 0)), (1, .ref b0), (2, .int x2), (5, .int (nI i)), (6, .int x6), (7, .int (nI n))]) hx hb dL_isGrownRight_123 rfl hl (by decide) rfl (fun ls hl => ?_)
            refine lv_iload hx hb dL_isGrownRight_124 (lv_at hl 7 rfl) ?_
            refine lv_iload hx hb dL_isGrownRight_126 (lv_at hl 2 rfl) ?_
            refine lv_if_eq (tgt := 135) hx hb dL_isGrownRight_128 (by decide) (fun _ => ?_) (fun c => absurd (by decide) c)
            refine lv_iconst (v := 0) hx hb dL_isGrownRight_135 (by decide) ?_
            refine lv_iadd hx hb dL_isGrownRight_136 ?_
            refine lv_istore (lv' := [(6, .int (x6 + 0)), (3, .int (x3 + 0)), (4, .int 1), (8, .int 0), (0, .ref (ad 0)), (1, .ref b0), (2, .int x2), (5, .int (nI i)), (7, .int (nI n))]) hx hb dL_isGrownRight_137 hl (by decide) rfl (fun ls hl => ?_)
            refine lv_iinc (v := (nI n - 1)) (lv' := [(7, .int (nI n - 1)), (6, .int (x6 + 0)), (3, .int (x3 + 0)), (4, .int 1), (8, .int 0), (0, .ref (ad 0)), (1, .ref b0), (2, .int x2), (5, .int (nI i))]) hx hb dL_isGrownRight_139 hl (k := 8) rfl (gv_dec _) (by decide) rfl (fun ls hl => ?_)
            refine lv_goto (tgt := 24) hx hb dL_isGrownRight_142 (by decide) ?_
            exact ih2 _ _ _ _ _ (by omega) (by rw [hs, h6]; exact gr_z _) (gr_l3 h3 hs) hP hD hS (lv_sub hl [5, 6, 7, 2, 3, 8, 1, 0] rfl)
      exact L24 8 x3 _ _ _ _ (Nat.le_refl 8) rfl (by rw [h3]; rfl) hP hD hS (lv_sub hl [2, 3, 4, 5, 6, 7, 1, 0] rfl)
  exact L10 12 0 0 0 _ _ _ rfl rfl rfl hP hD hS (lv_sub hl [4, 5, 3, 2, 1, 0] rfl)
