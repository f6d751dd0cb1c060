set_option maxHeartbeats 40000000 in
set_option maxRecDepth 100000 in
theorem lw_loop {p : Program} {l : Launch} {e : Env} {s : State} {m : MethodId} {below : List Frame} {meth : Method} {c : Code} {b L : Nat} {xs : Nat → Int32} {dC : Nat → ClassId} {dI : Nat → Nat → Nat} {cI cL : ClassId} {ad ag : Nat → Nat} {b0 : Nat} (C0 : lw_C p l s m c b L xs dC dI cI cL) (hr : meth.sig.returnType = ret) (hlocks : meth.locks = false) : ∀ (n t : Nat), t + n = 70 → lw_J p l e s m below meth c b dC dI cI cL ad ag b0 t 122 [(6, .int (nI t))]
  | 0, t, ht => by
    obtain rfl : t = 70 := by omega
    obtain ⟨hx, hb, hml, hown, hts, hX, hbl, hK, hN, hT, hst, hL⟩ := id C0
    have hbA : ¬ (fun q : Nat => s.heap.size ≤ q) b := Nat.not_le.mpr hbl
    intro f0 c0 f1 c1 f2 c2 lo up be si pl cu ge fa g0 d0 g1 d1 g2 d2 lp uq bg cg gg fg bb H locs ls hJ hP hD hS hl
    have hl : lv_has ls 14 [(0, .ref b), (1, .ref (ad 0)), (2, .ref (ag 0)), (3, .ref b0), (5, .int 1), (6, .int (nI 70))] := hl
    refine lv_iload hx hb dL_law_122 (lv_at hl 5 rfl) ?_
    refine lv_bipush (v := 70) hx hb dL_law_124 (by decide) ?_
    refine lv_icmp_ge (tgt := 400) hx hb dL_law_126 (by decide) (fun _ => ?_) (fun c => absurd (show (70 : Int32) ≤ nI 70 by decide) c)
    exact lw_f C0 hr hlocks f0 c0 f1 c1 f2 c2 lo up be si pl cu ge fa g0 d0 g1 d1 g2 d2 lp uq bg cg gg fg bb _ _ _ hJ hP hD hS (lv_sub hl [0, 1, 2, 3, 4] rfl)
  | n + 1, t, ht => by
    have T : lw_J p l e s m below meth c b dC dI cI cL ad ag b0 (t + 1) 367 [(6, .int (nI t))] := lw_d (ad := ad) (ag := ag) (b0 := b0) (show t < 70 by omega) C0 (lw_loop C0 hr hlocks n (t + 1) (by omega))
    obtain ⟨hx, hb, hml, hown, hts, hX, hbl, hK, hN, hT, hst, hL⟩ := id C0
    have hbA : ¬ (fun q : Nat => s.heap.size ≤ q) b := Nat.not_le.mpr hbl
    intro f0 c0 f1 c1 f2 c2 lo up be si pl cu ge fa g0 d0 g1 d1 g2 d2 lp uq bg cg gg fg bb H locs ls hJ hP hD hS hl
    have hl : lv_has ls 14 [(0, .ref b), (1, .ref (ad 0)), (2, .ref (ag 0)), (3, .ref b0), (5, .int 1), (6, .int (nI t))] := hl
    refine lv_iload hx hb dL_law_122 (lv_at hl 5 rfl) ?_
    refine lv_bipush (v := 70) hx hb dL_law_124 (by decide) ?_
    refine lv_icmp_ge (tgt := 400) hx hb dL_law_126 (by decide) (fun c => absurd c (show ¬ (70 : Int32) ≤ nI t from nI_ge (b := 70) (by omega) (by decide))) (fun _ => ?_)
    refine lv_iload hx hb dL_law_129 (lv_at hl 4 rfl) ?_
    refine lv_if_eq (tgt := 400) hx hb dL_law_131 (by decide) (fun c => absurd c (by decide)) (fun _ => ?_)
    refine lv_aload_n hx hb dL_law_134 rfl (lv_at hl 0 rfl) ?_
    refine lv_iload hx hb dL_law_135 (lv_at hl 5 rfl) ?_
    refine lv_iconst (v := 5) hx hb dL_law_137 (by decide) ?_
    refine lv_iadd hx hb dL_law_138 ?_
    refine lv_sipush (v := 30000) hx hb dL_law_139 (by decide) ?_
    refine gv_ki (wf := (fun (_ : Unit) => ([] : va_W))) (wc := ([] : va_W)) [] (fun _ => rfl) hP hD hS rfl rfl (va_runS (As := [.ref b, .int ((nI t) + 5), .int 30000]) (rest := []) ⟨hx, hb, hml, hown, hts⟩ (kL_drawn l dC dI b L xs ((nI t) + 5) (t + 5) (gn_add rfl (rfl : (5 : Int32) = nI 5)) 30000 30000 (rfl : (30000 : Int32) = nI 30000) (by omega) hL (by decide) (gv_in ([] : va_W)) (by simp [gv_in])) (va_cwS (rm := gv_R 0 0) 3 hts gL_law_L_drawn rfl rfl rfl (by decide +kernel) ⟨Nat.le_of_ble_eq_true rfl, Nat.le_of_ble_eq_true rfl⟩) (gd_pre hX hbl hbA hS) rfl rfl hl.1 rfl (lv_room (Nat.le_of_ble_eq_true rfl)) dL_law_142 ⟨lw_rc (by omega), lw_rs (by omega)⟩) (fun q142 u H locs hw hP hD hS => ?_)
    have hP : va_P (dC, dI) vwCl (gl_L cI cL ad ag b0 f0 c0 f1 c1 f2 c2 lo up be si pl cu ge fa g0 d0 g1 d1 g2 d2 lp uq bg si pl cg gg fg bb) H := hP
    have hD : va_D (fun q : Nat => s.heap.size ≤ q) (gl_L cI cL ad ag b0 f0 c0 f1 c1 f2 c2 lo up be si pl cu ge fa g0 d0 g1 d1 g2 d2 lp uq bg si pl cg gg fg bb) := hD
    obtain ⟨j142, hj142, e142⟩ := hw
    refine lv_istore (lv' := [(7, .int q142), (0, .ref b), (1, .ref (ad 0)), (2, .ref (ag 0)), (3, .ref b0), (5, .int 1), (6, .int (nI t))]) hx hb dL_law_145 hl (by decide) rfl (fun ls hl => ?_)
    refine lv_iload hx hb dL_law_147 (lv_at hl 0 rfl) ?_
    refine lv_bipush (v := 12) hx hb dL_law_149 (by decide) ?_
    refine lv_irem hx hb dL_law_151 (by decide) ?_
    refine lv_istore (lv' := [(8, .int (q142 - q142 / 12 * 12)), (7, .int q142), (0, .ref b), (1, .ref (ad 0)), (2, .ref (ag 0)), (3, .ref b0), (5, .int 1), (6, .int (nI t))]) hx hb dL_law_152 hl (by decide) rfl (fun ls hl => ?_)
    refine lv_iload hx hb dL_law_154 (lv_at hl 1 rfl) ?_
    refine lv_bipush (v := 12) hx hb dL_law_156 (by decide) ?_
    refine lv_idiv hx hb dL_law_158 (by decide) ?_
    refine lv_bipush (v := 8) hx hb dL_law_159 (by decide) ?_
    refine lv_irem hx hb dL_law_161 (by decide) ?_
    refine lv_istore (lv' := [(9, .int ((q142 / 12) - (q142 / 12) / 8 * 8)), (8, .int (q142 - q142 / 12 * 12)), (7, .int q142), (0, .ref b), (1, .ref (ad 0)), (2, .ref (ag 0)), (3, .ref b0), (5, .int 1), (6, .int (nI t))]) hx hb dL_law_162 hl (by decide) rfl (fun ls hl => ?_)
    refine lv_iload hx hb dL_law_164 (lv_at hl 0 rfl) ?_
    refine lv_iconst (v := 3) hx hb dL_law_166 (by decide) ?_
    refine lv_icmp_ge (tgt := 214) hx hb dL_law_167 (by decide) (fun cd167 => ?_) (fun cd167 => ?_)
    · refine lv_iload hx hb dL_law_214 (lv_at hl 0 rfl) ?_
      refine lv_iconst (v := 3) hx hb dL_law_216 (by decide) ?_
      refine lv_icmp_ne (tgt := 281) hx hb dL_law_217 (by decide) (fun cd217 => ?_) (fun cd217 => ?_)
      · exact lw_c (show t < 70 by omega) C0 T f0 c0 f1 c1 f2 c2 lo up be si pl cu ge fa g0 d0 g1 d1 g2 d2 lp uq bg cg gg fg bb _ _ _ hJ hP hD hS (lv_sub hl [3, 4, 5, 6, 7, 8] rfl)
      · exact lw_b (show t < 70 by omega) hj142 (Nat.mod_lt j142 (by decide : 12 > 0)) e142 (gn_rem e142 (rfl : (12 : Int32) = nI 12) (by omega) (by omega) (by omega)) C0 T f0 c0 f1 c1 f2 c2 lo up be si pl cu ge fa g0 d0 g1 d1 g2 d2 lp uq bg cg gg fg bb _ _ _ hJ hP hD hS (lv_sub hl [3, 4, 5, 6, 7, 8, 2, 1] rfl)
    · exact lw_a (show t < 70 by omega) hj142 (Nat.mod_lt j142 (by decide : 12 > 0)) e142 (gn_rem e142 (rfl : (12 : Int32) = nI 12) (by omega) (by omega) (by omega)) C0 T f0 c0 f1 c1 f2 c2 lo up be si pl cu ge fa g0 d0 g1 d1 g2 d2 lp uq bg cg gg fg bb _ _ _ hJ hP hD hS (lv_sub hl [3, 4, 5, 6, 7, 8, 2, 1] rfl)
set_option maxHeartbeats 40000000 in
set_option maxRecDepth 100000 in
theorem lw_plant {p : Program} {l : Launch} {e : Env} {s : State} {m : MethodId} {below : List Frame} {meth : Method} {c : Code} {b L : Nat} {xs : Nat → Int32} {dC : Nat → ClassId} {dI : Nat → Nat → Nat} {cI cL : ClassId} {ad ag : Nat → Nat} {b0 : Nat} (C0 : lw_C p l s m c b L xs dC dI cI cL) (hr : meth.sig.returnType = ret) (hlocks : meth.locks = false) : ∀ (n k : Nat), k + n = 4 → ∀ (f0 : Nat → Int32) (c0 : Nat → Int32) (f1 : Nat → Int32) (c1 : Nat → Int32) (f2 : Nat → Int32) (c2 : Nat → Int32) (lo : Nat → Int64) (up : Nat → Int64) (be : Nat → Int32) (si : Int32) (pl : Int32) (cu : Int32) (ge : Int32) (fa : Int32) (g0 : Nat → Int32) (d0 : Nat → Int32) (g1 : Nat → Int32) (d1 : Nat → Int32) (g2 : Nat → Int32) (d2 : Nat → Int32) (lp : Nat → Int64) (uq : Nat → Int64) (bg : Nat → Int32) (cg : Int32) (gg : Int32) (fg : Int32) (bb : Nat → Int32) (H : Heap) (locs : List Loc) (ls : Array Slot), gm_J f0 c0 be g0 d0 bg bb cu ge fa cg gg fg → (∃ p0, pl = nI p0 ∧ p0 ≤ k) → va_P (dC, dI) vwCl (gl_L cI cL ad ag b0 f0 c0 f1 c1 f2 c2 lo up be si pl cu ge fa g0 d0 g1 d1 g2 d2 lp uq bg si pl cg gg fg bb) H → va_D (fun q : Nat => s.heap.size ≤ q) (gl_L cI cL ad ag b0 f0 c0 f1 c1 f2 c2 lo up be si pl cu ge fa g0 d0 g1 d1 g2 d2 lp uq bg si pl cg gg fg bb) → va_S (fun q : Nat => s.heap.size ≤ q) s.heap H locs → lv_has ls 14 [(0, .ref b), (1, .ref (ad 0)), (2, .ref (ag 0)), (3, .ref b0), (5, .int 1), (6, .int (nI k))] → W p l e room_1 s m #[Value.ref b] below meth c H locs (27 + 2 * 0) (410 + 12 * 0) (lw_Z below #[Value.ref b] s) (F0 m 68 ls [])
  | 0, k, hk => by
    obtain rfl : k = 4 := by omega
    obtain ⟨hx, hb, hml, hown, hts, hX, hbl, hK, hN, hT, hst, hL⟩ := id C0
    have hbA : ¬ (fun q : Nat => s.heap.size ≤ q) b := Nat.not_le.mpr hbl
    intro f0 c0 f1 c1 f2 c2 lo up be si pl cu ge fa g0 d0 g1 d1 g2 d2 lp uq bg cg gg fg bb H locs ls hJ hp0 hP hD hS hl
    have hl : lv_has ls 14 [(0, .ref b), (1, .ref (ad 0)), (2, .ref (ag 0)), (3, .ref b0), (5, .int 1), (6, .int (nI 4))] := hl
    refine lv_iload hx hb dL_law_68 (lv_at hl 5 rfl) ?_
    refine lv_iconst (v := 4) hx hb dL_law_70 (by decide) ?_
    refine lv_icmp_ge (tgt := 119) hx hb dL_law_71 (by decide) (fun _ => ?_) (fun c => absurd (show (4 : Int32) ≤ nI 4 by decide) c)
    refine lv_iconst (v := 0) hx hb dL_law_119 (by decide) ?_
    refine lv_istore (lv' := [(6, .int 0), (0, .ref b), (1, .ref (ad 0)), (2, .ref (ag 0)), (3, .ref b0), (5, .int 1)]) hx hb dL_law_120 hl (by decide) rfl (fun ls hl => ?_)
    have hl : lv_has ls 14 [(6, .int (nI 0)), (0, .ref b), (1, .ref (ad 0)), (2, .ref (ag 0)), (3, .ref b0), (5, .int 1)] := hl
    exact lw_loop C0 hr hlocks 70 0 rfl f0 c0 f1 c1 f2 c2 lo up be si pl cu ge fa g0 d0 g1 d1 g2 d2 lp uq bg cg gg fg bb _ _ _ hJ hP hD hS (lv_sub hl [1, 2, 3, 4, 5, 0] rfl)
  | n + 1, k, hk => by
    have ih := lw_plant (e := e) (below := below) (meth := meth) (ad := ad) (ag := ag) (b0 := b0) C0 hr hlocks n (k + 1) (by omega)
    obtain ⟨hx, hb, hml, hown, hts, hX, hbl, hK, hN, hT, hst, hL⟩ := id C0
    have hbA : ¬ (fun q : Nat => s.heap.size ≤ q) b := Nat.not_le.mpr hbl
    intro f0 c0 f1 c1 f2 c2 lo up be si pl cu ge fa g0 d0 g1 d1 g2 d2 lp uq bg cg gg fg bb H locs ls hJ hp0 hP hD hS hl
    have hl : lv_has ls 14 [(0, .ref b), (1, .ref (ad 0)), (2, .ref (ag 0)), (3, .ref b0), (5, .int 1), (6, .int (nI k))] := hl
    obtain ⟨p0, hp1, hp2⟩ := hp0
    refine lv_iload hx hb dL_law_68 (lv_at hl 5 rfl) ?_
    refine lv_iconst (v := 4) hx hb dL_law_70 (by decide) ?_
    refine lv_icmp_ge (tgt := 119) hx hb dL_law_71 (by decide) (fun c => absurd c (show ¬ (4 : Int32) ≤ nI k from nI_ge (b := 4) (by omega) (by decide))) (fun _ => ?_)
    refine lv_aload_n hx hb dL_law_74 rfl (lv_at hl 0 rfl) ?_
    refine lv_iconst (v := 1) hx hb dL_law_75 (by decide) ?_
    refine lv_iload hx hb dL_law_76 (lv_at hl 5 rfl) ?_
    refine lv_iadd hx hb dL_law_78 ?_
    refine lv_bipush (v := 12) hx hb dL_law_79 (by decide) ?_
    refine gv_ki (wf := (fun (_ : Unit) => ([] : va_W))) (wc := ([] : va_W)) [] (fun _ => rfl) hP hD hS rfl rfl (va_runS (As := [.ref b, .int (1 + (nI k)), .int 12]) (rest := []) ⟨hx, hb, hml, hown, hts⟩ (kL_drawn l dC dI b L xs (1 + (nI k)) (1 + k) (gn_add (rfl : (1 : Int32) = nI 1) rfl) 12 12 (rfl : (12 : Int32) = nI 12) (by omega) hL (by decide) (gv_in ([] : va_W)) (by simp [gv_in])) (va_cwS (rm := gv_R 0 0) 3 hts gL_law_L_drawn rfl rfl rfl (by decide +kernel) ⟨Nat.le_of_ble_eq_true rfl, Nat.le_of_ble_eq_true rfl⟩) (gd_pre hX hbl hbA hS) rfl rfl hl.1 rfl (lv_room (Nat.le_of_ble_eq_true rfl)) dL_law_81 ⟨lw_rc (by omega), lw_rs (by omega)⟩) (fun q81 u H locs hw hP hD hS => ?_)
    have hP : va_P (dC, dI) vwCl (gl_L cI cL ad ag b0 f0 c0 f1 c1 f2 c2 lo up be si pl cu ge fa g0 d0 g1 d1 g2 d2 lp uq bg si pl cg gg fg bb) H := hP
    have hD : va_D (fun q : Nat => s.heap.size ≤ q) (gl_L cI cL ad ag b0 f0 c0 f1 c1 f2 c2 lo up be si pl cu ge fa g0 d0 g1 d1 g2 d2 lp uq bg si pl cg gg fg bb) := hD
    obtain ⟨j81, hj81, e81⟩ := hw
    refine lv_istore (lv' := [(7, .int q81), (0, .ref b), (1, .ref (ad 0)), (2, .ref (ag 0)), (3, .ref b0), (5, .int 1), (6, .int (nI k))]) hx hb dL_law_84 hl (by decide) rfl (fun ls hl => ?_)
    refine lv_aload_n hx hb dL_law_86 rfl (lv_at hl 2 rfl) ?_
    refine lv_iconst (v := 0) hx hb dL_law_87 (by decide) ?_
    refine lv_iload hx hb dL_law_88 (lv_at hl 0 rfl) ?_
    have hPc : va_P (dC, dI) vwCl (gv_V cI cL ad f0 c0 f1 c1 f2 c2 lo up be si pl cu ge fa) H := gv_sub [0, 1, 2, 3, 4, 5, 6, 7, 8, 9, 10, 11, 12] hP gs_VVB2
    have hDc : va_D (gv_in (gv_V cI cL ad f0 c0 f1 c1 f2 c2 lo up be si pl cu ge fa)) (gv_V cI cL ad f0 c0 f1 c1 f2 c2 lo up be si pl cu ge fa) := gv_D hD [0, 1, 2, 3, 4, 5, 6, 7, 8, 9, 10, 11, 12] (by decide) gs_VVB2
    refine gv_ki (wf := (fun (_ : Unit) => (gv_V cI cL ad f0 c0 f1 c1 f2 c2 lo up be si pl cu ge fa))) (wc := (gv_V cI cL ad f0 c0 f1 c1 f2 c2 lo up be si pl cu ge fa)) [0, 1, 2, 3, 4, 5, 6, 7, 8, 9, 10, 11, 12] (fun _ => rfl) hP hD hS rfl gs_VVB2 (va_runV (As := [.int 0, .int q81]) (rest := []) ⟨hx, hb, hml, hown, hts⟩ (kX1_look l dC dI cI cL ad f0 c0 f1 c1 f2 c2 lo up be si pl cu ge fa 0 0 (rfl : (0 : Int32) = nI 0) q81 j81 e81 (by omega) (by omega) (gv_in (gv_V cI cL ad f0 c0 f1 c1 f2 c2 lo up be si pl cu ge fa))) (cwV (rm := gv_R 3 65) 2 hts gL_law_X1_look rfl rfl rfl (by decide +kernel) ⟨Nat.le_of_ble_eq_true rfl, Nat.le_of_ble_eq_true rfl⟩) (gv_preV (ci := 1) hK hPc hDc hN rfl rfl) rfl rfl hl.1 rfl (lv_room (Nat.le_of_ble_eq_true rfl)) dL_law_90 ⟨lw_rc (by omega), lw_rs (by omega)⟩) (fun q90 u H locs hw hP hD hS => ?_)
    have e90 := hw
    have hP : va_P (dC, dI) vwCl (gl_L cI cL ad ag b0 f0 c0 f1 c1 f2 c2 lo up be si pl cu ge fa g0 d0 g1 d1 g2 d2 lp uq bg si pl cg gg fg bb) H := gp_VVB2 hP
    have hD : va_D (fun q : Nat => s.heap.size ≤ q) (gl_L cI cL ad ag b0 f0 c0 f1 c1 f2 c2 lo up be si pl cu ge fa g0 d0 g1 d1 g2 d2 lp uq bg si pl cg gg fg bb) := gq_VVB2 hD
    refine lv_bipush (v := 46) hx hb dL_law_93 (by decide) ?_
    refine lv_icmp_ne (tgt := 113) hx hb dL_law_95 (by decide) (fun cd95 => ?_) (fun cd95 => ?_)
    · refine lv_iinc (v := (nI (k + 1))) (lv' := [(6, .int (nI (k + 1))), (7, .int q81), (0, .ref b), (1, .ref (ad 0)), (2, .ref (ag 0)), (3, .ref b0), (5, .int 1)]) hx hb dL_law_113 hl (k := 6) rfl (nI_1 k) (by decide) rfl (fun ls hl => ?_)
      refine lv_goto (tgt := 68) hx hb dL_law_116 (by decide) ?_
      exact ih f0 c0 f1 c1 f2 c2 lo up be si pl cu ge fa g0 d0 g1 d1 g2 d2 lp uq bg cg gg fg bb _ _ _ hJ ⟨p0, hp1, by omega⟩ hP hD hS (lv_sub hl [2, 3, 4, 5, 6, 0] rfl)
    · refine lv_aload_n hx hb dL_law_98 rfl (lv_at hl 2 rfl) ?_
      refine lv_iload hx hb dL_law_99 (lv_at hl 0 rfl) ?_
      have hPc : va_P (dC, dI) vwCl (gv_V cI cL ad f0 c0 f1 c1 f2 c2 lo up be si pl cu ge fa) H := gv_sub [0, 1, 2, 3, 4, 5, 6, 7, 8, 9, 10, 11, 12] hP gs_VVB2
      have hDc : va_D (gv_in (gv_V cI cL ad f0 c0 f1 c1 f2 c2 lo up be si pl cu ge fa)) (gv_V cI cL ad f0 c0 f1 c1 f2 c2 lo up be si pl cu ge fa) := gv_D hD [0, 1, 2, 3, 4, 5, 6, 7, 8, 9, 10, 11, 12] (by decide) gs_VVB2
      refine gv_kv (wf := (fun (u : (Nat → Int32) × (Int32)) => (gv_V cI cL ad u.1 c0 f1 c1 f2 c2 lo up be si u.2 cu ge fa))) (wc := (gv_V cI cL ad f0 c0 f1 c1 f2 c2 lo up be si pl cu ge fa)) [0, 1, 2, 3, 4, 5, 6, 7, 8, 9, 10, 11, 12] (fun _ => rfl) hP hD hS rfl gs_VVB2 (va_runV (As := [.int q81]) (rest := []) ⟨hx, hb, hml, hown, hts⟩ (kX1_plant l dC dI cI cL ad f0 c0 f1 c1 f2 c2 lo up be si pl cu ge fa q81 j81 e81 hj81 (sj_bare hJ hj81 e90 cd95).1 (by rw [hp1]; exact nI_lt (b := 4) (by omega) (by decide)) (gv_in (gv_V cI cL ad f0 c0 f1 c1 f2 c2 lo up be si pl cu ge fa))) (cwV (rm := gv_R 3 65) 1 hts gL_law_X1_plant rfl rfl rfl (by decide +kernel) ⟨Nat.le_of_ble_eq_true rfl, Nat.le_of_ble_eq_true rfl⟩) (gv_preV (ci := 1) hK hPc hDc hN rfl rfl) rfl rfl hl.1 rfl (lv_room (Nat.le_of_ble_eq_true rfl)) dL_law_101 ⟨lw_rc (by omega), lw_rs (by omega)⟩) (fun u H locs hw hP hD hS => ?_)
      obtain ⟨f0_q101, pl_q101⟩ := u
      have e101 := hw
      have hP : va_P (dC, dI) vwCl (gl_L cI cL ad ag b0 f0_q101 c0 f1 c1 f2 c2 lo up be si pl_q101 cu ge fa g0 d0 g1 d1 g2 d2 lp uq bg si pl cg gg fg bb) H := gp_VVB2 hP
      have hD : va_D (fun q : Nat => s.heap.size ≤ q) (gl_L cI cL ad ag b0 f0_q101 c0 f1 c1 f2 c2 lo up be si pl_q101 cu ge fa g0 d0 g1 d1 g2 d2 lp uq bg si pl cg gg fg bb) := gq_VVB2 hD
      refine lv_aload_n hx hb dL_law_104 rfl (lv_at hl 3 rfl) ?_
      refine lv_bipush (v := 11) hx hb dL_law_105 (by decide) ?_
      refine lv_iload hx hb dL_law_107 (lv_at hl 0 rfl) ?_
      refine lv_isub hx hb dL_law_109 ?_
      have hPc : va_P (dC, dI) vwCl (gv_V cI cL ag g0 d0 g1 d1 g2 d2 lp uq bg si pl cg gg fg) H := gv_sub [13, 14, 15, 16, 17, 18, 19, 20, 21, 22, 23, 24, 25] hP gs_VVB3
      have hDc : va_D (gv_in (gv_V cI cL ag g0 d0 g1 d1 g2 d2 lp uq bg si pl cg gg fg)) (gv_V cI cL ag g0 d0 g1 d1 g2 d2 lp uq bg si pl cg gg fg) := gv_D hD [13, 14, 15, 16, 17, 18, 19, 20, 21, 22, 23, 24, 25] (by decide) gs_VVB3
      refine gv_kv (wf := (fun (u : (Nat → Int32) × (Int32)) => (gv_V cI cL ag u.1 d0 g1 d1 g2 d2 lp uq bg si u.2 cg gg fg))) (wc := (gv_V cI cL ag g0 d0 g1 d1 g2 d2 lp uq bg si pl cg gg fg)) [13, 14, 15, 16, 17, 18, 19, 20, 21, 22, 23, 24, 25] (fun _ => rfl) hP hD hS rfl gs_VVB3 (va_runV (As := [.int (11 - q81)]) (rest := []) ⟨hx, hb, hml, hown, hts⟩ (kX1_plant l dC dI cI cL ag g0 d0 g1 d1 g2 d2 lp uq bg si pl cg gg fg (11 - q81) (11 - j81) (gn_sub (rfl : (11 : Int32) = nI 11) e81 (by omega)) (by omega) (sj_bare hJ hj81 e90 cd95).2 (by rw [hp1]; exact nI_lt (b := 4) (by omega) (by decide)) (gv_in (gv_V cI cL ag g0 d0 g1 d1 g2 d2 lp uq bg si pl cg gg fg))) (cwV (rm := gv_R 3 65) 1 hts gL_law_X1_plant rfl rfl rfl (by decide +kernel) ⟨Nat.le_of_ble_eq_true rfl, Nat.le_of_ble_eq_true rfl⟩) (gv_preV (ci := 1) hK hPc hDc hN rfl rfl) rfl rfl hl.1 rfl (lv_room (Nat.le_of_ble_eq_true rfl)) dL_law_110 ⟨lw_rc (by omega), lw_rs (by omega)⟩) (fun u H locs hw hP hD hS => ?_)
      obtain ⟨g0_q110, pg_q110⟩ := u
      have e110 := hw
      have hP : va_P (dC, dI) vwCl (gl_L cI cL ad ag b0 f0_q101 c0 f1 c1 f2 c2 lo up be si pl_q101 cu ge fa g0_q110 d0 g1 d1 g2 d2 lp uq bg si pg_q110 cg gg fg bb) H := gp_VVB3 hP
      have hD : va_D (fun q : Nat => s.heap.size ≤ q) (gl_L cI cL ad ag b0 f0_q101 c0 f1 c1 f2 c2 lo up be si pl_q101 cu ge fa g0_q110 d0 g1 d1 g2 d2 lp uq bg si pg_q110 cg gg fg bb) := gq_VVB3 hD
      obtain ⟨hJ2, y1, y2⟩ := sj_plant hJ hj81 e101 e110
      rw [y2] at hP hD
      refine lv_iinc (v := (nI (k + 1))) (lv' := [(6, .int (nI (k + 1))), (7, .int q81), (0, .ref b), (1, .ref (ad 0)), (2, .ref (ag 0)), (3, .ref b0), (5, .int 1)]) hx hb dL_law_113 hl (k := 6) rfl (nI_1 k) (by decide) rfl (fun ls hl => ?_)
      refine lv_goto (tgt := 68) hx hb dL_law_116 (by decide) ?_
      exact ih f0_q101 c0 f1 c1 f2 c2 lo up be si pl_q101 cu ge fa g0_q110 d0 g1 d1 g2 d2 lp uq bg cg gg fg bb _ _ _ hJ2 ⟨p0 + 1, by rw [y1, hp1, nI_1], by omega⟩ hP hD hS (lv_sub hl [2, 3, 4, 5, 6, 0] rfl)
set_option maxHeartbeats 40000000 in
set_option maxRecDepth 100000 in
theorem lw_bears {p : Program} {l : Launch} {e : Env} {s : State} {m : MethodId} {below : List Frame} {meth : Method} {c : Code} {b L : Nat} {xs : Nat → Int32} {dC : Nat → ClassId} {dI : Nat → Nat → Nat} {cI cL : ClassId} {ad ag : Nat → Nat} {b0 : Nat} (C0 : lw_C p l s m c b L xs dC dI cI cL) (hr : meth.sig.returnType = ret) (hlocks : meth.locks = false) {be bg : Nat → Int32} (hbe : ∀ k, k < 12 → be k = 5) (hbg : ∀ k, k < 12 → bg k = 5) : ∀ (n i : Nat), i + n = 12 → ∀ (bb : Nat → Int32) (H : Heap) (locs : List Loc) (ls : Array Slot), (∀ k, k < i → bb k = 5) → va_P (dC, dI) vwCl (gl_L cI cL ad ag b0 (fun _ => 0) (fun _ => 0) (fun _ => 0) (fun _ => 0) (fun _ => 0) (fun _ => 0) (fun _ => 0) (fun _ => 0) be 0 0 0 0 0 (fun _ => 0) (fun _ => 0) (fun _ => 0) (fun _ => 0) (fun _ => 0) (fun _ => 0) (fun _ => 0) (fun _ => 0) bg 0 0 0 0 0 bb) H → va_D (fun q : Nat => s.heap.size ≤ q) (gl_L cI cL ad ag b0 (fun _ => 0) (fun _ => 0) (fun _ => 0) (fun _ => 0) (fun _ => 0) (fun _ => 0) (fun _ => 0) (fun _ => 0) be 0 0 0 0 0 (fun _ => 0) (fun _ => 0) (fun _ => 0) (fun _ => 0) (fun _ => 0) (fun _ => 0) (fun _ => 0) (fun _ => 0) bg 0 0 0 0 0 bb) → va_S (fun q : Nat => s.heap.size ≤ q) s.heap H locs → lv_has ls 14 [(0, .ref b), (1, .ref (ad 0)), (2, .ref (ag 0)), (3, .ref b0), (4, .int (nI i))] → W p l e room_1 s m #[Value.ref b] below meth c H locs (27 + 2 * 0) (410 + 12 * 0) (lw_Z below #[Value.ref b] s) (F0 m 24 ls [])
  | 0, i, hi => by
    obtain rfl : i = 12 := by omega
    obtain ⟨hx, hb, hml, hown, hts, hX, hbl, hK, hN, hT, hst, hL⟩ := id C0
    have hbA : ¬ (fun q : Nat => s.heap.size ≤ q) b := Nat.not_le.mpr hbl
    intro bb H locs ls hbb hP hD hS hl
    have hl : lv_has ls 14 [(0, .ref b), (1, .ref (ad 0)), (2, .ref (ag 0)), (3, .ref b0), (4, .int (nI 12))] := hl
    refine lv_iload hx hb dL_law_24 (lv_at hl 4 rfl) ?_
    refine lv_bipush (v := 12) hx hb dL_law_26 (by decide) ?_
    refine lv_icmp_ge (tgt := 42) hx hb dL_law_28 (by decide) (fun _ => ?_) (fun c => absurd (show (12 : Int32) ≤ nI 12 by decide) c)
    refine lv_aload_n hx hb dL_law_42 rfl (lv_at hl 0 rfl) ?_
    refine lv_iconst (v := 0) hx hb dL_law_43 (by decide) ?_
    refine lv_iconst (v := 3) hx hb dL_law_44 (by decide) ?_
    refine gv_ki (wf := (fun (_ : Unit) => ([] : va_W))) (wc := ([] : va_W)) [] (fun _ => rfl) hP hD hS rfl rfl (va_runS (As := [.ref b, .int 0, .int 3]) (rest := []) ⟨hx, hb, hml, hown, hts⟩ (kL_drawn l dC dI b L xs 0 0 (rfl : (0 : Int32) = nI 0) 3 3 (rfl : (3 : Int32) = nI 3) (by omega) hL (by decide) (gv_in ([] : va_W)) (by simp [gv_in])) (va_cwS (rm := gv_R 0 0) 3 hts gL_law_L_drawn rfl rfl rfl (by decide +kernel) ⟨Nat.le_of_ble_eq_true rfl, Nat.le_of_ble_eq_true rfl⟩) (gd_pre hX hbl hbA hS) rfl rfl hl.1 rfl (lv_room (Nat.le_of_ble_eq_true rfl)) dL_law_45 ⟨lw_rc (by omega), lw_rs (by omega)⟩) (fun q45 u H locs hw hP hD hS => ?_)
    have hP : va_P (dC, dI) vwCl (gl_L cI cL ad ag b0 (fun _ => 0) (fun _ => 0) (fun _ => 0) (fun _ => 0) (fun _ => 0) (fun _ => 0) (fun _ => 0) (fun _ => 0) be 0 0 0 0 0 (fun _ => 0) (fun _ => 0) (fun _ => 0) (fun _ => 0) (fun _ => 0) (fun _ => 0) (fun _ => 0) (fun _ => 0) bg 0 0 0 0 0 bb) H := hP
    have hD : va_D (fun q : Nat => s.heap.size ≤ q) (gl_L cI cL ad ag b0 (fun _ => 0) (fun _ => 0) (fun _ => 0) (fun _ => 0) (fun _ => 0) (fun _ => 0) (fun _ => 0) (fun _ => 0) be 0 0 0 0 0 (fun _ => 0) (fun _ => 0) (fun _ => 0) (fun _ => 0) (fun _ => 0) (fun _ => 0) (fun _ => 0) (fun _ => 0) bg 0 0 0 0 0 bb) := hD
    obtain ⟨j45, hj45, e45⟩ := hw
    refine lv_istore (lv' := [(4, .int q45), (0, .ref b), (1, .ref (ad 0)), (2, .ref (ag 0)), (3, .ref b0)]) hx hb dL_law_48 hl (by decide) rfl (fun ls hl => ?_)
    refine lv_aload_n hx hb dL_law_50 rfl (lv_at hl 2 rfl) ?_
    refine lv_iload hx hb dL_law_51 (lv_at hl 0 rfl) ?_
    have hPc : va_P (dC, dI) vwCl (gv_V cI cL ad (fun _ => 0) (fun _ => 0) (fun _ => 0) (fun _ => 0) (fun _ => 0) (fun _ => 0) (fun _ => 0) (fun _ => 0) be 0 0 0 0 0) H := gv_sub [0, 1, 2, 3, 4, 5, 6, 7, 8, 9, 10, 11, 12] hP gs_VVB2
    have hDc : va_D (gv_in (gv_V cI cL ad (fun _ => 0) (fun _ => 0) (fun _ => 0) (fun _ => 0) (fun _ => 0) (fun _ => 0) (fun _ => 0) (fun _ => 0) be 0 0 0 0 0)) (gv_V cI cL ad (fun _ => 0) (fun _ => 0) (fun _ => 0) (fun _ => 0) (fun _ => 0) (fun _ => 0) (fun _ => 0) (fun _ => 0) be 0 0 0 0 0) := gv_D hD [0, 1, 2, 3, 4, 5, 6, 7, 8, 9, 10, 11, 12] (by decide) gs_VVB2
    refine gv_kv (wf := (fun (u : (Int32)) => (gv_V cI cL ad (fun _ => 0) (fun _ => 0) (fun _ => 0) (fun _ => 0) (fun _ => 0) (fun _ => 0) (fun _ => 0) (fun _ => 0) be u 0 0 0 0))) (wc := (gv_V cI cL ad (fun _ => 0) (fun _ => 0) (fun _ => 0) (fun _ => 0) (fun _ => 0) (fun _ => 0) (fun _ => 0) (fun _ => 0) be 0 0 0 0 0)) [0, 1, 2, 3, 4, 5, 6, 7, 8, 9, 10, 11, 12] (fun _ => rfl) hP hD hS rfl gs_VVB2 (va_runV (As := [.int q45]) (rest := []) ⟨hx, hb, hml, hown, hts⟩ (kX1_sides l dC dI cI cL ad (fun _ => 0) (fun _ => 0) (fun _ => 0) (fun _ => 0) (fun _ => 0) (fun _ => 0) (fun _ => 0) (fun _ => 0) be 0 0 0 0 0 q45 (sj_si hj45 e45) (by decide) (gv_in (gv_V cI cL ad (fun _ => 0) (fun _ => 0) (fun _ => 0) (fun _ => 0) (fun _ => 0) (fun _ => 0) (fun _ => 0) (fun _ => 0) be 0 0 0 0 0))) (cwV (rm := gv_R 0 0) 1 hts gL_law_X1_sides rfl rfl rfl (by decide +kernel) ⟨Nat.le_of_ble_eq_true rfl, Nat.le_of_ble_eq_true rfl⟩) (gv_preV (ci := 1) hK hPc hDc hN rfl rfl) rfl rfl hl.1 rfl (lv_room (Nat.le_of_ble_eq_true rfl)) dL_law_53 ⟨lw_rc (by omega), lw_rs (by omega)⟩) (fun u H locs hw hP hD hS => ?_)
    obtain ⟨si_q53, rfl⟩ : ∃ z, z = u := ⟨_, rfl⟩
    have e53 := hw
    have hP : va_P (dC, dI) vwCl (gl_L cI cL ad ag b0 (fun _ => 0) (fun _ => 0) (fun _ => 0) (fun _ => 0) (fun _ => 0) (fun _ => 0) (fun _ => 0) (fun _ => 0) be si_q53 0 0 0 0 (fun _ => 0) (fun _ => 0) (fun _ => 0) (fun _ => 0) (fun _ => 0) (fun _ => 0) (fun _ => 0) (fun _ => 0) bg 0 0 0 0 0 bb) H := gp_VVB2 hP
    have hD : va_D (fun q : Nat => s.heap.size ≤ q) (gl_L cI cL ad ag b0 (fun _ => 0) (fun _ => 0) (fun _ => 0) (fun _ => 0) (fun _ => 0) (fun _ => 0) (fun _ => 0) (fun _ => 0) be si_q53 0 0 0 0 (fun _ => 0) (fun _ => 0) (fun _ => 0) (fun _ => 0) (fun _ => 0) (fun _ => 0) (fun _ => 0) (fun _ => 0) bg 0 0 0 0 0 bb) := gq_VVB2 hD
    refine lv_aload_n hx hb dL_law_56 rfl (lv_at hl 3 rfl) ?_
    refine lv_iload hx hb dL_law_57 (lv_at hl 0 rfl) ?_
    have hPc : va_P (dC, dI) vwCl (gv_V cI cL ag (fun _ => 0) (fun _ => 0) (fun _ => 0) (fun _ => 0) (fun _ => 0) (fun _ => 0) (fun _ => 0) (fun _ => 0) bg 0 0 0 0 0) H := gv_sub [13, 14, 15, 16, 17, 18, 19, 20, 21, 22, 23, 24, 25] hP gs_VVB3
    have hDc : va_D (gv_in (gv_V cI cL ag (fun _ => 0) (fun _ => 0) (fun _ => 0) (fun _ => 0) (fun _ => 0) (fun _ => 0) (fun _ => 0) (fun _ => 0) bg 0 0 0 0 0)) (gv_V cI cL ag (fun _ => 0) (fun _ => 0) (fun _ => 0) (fun _ => 0) (fun _ => 0) (fun _ => 0) (fun _ => 0) (fun _ => 0) bg 0 0 0 0 0) := gv_D hD [13, 14, 15, 16, 17, 18, 19, 20, 21, 22, 23, 24, 25] (by decide) gs_VVB3
    refine gv_kv (wf := (fun (u : (Int32)) => (gv_V cI cL ag (fun _ => 0) (fun _ => 0) (fun _ => 0) (fun _ => 0) (fun _ => 0) (fun _ => 0) (fun _ => 0) (fun _ => 0) bg u 0 0 0 0))) (wc := (gv_V cI cL ag (fun _ => 0) (fun _ => 0) (fun _ => 0) (fun _ => 0) (fun _ => 0) (fun _ => 0) (fun _ => 0) (fun _ => 0) bg 0 0 0 0 0)) [13, 14, 15, 16, 17, 18, 19, 20, 21, 22, 23, 24, 25] (fun _ => rfl) hP hD hS rfl gs_VVB3 (va_runV (As := [.int q45]) (rest := []) ⟨hx, hb, hml, hown, hts⟩ (kX1_sides l dC dI cI cL ag (fun _ => 0) (fun _ => 0) (fun _ => 0) (fun _ => 0) (fun _ => 0) (fun _ => 0) (fun _ => 0) (fun _ => 0) bg 0 0 0 0 0 q45 (sj_si hj45 e45) (by decide) (gv_in (gv_V cI cL ag (fun _ => 0) (fun _ => 0) (fun _ => 0) (fun _ => 0) (fun _ => 0) (fun _ => 0) (fun _ => 0) (fun _ => 0) bg 0 0 0 0 0))) (cwV (rm := gv_R 0 0) 1 hts gL_law_X1_sides rfl rfl rfl (by decide +kernel) ⟨Nat.le_of_ble_eq_true rfl, Nat.le_of_ble_eq_true rfl⟩) (gv_preV (ci := 1) hK hPc hDc hN rfl rfl) rfl rfl hl.1 rfl (lv_room (Nat.le_of_ble_eq_true rfl)) dL_law_59 ⟨lw_rc (by omega), lw_rs (by omega)⟩) (fun u H locs hw hP hD hS => ?_)
    obtain ⟨sg_q59, rfl⟩ : ∃ z, z = u := ⟨_, rfl⟩
    have e59 := hw
    have hP : va_P (dC, dI) vwCl (gl_L cI cL ad ag b0 (fun _ => 0) (fun _ => 0) (fun _ => 0) (fun _ => 0) (fun _ => 0) (fun _ => 0) (fun _ => 0) (fun _ => 0) be si_q53 0 0 0 0 (fun _ => 0) (fun _ => 0) (fun _ => 0) (fun _ => 0) (fun _ => 0) (fun _ => 0) (fun _ => 0) (fun _ => 0) bg sg_q59 0 0 0 0 bb) H := gp_VVB3 hP
    have hD : va_D (fun q : Nat => s.heap.size ≤ q) (gl_L cI cL ad ag b0 (fun _ => 0) (fun _ => 0) (fun _ => 0) (fun _ => 0) (fun _ => 0) (fun _ => 0) (fun _ => 0) (fun _ => 0) be si_q53 0 0 0 0 (fun _ => 0) (fun _ => 0) (fun _ => 0) (fun _ => 0) (fun _ => 0) (fun _ => 0) (fun _ => 0) (fun _ => 0) bg sg_q59 0 0 0 0 bb) := gq_VVB3 hD
    have y2 : sg_q59 = si_q53 := e59.trans e53.symm
    rw [y2] at hP hD
    refine lv_iconst (v := 1) hx hb dL_law_62 (by decide) ?_
    refine lv_istore (lv' := [(5, .int 1), (4, .int q45), (0, .ref b), (1, .ref (ad 0)), (2, .ref (ag 0)), (3, .ref b0)]) hx hb dL_law_63 hl (by decide) rfl (fun ls hl => ?_)
    refine lv_iconst (v := 0) hx hb dL_law_65 (by decide) ?_
    refine lv_istore (lv' := [(6, .int 0), (5, .int 1), (4, .int q45), (0, .ref b), (1, .ref (ad 0)), (2, .ref (ag 0)), (3, .ref b0)]) hx hb dL_law_66 hl (by decide) rfl (fun ls hl => ?_)
    have hl : lv_has ls 14 [(6, .int (nI 0)), (5, .int 1), (4, .int q45), (0, .ref b), (1, .ref (ad 0)), (2, .ref (ag 0)), (3, .ref b0)] := hl
    exact lw_plant C0 hr hlocks 4 0 rfl (fun _ => 0) (fun _ => 0) (fun _ => 0) (fun _ => 0) (fun _ => 0) (fun _ => 0) (fun _ => 0) (fun _ => 0) be si_q53 0 0 0 0 (fun _ => 0) (fun _ => 0) (fun _ => 0) (fun _ => 0) (fun _ => 0) (fun _ => 0) (fun _ => 0) (fun _ => 0) bg 0 0 0 bb _ _ _ (sj_start hbe hbg hbb) ⟨0, rfl, Nat.le_refl 0⟩ hP hD hS (lv_sub hl [3, 4, 5, 6, 1, 0] rfl)
  | n + 1, i, hi => by
    have ih := lw_bears (e := e) (below := below) (meth := meth) (ad := ad) (ag := ag) (b0 := b0) C0 hr hlocks hbe hbg n (i + 1) (by omega)
    obtain ⟨hx, hb, hml, hown, hts, hX, hbl, hK, hN, hT, hst, hL⟩ := id C0
    have hbA : ¬ (fun q : Nat => s.heap.size ≤ q) b := Nat.not_le.mpr hbl
    intro bb H locs ls hbb hP hD hS hl
    have hl : lv_has ls 14 [(0, .ref b), (1, .ref (ad 0)), (2, .ref (ag 0)), (3, .ref b0), (4, .int (nI i))] := hl
    refine lv_iload hx hb dL_law_24 (lv_at hl 4 rfl) ?_
    refine lv_bipush (v := 12) hx hb dL_law_26 (by decide) ?_
    refine lv_icmp_ge (tgt := 42) hx hb dL_law_28 (by decide) (fun c => absurd c (show ¬ (12 : Int32) ≤ nI i from nI_ge (b := 12) (by omega) (by decide))) (fun _ => ?_)
    refine lv_aload_n hx hb dL_law_31 rfl (lv_at hl 3 rfl) ?_
    refine lv_iload hx hb dL_law_32 (lv_at hl 4 rfl) ?_
    refine lv_iconst (v := 5) hx hb dL_law_34 (by decide) ?_
    refine gv_iast (cA := cI) (k := i) hx hb hK hP hD hS 26 0 rfl rfl rfl (by omega) (by decide) dL_law_35 (fun H locs hP hD hS => ?_)
    have hP : va_P (dC, dI) vwCl (gl_L cI cL ad ag b0 (fun _ => 0) (fun _ => 0) (fun _ => 0) (fun _ => 0) (fun _ => 0) (fun _ => 0) (fun _ => 0) (fun _ => 0) be 0 0 0 0 0 (fun _ => 0) (fun _ => 0) (fun _ => 0) (fun _ => 0) (fun _ => 0) (fun _ => 0) (fun _ => 0) (fun _ => 0) bg 0 0 0 0 0 (upd bb i 5)) H := hP
    have hD : va_D (fun q : Nat => s.heap.size ≤ q) (gl_L cI cL ad ag b0 (fun _ => 0) (fun _ => 0) (fun _ => 0) (fun _ => 0) (fun _ => 0) (fun _ => 0) (fun _ => 0) (fun _ => 0) be 0 0 0 0 0 (fun _ => 0) (fun _ => 0) (fun _ => 0) (fun _ => 0) (fun _ => 0) (fun _ => 0) (fun _ => 0) (fun _ => 0) bg 0 0 0 0 0 (upd bb i 5)) := hD
    refine lv_iinc (v := (nI (i + 1))) (lv' := [(4, .int (nI (i + 1))), (0, .ref b), (1, .ref (ad 0)), (2, .ref (ag 0)), (3, .ref b0)]) hx hb dL_law_36 hl (k := 4) rfl (nI_1 i) (by decide) rfl (fun ls hl => ?_)
    refine lv_goto (tgt := 24) hx hb dL_law_39 (by decide) ?_
    exact ih (upd bb i 5) _ _ _ (fun k hk => gz_fill hbb hk) hP hD hS (lv_sub hl [1, 2, 3, 4, 0] rfl)
