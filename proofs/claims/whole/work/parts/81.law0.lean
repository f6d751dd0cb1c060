/-! The law's body: one call of each kind. -/
abbrev lw_W (cI cL : ClassId) (ad am : Nat → Nat) (oa : Nat) (f0 c0 f1 c1 f2 c2 : Nat → Int32) (lo up : Nat → Int64) (be : Nat → Int32) (si pl cu ge fa : Int32) (ou : Nat → Int64) (g bm : Nat → Int32) (sim gem cum plm brm th : Int32) : va_W := gw_V cI cL ad oa f0 c0 f1 c1 f2 c2 lo up be si pl cu ge fa ou ++ gv_M cI am g bm sim gem cum plm brm th
theorem lw_rc {x : Nat} (h : x ≤ 1051) : x ≤ room_1.cells := h
theorem lw_rs {x : Nat} (h : x ≤ 14424) : x ≤ room_1.slots := h
theorem lw_in1 {k L : Nat} (h : 3 * k + 3 ≤ L) (hL : L ≤ 1536) : vp_in (nI (3 * k) + 1) L := by
  rw [nI_1]; exact vp_in_nI (by omega) (by omega)
theorem lw_in2 {k L : Nat} (h : 3 * k + 3 ≤ L) (hL : L ≤ 1536) : vp_in (nI (3 * k) + 2) L := by
  show vp_in (nI (3 * k) + nI 2) L
  rw [nI_add]; exact vp_in_nI (by omega) (by omega)
def lw_J (p : Program) (l : Launch) (e : Env) (s : State) (m : MethodId) (below : List Frame) (meth : Method) (c : Code) (b : Nat) (dC : Nat → ClassId) (dI : Nat → Nat → Nat) (cI cL : ClassId) (ad am : Nat → Nat) (oa i k pc : Nat) : Prop :=
  ∀ (f0 c0 f1 c1 f2 c2 : Nat → Int32) (lo up : Nat → Int64) (be : Nat → Int32) (si pl cu ge fa : Int32) (ou : Nat → Int64) (g bm : Nat → Int32) (sim gem cum plm brm th : Int32) (H : Heap) (locs : List Loc) (ls : Array Slot), mR f0 c0 be si pl cu ge fa g bm sim gem cum plm brm → va_P (dC, dI) vwCl (lw_W cI cL ad am oa f0 c0 f1 c1 f2 c2 lo up be si pl cu ge fa ou g bm sim gem cum plm brm th) H → va_D (fun q : Nat => s.heap.size ≤ q) (lw_W cI cL ad am oa f0 c0 f1 c1 f2 c2 lo up be si pl cu ge fa ou g bm sim gem cum plm brm th) → va_S (fun q : Nat => s.heap.size ≤ q) s.heap H locs → lv_has ls 7 [(0, .ref b), (1, .ref (ad 0)), (2, .ref (am 0)), (3, .ref oa), (4, .int (nI (3 * i)))] → W p l e room_1 s m #[Value.ref b] below meth c H locs (17 + 2 * k) (6172 + 12 * k) (lw_Z below #[Value.ref b] s) (F0 m pc ls [])
def lw_C (p : Program) (l : Launch) (s : State) (m : MethodId) (c : Code) (b L : Nat) (xs : Nat → Int32) (dC : Nat → ClassId) (dI : Nat → Nat → Nat) (cI cL : ClassId) : Prop :=
  p.tables.exec = Jvm.exec ∧ c.code = cL_law ∧ c.maxLocals = 7 ∧ s.vm.findClass RL = some m.cls ∧ (∀ w ∈ wsL_law, w.before #[Value.ref b] s = true) ∧ va_X b L xs s s.heap ∧ b < s.heap.size ∧ va_K (dC, dI) vwCl [(cI, .int), (cL, .long)] s ∧ gv_N s ∧ gx_T (fun q : Nat => s.heap.size ≤ q) s s.heap ∧ l.stackTraces = false ∧ L ≤ 1536

set_option maxHeartbeats 4000000 in
set_option maxRecDepth 100000 in
theorem lw_c0 {p : Program} {l : Launch} {e : Env} {s : State} {m : MethodId} {below : List Frame} {meth : Method} {c : Code} {b L : Nat} {xs : Nat → Int32} {dC : Nat → ClassId} {dI : Nat → Nat → Nat} {cI cL : ClassId} {ad am : Nat → Nat} {oa k : Nat} (C0 : lw_C p l s m c b L xs dC dI cI cL) (hk : 3 * k + 3 ≤ L) (J : lw_J p l e s m below meth c b dC dI cI cL ad am oa k (k + 1) 823) : lw_J p l e s m below meth c b dC dI cI cL ad am oa k k 128 := by
  obtain ⟨hx, hb, hml, hown, hts, hX, hbl, hK, hN, hT, hst, hL⟩ := C0
  have hbA : ¬ (fun q : Nat => s.heap.size ≤ q) b := Nat.not_le.mpr hbl
  intro f0 c0 f1 c1 f2 c2 lo up be si pl cu ge fa ou g bm sim gem cum plm brm th H locs ls hR hP hD hS hl
  refine lv_aload_n hx hb dL_law_128 rfl (lv_at hl 1 rfl) ?_
  refine lv_aload_n hx hb dL_law_129 rfl (lv_at hl 0 rfl) ?_
  refine lv_iload hx hb dL_law_130 (lv_at hl 4 rfl) ?_
  refine lv_iconst (v := 1) hx hb dL_law_132 (by decide) ?_
  refine lv_iadd hx hb dL_law_133 ?_
  refine va_sld hx hb hX hbl hbA hS (lw_in1 hk hL) dL_law_134 ?_
  refine lv_topi (fun p1 ep1 => ?_)
  have hPc : va_P (dC, dI) vwCl (gv_V cI cL ad f0 c0 f1 c1 f2 c2 lo up be si pl cu ge fa) H := gv_sub [0, 1, 2, 3, 4, 5, 6, 7, 8, 9, 10, 11, 12] hP rfl
  have hDc : va_D (gv_in (gv_V cI cL ad f0 c0 f1 c1 f2 c2 lo up be si pl cu ge fa)) (gv_V cI cL ad f0 c0 f1 c1 f2 c2 lo up be si pl cu ge fa) := gv_D hD [0, 1, 2, 3, 4, 5, 6, 7, 8, 9, 10, 11, 12] (by decide) rfl
  have hXc : gx_T (gv_in (gv_V cI cL ad f0 c0 f1 c1 f2 c2 lo up be si pl cu ge fa)) s H := hT.to hS.2.1 (gv_inA hD [0, 1, 2, 3, 4, 5, 6, 7, 8, 9, 10, 11, 12] rfl)
  refine gw_ki (wf := (fun (u : (Int32)) => (gv_V cI cL ad f0 c0 f1 c1 f2 c2 lo up be u pl cu ge fa))) (wc := (gv_V cI cL ad f0 c0 f1 c1 f2 c2 lo up be si pl cu ge fa)) [0, 1, 2, 3, 4, 5, 6, 7, 8, 9, 10, 11, 12] (fun _ => rfl) hP hD hS rfl (vx_runSW (As := [.ref (ad 0), .int p1]) (rest := []) ⟨hx, hb, hml, hown, hts⟩ (kL_sides l hst dC dI cI cL ad f0 c0 f1 c1 f2 c2 lo up be si pl cu ge fa p1 (gv_in (gv_V cI cL ad f0 c0 f1 c1 f2 c2 lo up be si pl cu ge fa))) (vx_cwSW (rm := gx_R 7 1 103) 2 hts gL_law_L_sides rfl rfl rfl (by decide +kernel) ⟨(Nat.le_of_ble_eq_true rfl), (Nat.le_of_ble_eq_true rfl)⟩) (gx_preS hK hPc hDc hN hXc) rfl rfl hl.1 rfl (lv_room (Nat.le_of_ble_eq_true rfl)) dL_law_135 ⟨lw_rc (by omega), lw_rs (by omega)⟩) (fun kq u H locs hw hP hD hS => ?_)
  refine W.widen (k := 17 + 2 * (k + 1)) (n := 6172 + 12 * (k + 1)) (by omega) (by omega) ?_
  obtain ⟨k2, si2, e1, e2, hR2⟩ := ms_sides (f1 := f1) (c1 := c1) (f2 := f2) (c2 := c2) (lo := lo) (up := up) (th := th) (p1 := p1) hR
  have hw := (show (kq, u) = _ from hw).trans e1
  have hq : k2 = kq := (congrArg Prod.fst hw).symm
  subst hq
  have hu : si2 = u := (congrArg Prod.snd hw).symm
  subst hu
  clear hw
  have hP : va_P (dC, dI) vwCl (lw_W cI cL ad am oa f0 c0 f1 c1 f2 c2 lo up be si2 pl cu ge fa ou g bm sim gem cum plm brm th) H := hP
  have hD : va_D (fun q : Nat => s.heap.size ≤ q) (lw_W cI cL ad am oa f0 c0 f1 c1 f2 c2 lo up be si2 pl cu ge fa ou g bm sim gem cum plm brm th) := hD
  refine lv_istore (lv' := [(5, .int k2), (0, .ref b), (1, .ref (ad 0)), (2, .ref (am 0)), (3, .ref oa), (4, .int (nI (3 * k)))]) hx hb dL_law_138 hl (by decide) rfl (fun ls hl => ?_)
  refine lv_aload_n hx hb dL_law_140 rfl (lv_at hl 3 rfl) ?_
  refine lv_aload_n hx hb dL_law_141 rfl (lv_at hl 1 rfl) ?_
  refine lv_iload hx hb dL_law_142 (lv_at hl 5 rfl) ?_
  refine lv_iconst (v := 1) hx hb dL_law_144 (by decide) ?_
  refine lv_iadd hx hb dL_law_145 ?_
  refine va_sld hx hb hX hbl hbA hS (lw_in1 hk hL) dL_law_146 ?_
  refine lv_topi (fun pz1 ez1 => ?_)
  obtain rfl : p1 = pz1 := ep1.trans ez1.symm
  have hPc : va_P (dC, dI) vwCl (gv_M cI am g bm sim gem cum plm brm th) H := gv_sub [14, 15, 16] hP rfl
  have hDc : va_D (gv_in (gv_M cI am g bm sim gem cum plm brm th)) (gv_M cI am g bm sim gem cum plm brm th) := gv_D hD [14, 15, 16] (by decide) rfl
  refine gv_kv (wf := (fun (u : (Int32) × (Int32)) => (gv_M cI am g bm u.1 gem cum plm brm u.2))) (wc := (gv_M cI am g bm sim gem cum plm brm th)) [14, 15, 16] (fun _ => rfl) hP hD hS rfl rfl (va_runV (As := [.int p1]) (rest := []) ⟨hx, hb, hml, hown, hts⟩ (kX2_sides l dC dI cI cL am g bm sim gem cum plm brm th p1 (gv_in (gv_M cI am g bm sim gem cum plm brm th))) (cwV (rm := gv_R 0 0) 1 hts gL_law_X2_sides rfl rfl rfl (by decide +kernel) ⟨(Nat.le_of_ble_eq_true rfl), (Nat.le_of_ble_eq_true rfl)⟩) (gv_preV (ci := 2) hK hPc hDc hN rfl rfl) rfl rfl hl.1 rfl (lv_room (Nat.le_of_ble_eq_true rfl)) dL_law_147 ⟨lw_rc (by omega), lw_rs (by omega)⟩) (fun u H locs hw hP hD hS => ?_)
  have hu : u = (si2, k2) := (show u = _ from hw).trans e2
  subst hu
  clear hw
  have hP : va_P (dC, dI) vwCl (lw_W cI cL ad am oa f0 c0 f1 c1 f2 c2 lo up be si2 pl cu ge fa ou g bm si2 gem cum plm brm k2) H := hP
  have hD : va_D (fun q : Nat => s.heap.size ≤ q) (lw_W cI cL ad am oa f0 c0 f1 c1 f2 c2 lo up be si2 pl cu ge fa ou g bm si2 gem cum plm brm k2) := hD
  refine lv_aload_n hx hb dL_law_150 rfl (lv_at hl 3 rfl) ?_
  have hPc : va_P (dC, dI) vwCl (gv_M cI am g bm si2 gem cum plm brm k2) H := gv_sub [14, 15, 16] hP rfl
  have hDc : va_D (gv_in (gv_M cI am g bm si2 gem cum plm brm k2)) (gv_M cI am g bm si2 gem cum plm brm k2) := gv_D hD [14, 15, 16] (by decide) rfl
  refine gv_ki (wf := (fun (_ : Unit) => (gv_M cI am g bm si2 gem cum plm brm k2))) (wc := (gv_M cI am g bm si2 gem cum plm brm k2)) [14, 15, 16] (fun _ => rfl) hP hD hS rfl rfl (va_runV (As := []) (rest := []) ⟨hx, hb, hml, hown, hts⟩ (kX2_thrown l dC dI cI cL am g bm si2 gem cum plm brm k2 (gv_in (gv_M cI am g bm si2 gem cum plm brm k2))) (cwV (rm := gv_R 0 0) 0 hts gL_law_X2_thrown rfl rfl rfl (by decide +kernel) ⟨(Nat.le_of_ble_eq_true rfl), (Nat.le_of_ble_eq_true rfl)⟩) (gv_preV (ci := 2) hK hPc hDc hN rfl rfl) rfl rfl hl.1 rfl (lv_room (Nat.le_of_ble_eq_true rfl)) dL_law_151 ⟨lw_rc (by omega), lw_rs (by omega)⟩) (fun tq u H locs hw hP hD hS => ?_)
  have hq : k2 = tq := (show tq = k2 from hw).symm
  subst hq
  clear hw
  have hP : va_P (dC, dI) vwCl (lw_W cI cL ad am oa f0 c0 f1 c1 f2 c2 lo up be si2 pl cu ge fa ou g bm si2 gem cum plm brm k2) H := hP
  have hD : va_D (fun q : Nat => s.heap.size ≤ q) (lw_W cI cL ad am oa f0 c0 f1 c1 f2 c2 lo up be si2 pl cu ge fa ou g bm si2 gem cum plm brm k2) := hD
  refine lv_iload hx hb dL_law_154 (lv_at hl 0 rfl) ?_
  refine lv_icmp_eq (tgt := 161) hx hb dL_law_156 (by decide) (fun cd => ?_) (fun cd => ?_)
  · refine lv_goto (tgt := 823) hx hb dL_law_161 (by decide) ?_
    exact J f0 c0 f1 c1 f2 c2 lo up be si2 pl cu ge fa ou g bm si2 gem cum plm brm k2 H locs ls hR2 hP hD hS (lv_sub hl [1, 2, 3, 4, 5] rfl)
  · exact absurd rfl cd
set_option maxHeartbeats 4000000 in
set_option maxRecDepth 100000 in
theorem lw_c1 {p : Program} {l : Launch} {e : Env} {s : State} {m : MethodId} {below : List Frame} {meth : Method} {c : Code} {b L : Nat} {xs : Nat → Int32} {dC : Nat → ClassId} {dI : Nat → Nat → Nat} {cI cL : ClassId} {ad am : Nat → Nat} {oa k : Nat} (C0 : lw_C p l s m c b L xs dC dI cI cL) (hk : 3 * k + 3 ≤ L) (J : lw_J p l e s m below meth c b dC dI cI cL ad am oa k (k + 1) 823) : lw_J p l e s m below meth c b dC dI cI cL ad am oa k k 164 := by
  obtain ⟨hx, hb, hml, hown, hts, hX, hbl, hK, hN, hT, hst, hL⟩ := C0
  have hbA : ¬ (fun q : Nat => s.heap.size ≤ q) b := Nat.not_le.mpr hbl
  intro f0 c0 f1 c1 f2 c2 lo up be si pl cu ge fa ou g bm sim gem cum plm brm th H locs ls hR hP hD hS hl
  refine lv_aload_n hx hb dL_law_164 rfl (lv_at hl 1 rfl) ?_
  refine lv_aload_n hx hb dL_law_165 rfl (lv_at hl 0 rfl) ?_
  refine lv_iload hx hb dL_law_166 (lv_at hl 4 rfl) ?_
  refine lv_iconst (v := 1) hx hb dL_law_168 (by decide) ?_
  refine lv_iadd hx hb dL_law_169 ?_
  refine va_sld hx hb hX hbl hbA hS (lw_in1 hk hL) dL_law_170 ?_
  refine lv_topi (fun p1 ep1 => ?_)
  have hPc : va_P (dC, dI) vwCl (gv_V cI cL ad f0 c0 f1 c1 f2 c2 lo up be si pl cu ge fa) H := gv_sub [0, 1, 2, 3, 4, 5, 6, 7, 8, 9, 10, 11, 12] hP rfl
  have hDc : va_D (gv_in (gv_V cI cL ad f0 c0 f1 c1 f2 c2 lo up be si pl cu ge fa)) (gv_V cI cL ad f0 c0 f1 c1 f2 c2 lo up be si pl cu ge fa) := gv_D hD [0, 1, 2, 3, 4, 5, 6, 7, 8, 9, 10, 11, 12] (by decide) rfl
  have hXc : gx_T (gv_in (gv_V cI cL ad f0 c0 f1 c1 f2 c2 lo up be si pl cu ge fa)) s H := hT.to hS.2.1 (gv_inA hD [0, 1, 2, 3, 4, 5, 6, 7, 8, 9, 10, 11, 12] rfl)
  refine gw_ki (wf := (fun (u : (Nat → Int32) × (Int32)) => (gv_V cI cL ad u.1 c0 f1 c1 f2 c2 lo up be si u.2 cu ge fa))) (wc := (gv_V cI cL ad f0 c0 f1 c1 f2 c2 lo up be si pl cu ge fa)) [0, 1, 2, 3, 4, 5, 6, 7, 8, 9, 10, 11, 12] (fun _ => rfl) hP hD hS rfl (vx_runSW (As := [.ref (ad 0), .int p1]) (rest := []) ⟨hx, hb, hml, hown, hts⟩ (kL_plant l hst dC dI cI cL ad f0 c0 f1 c1 f2 c2 lo up be si pl cu ge fa p1 (gv_in (gv_V cI cL ad f0 c0 f1 c1 f2 c2 lo up be si pl cu ge fa))) (vx_cwSW (rm := gx_R 8 2 123) 2 hts gL_law_L_plant rfl rfl rfl (by decide +kernel) ⟨(Nat.le_of_ble_eq_true rfl), (Nat.le_of_ble_eq_true rfl)⟩) (gx_preS hK hPc hDc hN hXc) rfl rfl hl.1 rfl (lv_room (Nat.le_of_ble_eq_true rfl)) dL_law_171 ⟨lw_rc (by omega), lw_rs (by omega)⟩) (fun kq u H locs hw hP hD hS => ?_)
  refine W.widen (k := 17 + 2 * (k + 1)) (n := 6172 + 12 * (k + 1)) (by omega) (by omega) ?_
  obtain ⟨k2, f2z, g2, p2z, e1, e2, hR2⟩ := ms_plant (f1 := f1) (c1 := c1) (f2 := f2) (c2 := c2) (lo := lo) (up := up) (th := th) (p1 := p1) hR
  have hw := (show (kq, u) = _ from hw).trans e1
  have hq : k2 = kq := (congrArg Prod.fst hw).symm
  subst hq
  have hu : u = (f2z, p2z) := congrArg Prod.snd hw
  subst hu
  clear hw
  have hP : va_P (dC, dI) vwCl (lw_W cI cL ad am oa f2z c0 f1 c1 f2 c2 lo up be si p2z cu ge fa ou g bm sim gem cum plm brm th) H := hP
  have hD : va_D (fun q : Nat => s.heap.size ≤ q) (lw_W cI cL ad am oa f2z c0 f1 c1 f2 c2 lo up be si p2z cu ge fa ou g bm sim gem cum plm brm th) := hD
  refine lv_istore (lv' := [(5, .int k2), (0, .ref b), (1, .ref (ad 0)), (2, .ref (am 0)), (3, .ref oa), (4, .int (nI (3 * k)))]) hx hb dL_law_174 hl (by decide) rfl (fun ls hl => ?_)
  refine lv_aload_n hx hb dL_law_176 rfl (lv_at hl 3 rfl) ?_
  refine lv_aload_n hx hb dL_law_177 rfl (lv_at hl 1 rfl) ?_
  refine lv_iload hx hb dL_law_178 (lv_at hl 5 rfl) ?_
  refine lv_iconst (v := 1) hx hb dL_law_180 (by decide) ?_
  refine lv_iadd hx hb dL_law_181 ?_
  refine va_sld hx hb hX hbl hbA hS (lw_in1 hk hL) dL_law_182 ?_
  refine lv_topi (fun pz1 ez1 => ?_)
  obtain rfl : p1 = pz1 := ep1.trans ez1.symm
  have hPc : va_P (dC, dI) vwCl (gv_M cI am g bm sim gem cum plm brm th) H := gv_sub [14, 15, 16] hP rfl
  have hDc : va_D (gv_in (gv_M cI am g bm sim gem cum plm brm th)) (gv_M cI am g bm sim gem cum plm brm th) := gv_D hD [14, 15, 16] (by decide) rfl
  refine gv_kv (wf := (fun (u : (Nat → Int32) × (Int32) × (Int32)) => (gv_M cI am u.1 bm sim gem cum u.2.1 brm u.2.2))) (wc := (gv_M cI am g bm sim gem cum plm brm th)) [14, 15, 16] (fun _ => rfl) hP hD hS rfl rfl (va_runV (As := [.int p1]) (rest := []) ⟨hx, hb, hml, hown, hts⟩ (kX2_plant l dC dI cI cL am g bm sim gem cum plm brm th p1 (gv_in (gv_M cI am g bm sim gem cum plm brm th))) (cwV (rm := gv_R 1 20) 1 hts gL_law_X2_plant rfl rfl rfl (by decide +kernel) ⟨(Nat.le_of_ble_eq_true rfl), (Nat.le_of_ble_eq_true rfl)⟩) (gv_preV (ci := 2) hK hPc hDc hN rfl rfl) rfl rfl hl.1 rfl (lv_room (Nat.le_of_ble_eq_true rfl)) dL_law_183 ⟨lw_rc (by omega), lw_rs (by omega)⟩) (fun u H locs hw hP hD hS => ?_)
  have hu : u = (g2, p2z, k2) := (show u = _ from hw).trans e2
  subst hu
  clear hw
  have hP : va_P (dC, dI) vwCl (lw_W cI cL ad am oa f2z c0 f1 c1 f2 c2 lo up be si p2z cu ge fa ou g2 bm sim gem cum p2z brm k2) H := hP
  have hD : va_D (fun q : Nat => s.heap.size ≤ q) (lw_W cI cL ad am oa f2z c0 f1 c1 f2 c2 lo up be si p2z cu ge fa ou g2 bm sim gem cum p2z brm k2) := hD
  refine lv_aload_n hx hb dL_law_186 rfl (lv_at hl 3 rfl) ?_
  have hPc : va_P (dC, dI) vwCl (gv_M cI am g2 bm sim gem cum p2z brm k2) H := gv_sub [14, 15, 16] hP rfl
  have hDc : va_D (gv_in (gv_M cI am g2 bm sim gem cum p2z brm k2)) (gv_M cI am g2 bm sim gem cum p2z brm k2) := gv_D hD [14, 15, 16] (by decide) rfl
  refine gv_ki (wf := (fun (_ : Unit) => (gv_M cI am g2 bm sim gem cum p2z brm k2))) (wc := (gv_M cI am g2 bm sim gem cum p2z brm k2)) [14, 15, 16] (fun _ => rfl) hP hD hS rfl rfl (va_runV (As := []) (rest := []) ⟨hx, hb, hml, hown, hts⟩ (kX2_thrown l dC dI cI cL am g2 bm sim gem cum p2z brm k2 (gv_in (gv_M cI am g2 bm sim gem cum p2z brm k2))) (cwV (rm := gv_R 0 0) 0 hts gL_law_X2_thrown rfl rfl rfl (by decide +kernel) ⟨(Nat.le_of_ble_eq_true rfl), (Nat.le_of_ble_eq_true rfl)⟩) (gv_preV (ci := 2) hK hPc hDc hN rfl rfl) rfl rfl hl.1 rfl (lv_room (Nat.le_of_ble_eq_true rfl)) dL_law_187 ⟨lw_rc (by omega), lw_rs (by omega)⟩) (fun tq u H locs hw hP hD hS => ?_)
  have hq : k2 = tq := (show tq = k2 from hw).symm
  subst hq
  clear hw
  have hP : va_P (dC, dI) vwCl (lw_W cI cL ad am oa f2z c0 f1 c1 f2 c2 lo up be si p2z cu ge fa ou g2 bm sim gem cum p2z brm k2) H := hP
  have hD : va_D (fun q : Nat => s.heap.size ≤ q) (lw_W cI cL ad am oa f2z c0 f1 c1 f2 c2 lo up be si p2z cu ge fa ou g2 bm sim gem cum p2z brm k2) := hD
  refine lv_iload hx hb dL_law_190 (lv_at hl 0 rfl) ?_
  refine lv_icmp_eq (tgt := 197) hx hb dL_law_192 (by decide) (fun cd => ?_) (fun cd => ?_)
  · refine lv_goto (tgt := 823) hx hb dL_law_197 (by decide) ?_
    exact J f2z c0 f1 c1 f2 c2 lo up be si p2z cu ge fa ou g2 bm sim gem cum p2z brm k2 H locs ls hR2 hP hD hS (lv_sub hl [1, 2, 3, 4, 5] rfl)
  · exact absurd rfl cd
