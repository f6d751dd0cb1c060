/-! The law's own methods with a table: a standard contract; what they answer. -/
def gw_b {α β : Type} (a : String ⊕ α) (kx : String → β) (k : α → β) : β := match a with
  | .inl E => kx E
  | .inr u => k u
theorem gw_l {α β : Type} {E : String} {a : String ⊕ α} {kx : String → β} {k : α → β} {r : β} (h : .inl E = a) (e : gw_b a kx k = r) : kx E = r := by subst h; exact e
theorem gw_r {α β : Type} {u : α} {a : String ⊕ α} {kx : String → β} {k : α → β} {r : β} (h : .inr u = a) (e : gw_b a kx k = r) : k u = r := by subst h; exact e
def gw_M (l : Launch) (y : MethodName) (wsy : List Cond) (fr mc lo : Nat) (D : va_G) (tys : List (ClassId × FieldType)) (av : List Value) (wc : va_W) {S : Type} (post : Int32 → S → Prop) (wf : S → va_W) : Prop :=
  ∀ A : Nat → Prop, Met l y wsy (gx_R fr mc lo) (gx_Pc D tys A av wc) (va_Qi post (fun u t => va_P D vwCl (wf u) t.heap) A) mc (6 * mc) A
theorem gw_of {l : Launch} {y : MethodName} {wsy ws' : List Cond} {fr mc lo : Nat} {D : va_G} {tys : List (ClassId × FieldType)} {av : List Value} {wc : va_W} {S : Type} {post : Int32 → S → Prop} {wf : S → va_W} {cc : ByteArray} {maxL : Nat} {hh : List (Nat × Nat × Nat × Nat)}
    (hy : plainName y.cls = true) (hw : wsy = Cond.codeWith y cc maxL (some .int) hh :: ws') (hav : (lg_sl av).length ≤ maxL) (ho : y.cls = RL)
    (body : ∀ (A : Nat → Prop) p e s m args below meth c Q (ls : Array Slot) (H : Heap) (locs : List Loc), p.tables.exec = Jvm.exec → c.code = cc → c.maxLocals = maxL → (∀ w ∈ wsy, w.before args s = true) → s.vm.findClass RL = some m.cls → va_P D vwCl wc H → va_K D vwCl tys s → va_D A wc → gv_N s → gx_T A s s.heap → va_S A s.heap H locs → lv_has ls maxL (lv_args 0 av) → c.exceptionTable.toList = tableOf hh →
      (∀ (v : Int32) (u : S) H locs pc ls cells slots, cells ≤ mc → slots ≤ 6 * mc → post v u → va_P D vwCl (wf u) H → va_S A s.heap H locs → decode cc pc = .ok (.ireturn, 1) → W p l e (gx_R fr mc lo) s m args below meth c H locs cells slots Q (F0 m pc ls [.int v])) →
      W p l e (gx_R fr mc lo) s m args below meth c H locs 0 0 Q (F0 m 0 ls [])) : gw_M l y wsy fr mc lo D tys av wc post wf := by
  intro A
  refine va_MetW (cc := cc) (maxL := maxL) (ret := some .int) hy hw ?_
  intro p e s m args below meth c s₁ B hml hv
  obtain ⟨rfl, hP, hK, hD, hN, hX⟩ := hv
  have hlocks := B.notSynchronized
  have hl := lv_entry av (n := maxL) hav
  rw [lg_entry_eq]
  have hts := atoms_spec (ws := wsy) B.pre
  have htab := vx_table (x := y) B (hts (Cond.codeWith y cc maxL (some .int) hh) (by rw [hw]; exact List.mem_cons_self))
  refine body A p e s m _ below meth c _ _ _ _ B.exec B.bytes hml hts (ho ▸ findClass_of_methodNamed B.named) hP hK hD hN hX va_S.rf hl htab (fun v u H locs pc ls cells slots hc hs hq hP hS hdg => ?_)
  refine W.widen (k := mc) (n := 6 * mc) hc hs ?_
  exact W.iret (v := v) B.exec B.bytes B.returns (fun t ht hW => ⟨⟨v, u, rfl, hq, by show va_P D vwCl (wf u) t.heap; rw [ht]; exact hP⟩, hS.F ht⟩) hS.2.2 hdg
section GWK
variable {p : Program} {l : Launch} {e : Env} {R : Room} {s : State} {m : MethodId} {args : Array Value} {below : List Frame} {meth : Method} {c : Code} {H H0 : Heap} {locs : List Loc} {cells slots mc ms : Nat} {Q : State → Prop}
variable {pc : Nat} {ls : Array Slot} {rest st0 : List Value} {a : Array Value} {A0 : Nat → Prop} {D : va_G} {ws wc : va_W}
theorem gw_ki {S : Type} {post : Int32 → S → Prop} {wf : S → va_W} (is : List Nat) (hwf : ∀ u, (wf u).map Prod.fst = wc.map Prod.fst) (hP : va_P D vwCl ws H) (hD : va_D A0 ws) (hS : va_S A0 H0 H locs) (his : is.map (fun i => ws[i]?) = wc.map some)
    (hr : va_Run p l e R s m args below meth c H locs cells slots mc ms (F0 m pc ls st0) rest (va_Qi post (fun u t => va_P D vwCl (wf u) t.heap) (gv_in wc) a) (gv_in wc))
    (kk : ∀ (r : Int32) (u : S) (H1 : Heap) (locs1 : List Loc), post r u → va_P D vwCl (gv_put ws is (wf u)) H1 → va_D A0 (gv_put ws is (wf u)) → va_S A0 H0 H1 locs1 → W p l e R s m args below meth c H1 locs1 (cells + mc) (slots + ms) Q (F0 m (pc + 3) ls (.int r :: rest))) : W p l e R s m args below meth c H locs cells slots Q (F0 m pc ls st0) := by
  refine va_calli hr hS (fun q _ h => gv_inA hD is his q h) (gv_inA hD is his) (fun r u t H1 locs1 ht hvm hw hB hz hk hS1 => ?_)
  rw [ht] at hB
  obtain ⟨h1, h2⟩ := gv_join is hP hD his (hwf u) hk hB
  exact kk r u H1 locs1 hw h1 h2 hS1
end GWK
theorem gw_el {α β : Type} (E : String) (kx : String → β) (k : α → β) : gw_b (.inl E : String ⊕ α) kx k = kx E := rfl
theorem gw_er {α β : Type} (u : α) (kx : String → β) (k : α → β) : gw_b (.inr u : String ⊕ α) kx k = k u := rfl
def spL_cutsAfter (f0 : Nat → Int32) (c0 : Nat → Int32) (f1 : Nat → Int32) (c1 : Nat → Int32) (f2 : Nat → Int32) (c2 : Nat → Int32) (lo : Nat → Int64) (up : Nat → Int64) (be : Nat → Int32) (si : Int32) (pl : Int32) (cu : Int32) (ge : Int32) (fa : Int32) (w1 : Nat) (w2 : Nat) : Int32 × (Nat → Int32) × (Nat → Int32) × (Int32) := gw_b (spX1_cut f0 c0 f1 c1 f2 c2 lo up be si pl cu ge fa w1 w2) (fun _ => ((-1), f0, c0, cu)) (fun u => u)
theorem spL_cutsAfter_e (f0 : Nat → Int32) (c0 : Nat → Int32) (f1 : Nat → Int32) (c1 : Nat → Int32) (f2 : Nat → Int32) (c2 : Nat → Int32) (lo : Nat → Int64) (up : Nat → Int64) (be : Nat → Int32) (si : Int32) (pl : Int32) (cu : Int32) (ge : Int32) (fa : Int32) (w1 : Nat) (w2 : Nat) : spL_cutsAfter f0 c0 f1 c1 f2 c2 lo up be si pl cu ge fa w1 w2 = gw_b (spX1_cut f0 c0 f1 c1 f2 c2 lo up be si pl cu ge fa w1 w2) (fun _ => ((-1), f0, c0, cu)) (fun u => u) := rfl
set_option maxHeartbeats 4000000 in
set_option maxRecDepth 100000 in
theorem kL_cutsAfter (l : Launch) (hst : l.stackTraces = false) (dC : Nat → ClassId) (dI : Nat → Nat → Nat) (cI cL : ClassId) (ad : Nat → Nat) (f0 : Nat → Int32) (c0 : Nat → Int32) (f1 : Nat → Int32) (c1 : Nat → Int32) (f2 : Nat → Int32) (c2 : Nat → Int32) (lo : Nat → Int64) (up : Nat → Int64) (be : Nat → Int32) (si : Int32) (pl : Int32) (cu : Int32) (ge : Int32) (fa : Int32) (p1 : Int32) (w1 : Nat) (hw1 : p1 = nI w1) (p2 : Int32) (w2 : Nat) (hw2 : p2 = nI w2) (hy0 : w1 < 8) (hy1 : w2 < 12) : gw_M l yL_cutsAfter wsL_cutsAfter 7 1 104 (dC, dI) [(cI, .int), (cL, .long)] [.ref (ad 0), .int p1, .int p2] (gv_V cI cL ad f0 c0 f1 c1 f2 c2 lo up be si pl cu ge fa) (fun (r : Int32) (u : (Nat → Int32) × (Nat → Int32) × (Int32)) => (r, u) = spL_cutsAfter f0 c0 f1 c1 f2 c2 lo up be si pl cu ge fa w1 w2) (fun (u : (Nat → Int32) × (Nat → Int32) × (Int32)) => (gv_V cI cL ad u.1 u.2.1 f1 c1 f2 c2 lo up be si pl u.2.2 ge fa)) := by
  subst hw1
  subst hw2
  refine gw_of (cc := cL_cutsAfter) (maxL := 4) (hh := [(0, 6, 7, 14)]) (by decide) rfl (Nat.le_of_ble_eq_true rfl) rfl ?_
  intro A p e s m args below meth c Q ls H locs hx hb hml hts hown hP hK hD hN hX hS hl htab kr
  have he := (spL_cutsAfter_e f0 c0 f1 c1 f2 c2 lo up be si pl cu ge fa w1 w2).symm
  have hl : lv_has ls 4 [(0, .ref (ad 0)), (1, .int (nI w1)), (2, .int (nI w2))] := hl
  refine lv_aload_n hx hb dL_cutsAfter_0 rfl (lv_at hl 0 rfl) ?_
  refine lv_iload_n hx hb dL_cutsAfter_1 rfl (lv_at hl 1 rfl) ?_
  refine lv_iload_n hx hb dL_cutsAfter_2 rfl (lv_at hl 2 rfl) ?_
  have hPc : va_P (dC, dI) vwCl (gv_V cI cL ad f0 c0 f1 c1 f2 c2 lo up be si pl cu ge fa) H := gv_sub [0, 1, 2, 3, 4, 5, 6, 7, 8, 9, 10, 11, 12] hP rfl
  have hDc : va_D (gv_in (gv_V cI cL ad f0 c0 f1 c1 f2 c2 lo up be si pl cu ge fa)) (gv_V cI cL ad f0 c0 f1 c1 f2 c2 lo up be si pl cu ge fa) := gv_D hD [0, 1, 2, 3, 4, 5, 6, 7, 8, 9, 10, 11, 12] (by decide) rfl
  have hXc : gx_T (gv_in (gv_V cI cL ad f0 c0 f1 c1 f2 c2 lo up be si pl cu ge fa)) s H := hX.to hS.2.1 (gv_inA hD [0, 1, 2, 3, 4, 5, 6, 7, 8, 9, 10, 11, 12] rfl)
  refine gx_ki (xp := (fun E => .inl E = spX1_cut f0 c0 f1 c1 f2 c2 lo up be si pl cu ge fa w1 w2 ∧ E ∈ [gE_S])) (wf := (fun (u : (Nat → Int32) × (Nat → Int32) × (Int32)) => (gv_V cI cL ad u.1 u.2.1 f1 c1 f2 c2 lo up be si pl u.2.2 ge fa))) (wc := (gv_V cI cL ad f0 c0 f1 c1 f2 c2 lo up be si pl cu ge fa)) [0, 1, 2, 3, 4, 5, 6, 7, 8, 9, 10, 11, 12] (fun _ => rfl) hP hD hS rfl (vx_runV (As := [.int (nI w1), .int (nI w2)]) (rest := []) ⟨hx, hb, hml, hown, hts⟩ (kX1_cut l hst dC dI cI cL ad f0 c0 f1 c1 f2 c2 lo up be si pl cu ge fa (nI w1) w1 rfl (nI w2) w2 rfl hy0 hy1 (gv_in (gv_V cI cL ad f0 c0 f1 c1 f2 c2 lo up be si pl cu ge fa))) (cwV (rm := gx_R 6 1 82) 2 hts gL_cutsAfter_X1_cut rfl rfl rfl (by decide +kernel) ⟨(Nat.le_of_ble_eq_true rfl), (Nat.le_of_ble_eq_true rfl)⟩) (gx_preV (ci := 1) hK hPc hDc hN hXc rfl rfl) rfl rfl hl.1 rfl (lv_room (Nat.le_of_ble_eq_true rfl)) dL_cutsAfter_3 ⟨(Nat.le_of_ble_eq_true rfl), (Nat.le_of_ble_eq_true rfl)⟩) (fun E ce q9 H locs hw hP hD hS hc1 hc2 hc3 => ?_) (fun r u H locs hw hP hD hS => ?_)
  · have hP : va_P (dC, dI) vwCl (gv_V cI cL ad f0 c0 f1 c1 f2 c2 lo up be si pl cu ge fa) H := hP
    have he := gw_l hw.1 he
    obtain rfl : E = gE_S := List.mem_singleton.mp hw.2
    refine vx_catch (own := RL) (name := gE_S) hown [] ⟨0, 6, 7, 14⟩ [] htab (fun z hz => nomatch hz) (by decide) (by decide) (hts (.classLink RL 14 "java/lang/IllegalStateException") (List.mem_of_getElem? (i := 1) rfl)) (va_Nw.use rfl (hX.2.1 (gE_S, gE_S) (by decide))) hc1 hc2 hc3 ?_
    refine lv_astore_n (lv' := [(3, .ref q9), (0, .ref (ad 0)), (1, .int (nI w1)), (2, .int (nI w2))]) hx hb dL_cutsAfter_7 rfl hl (by decide) rfl (fun ls hl => ?_)
    refine lv_iconst (v := (-1)) hx hb dL_cutsAfter_8 (by decide) ?_
    exact kr (-1) (f0, c0, cu) _ _ _ _ _ _ (Nat.le_of_ble_eq_true rfl) (Nat.le_of_ble_eq_true rfl) he hP hS dL_cutsAfter_9
  · have he := gw_r hw he
    have hP : va_P (dC, dI) vwCl (gv_V cI cL ad u.1 u.2.1 f1 c1 f2 c2 lo up be si pl u.2.2 ge fa) H := hP
    exact kr r u _ _ _ _ _ _ (Nat.le_of_ble_eq_true rfl) (Nat.le_of_ble_eq_true rfl) he hP hS dL_cutsAfter_6
def spL_grownBy (f0 : Nat → Int32) (c0 : Nat → Int32) (f1 : Nat → Int32) (c1 : Nat → Int32) (f2 : Nat → Int32) (c2 : Nat → Int32) (lo : Nat → Int64) (up : Nat → Int64) (be : Nat → Int32) (si : Int32) (pl : Int32) (cu : Int32) (ge : Int32) (fa : Int32) : Int32 × (Nat → Int32) × (Nat → Int32) × (Nat → Int32) × (Nat → Int32) × (Int32) × (Int32) × (Int32) := gw_b (spX1_grow f0 c0 f1 c1 f2 c2 lo up be si pl cu ge fa) (fun _ => ((-99), f0, c0, f2, c2, cu, ge, fa)) (fun u => u)
theorem spL_grownBy_e (f0 : Nat → Int32) (c0 : Nat → Int32) (f1 : Nat → Int32) (c1 : Nat → Int32) (f2 : Nat → Int32) (c2 : Nat → Int32) (lo : Nat → Int64) (up : Nat → Int64) (be : Nat → Int32) (si : Int32) (pl : Int32) (cu : Int32) (ge : Int32) (fa : Int32) : spL_grownBy f0 c0 f1 c1 f2 c2 lo up be si pl cu ge fa = gw_b (spX1_grow f0 c0 f1 c1 f2 c2 lo up be si pl cu ge fa) (fun _ => ((-99), f0, c0, f2, c2, cu, ge, fa)) (fun u => u) := rfl
set_option maxHeartbeats 4000000 in
set_option maxRecDepth 100000 in
theorem kL_grownBy (l : Launch) (hst : l.stackTraces = false) (dC : Nat → ClassId) (dI : Nat → Nat → Nat) (cI cL : ClassId) (ad : Nat → Nat) (f0 : Nat → Int32) (c0 : Nat → Int32) (f1 : Nat → Int32) (c1 : Nat → Int32) (f2 : Nat → Int32) (c2 : Nat → Int32) (lo : Nat → Int64) (up : Nat → Int64) (be : Nat → Int32) (si : Int32) (pl : Int32) (cu : Int32) (ge : Int32) (fa : Int32) : gw_M l yL_grownBy wsL_grownBy 7 1 145 (dC, dI) [(cI, .int), (cL, .long)] [.ref (ad 0)] (gv_V cI cL ad f0 c0 f1 c1 f2 c2 lo up be si pl cu ge fa) (fun (r : Int32) (u : (Nat → Int32) × (Nat → Int32) × (Nat → Int32) × (Nat → Int32) × (Int32) × (Int32) × (Int32)) => (r, u) = spL_grownBy f0 c0 f1 c1 f2 c2 lo up be si pl cu ge fa) (fun (u : (Nat → Int32) × (Nat → Int32) × (Nat → Int32) × (Nat → Int32) × (Int32) × (Int32) × (Int32)) => (gv_V cI cL ad u.1 u.2.1 f1 c1 u.2.2.1 u.2.2.2.1 lo up be si pl u.2.2.2.2.1 u.2.2.2.2.2.1 u.2.2.2.2.2.2)) := by
  refine gw_of (cc := cL_grownBy) (maxL := 2) (hh := [(0, 4, 5, 14)]) (by decide) rfl (Nat.le_of_ble_eq_true rfl) rfl ?_
  intro A p e s m args below meth c Q ls H locs hx hb hml hts hown hP hK hD hN hX hS hl htab kr
  have he := (spL_grownBy_e f0 c0 f1 c1 f2 c2 lo up be si pl cu ge fa).symm
  have hl : lv_has ls 2 [(0, .ref (ad 0))] := hl
  refine lv_aload_n hx hb dL_grownBy_0 rfl (lv_at hl 0 rfl) ?_
  have hPc : va_P (dC, dI) vwCl (gv_V cI cL ad f0 c0 f1 c1 f2 c2 lo up be si pl cu ge fa) H := gv_sub [0, 1, 2, 3, 4, 5, 6, 7, 8, 9, 10, 11, 12] hP rfl
  have hDc : va_D (gv_in (gv_V cI cL ad f0 c0 f1 c1 f2 c2 lo up be si pl cu ge fa)) (gv_V cI cL ad f0 c0 f1 c1 f2 c2 lo up be si pl cu ge fa) := gv_D hD [0, 1, 2, 3, 4, 5, 6, 7, 8, 9, 10, 11, 12] (by decide) rfl
  have hXc : gx_T (gv_in (gv_V cI cL ad f0 c0 f1 c1 f2 c2 lo up be si pl cu ge fa)) s H := hX.to hS.2.1 (gv_inA hD [0, 1, 2, 3, 4, 5, 6, 7, 8, 9, 10, 11, 12] rfl)
  refine gx_ki (xp := (fun E => .inl E = spX1_grow f0 c0 f1 c1 f2 c2 lo up be si pl cu ge fa ∧ E ∈ [gE_S])) (wf := (fun (u : (Nat → Int32) × (Nat → Int32) × (Nat → Int32) × (Nat → Int32) × (Int32) × (Int32) × (Int32)) => (gv_V cI cL ad u.1 u.2.1 f1 c1 u.2.2.1 u.2.2.2.1 lo up be si pl u.2.2.2.2.1 u.2.2.2.2.2.1 u.2.2.2.2.2.2))) (wc := (gv_V cI cL ad f0 c0 f1 c1 f2 c2 lo up be si pl cu ge fa)) [0, 1, 2, 3, 4, 5, 6, 7, 8, 9, 10, 11, 12] (fun _ => rfl) hP hD hS rfl (vx_runV (As := []) (rest := []) ⟨hx, hb, hml, hown, hts⟩ (kX1_grow l hst dC dI cI cL ad f0 c0 f1 c1 f2 c2 lo up be si pl cu ge fa (gv_in (gv_V cI cL ad f0 c0 f1 c1 f2 c2 lo up be si pl cu ge fa))) (cwV (rm := gx_R 6 1 124) 0 hts gL_grownBy_X1_grow rfl rfl rfl (by decide +kernel) ⟨(Nat.le_of_ble_eq_true rfl), (Nat.le_of_ble_eq_true rfl)⟩) (gx_preV (ci := 1) hK hPc hDc hN hXc rfl rfl) rfl rfl hl.1 rfl (lv_room (Nat.le_of_ble_eq_true rfl)) dL_grownBy_1 ⟨(Nat.le_of_ble_eq_true rfl), (Nat.le_of_ble_eq_true rfl)⟩) (fun E ce q9 H locs hw hP hD hS hc1 hc2 hc3 => ?_) (fun r u H locs hw hP hD hS => ?_)
  · have hP : va_P (dC, dI) vwCl (gv_V cI cL ad f0 c0 f1 c1 f2 c2 lo up be si pl cu ge fa) H := hP
    have he := gw_l hw.1 he
    obtain rfl : E = gE_S := List.mem_singleton.mp hw.2
    refine vx_catch (own := RL) (name := gE_S) hown [] ⟨0, 4, 5, 14⟩ [] htab (fun z hz => nomatch hz) (by decide) (by decide) (hts (.classLink RL 14 "java/lang/IllegalStateException") (List.mem_of_getElem? (i := 1) rfl)) (va_Nw.use rfl (hX.2.1 (gE_S, gE_S) (by decide))) hc1 hc2 hc3 ?_
    refine lv_astore_n (lv' := [(1, .ref q9), (0, .ref (ad 0))]) hx hb dL_grownBy_5 rfl hl (by decide) rfl (fun ls hl => ?_)
    refine lv_bipush (v := (-99)) hx hb dL_grownBy_6 (by decide) ?_
    exact kr (-99) (f0, c0, f2, c2, cu, ge, fa) _ _ _ _ _ _ (Nat.le_of_ble_eq_true rfl) (Nat.le_of_ble_eq_true rfl) he hP hS dL_grownBy_8
  · have he := gw_r hw he
    have hP : va_P (dC, dI) vwCl (gv_V cI cL ad u.1 u.2.1 f1 c1 u.2.2.1 u.2.2.2.1 lo up be si pl u.2.2.2.2.1 u.2.2.2.2.2.1 u.2.2.2.2.2.2) H := hP
    exact kr r u _ _ _ _ _ _ (Nat.le_of_ble_eq_true rfl) (Nat.le_of_ble_eq_true rfl) he hP hS dL_grownBy_4
/-! A number out of the script. -/
def gd_Pc (b L : Nat) (xs : Nat → Int32) (av : List Value) : Array Value → State → Prop := va_Pc av (fun U => b < U.heap.size ∧ va_X b L xs U U.heap)
theorem gd_pre {s : State} {H : Heap} {b L : Nat} {xs : Nat → Int32} {A : Nat → Prop} {locs : List Loc} {As : List Value} (hX : va_X b L xs s s.heap) (hbl : b < s.heap.size) (hbA : ¬ A b) (hS : va_S A s.heap H locs) : PreS s H (gd_Pc b L xs As) As :=
  ⟨fun a U g mk q => by
    obtain ⟨q0, q1, q2⟩ := q
    exact ⟨q0, q1, va_X.moved (u := U) (U := U.calling g mk a) (Vm.Alike.refl U.vm) q2⟩,
  fun U hU hW => ⟨rfl, by rw [hU]; exact Nat.lt_of_lt_of_le hbl hS.1, va_X.moved hW.alike (by rw [hU]; exact hX.kept (hS.2.1 b hbl hbA))⟩⟩
theorem gd_us (x : Int32) : ∃ j, j < 2 ^ 31 ∧ (x.toUInt32 >>> ((1 : Int32).toUInt32 &&& Int32.toUInt32 31)).toInt32 = nI j := by
  have h := x.toBitVec.isLt
  refine ⟨x.toBitVec.toNat / 2 ^ 1, by omega, ?_⟩
  apply Int32.toBitVec_inj.mp
  apply BitVec.eq_of_toNat_eq
  rw [pk_ushr x 1 1 (by decide), pk_tn (by omega)]
set_option maxHeartbeats 4000000 in
set_option maxRecDepth 100000 in
theorem kL_drawn (l : Launch) (dC : Nat → ClassId) (dI : Nat → Nat → Nat) (b L : Nat) (xs : Nat → Int32) (p1 : Int32) (w1 : Nat) (hw1 : p1 = nI w1) (p2 : Int32) (w2 : Nat) (hp2 : p2 = nI w2) (hw3 : w1 < 100000) (hL : L ≤ 260) (hw2 : 0 < w2 ∧ w2 < 2 ^ 31) (A : Nat → Prop) (hbA : ¬ A b) : Met l yL_drawn wsL_drawn { frames := 0, cells := 0, slots := 0, locals := 0 } (gd_Pc b L xs [.ref b, .int p1, .int p2]) (va_Qi (fun (r : Int32) (_ : Unit) => ∃ j, j < w2 ∧ r = nI j) (fun _ t => va_P (dC, dI) vwCl ([] : va_W) t.heap) A) 0 0 A := by
  subst hp2
  refine Met.ofW (cc := cL_drawn) (maxL := 4) (ret := some .int) (by decide) rfl ?_
  intro p e s m args below meth c s₁ B0 hml hv
  obtain ⟨rfl, hbl, hX⟩ := hv
  have hx := B0.exec
  have hb := B0.bytes
  have hr := B0.returns
  have hts := atoms_spec (ws := wsL_drawn) B0.pre
  have hown : s.vm.findClass RL = some m.cls := findClass_of_methodNamed B0.named
  have hlocks := B0.notSynchronized
  have hS : va_S A s.heap s.heap [] := va_S.rf
  have hl := lv_entry ([.ref b, .int p1, .int (nI w2)]) (n := 4) (Nat.le_of_ble_eq_true rfl)
  rw [lg_entry_eq]
  generalize (lg_sl ([.ref b, .int p1, .int (nI w2)]) ++ List.replicate (4 - (lg_sl ([.ref b, .int p1, .int (nI w2)])).length) Slot.unset).toArray = ls at hl ⊢
  have hl : lv_has ls 4 [(0, .ref b), (1, .int p1), (2, .int (nI w2))] := hl
  have fin : ∀ (x : Int32) (ls : Array Slot), lv_has ls 4 [(2, .int (nI w2))] → W p l e { frames := 0, cells := 0, slots := 0, locals := 0 } s m #[.ref b, .int p1, .int (nI w2)] below meth c s.heap [] 0 0 (MQ below (va_Qi (fun (r : Int32) (_ : Unit) => ∃ j, j < w2 ∧ r = nI j) (fun _ t => va_P (dC, dI) vwCl ([] : va_W) t.heap) A) #[.ref b, .int p1, .int (nI w2)] s 0 0 A) (F0 m 20 ls [.int x]) := by
    intro x ls hl
    obtain ⟨j, hj, ej⟩ := gd_us x
    refine lv_istore_n (lv' := [(3, .int x), (2, .int (nI w2))]) hx hb dL_drawn_20 rfl hl (by decide) rfl (fun ls hl => ?_)
    refine lv_iload_n hx hb dL_drawn_21 rfl (lv_at hl 0 rfl) ?_
    refine lv_iconst (v := 1) hx hb dL_drawn_22 (by decide) ?_
    refine lv_iushr (v := nI j) hx hb dL_drawn_23 ej ?_
    refine lv_iload_n hx hb dL_drawn_24 rfl (lv_at hl 1 rfl) ?_
    refine lv_irem hx hb dL_drawn_25 (nI_ne0 (by omega) (by omega)) ?_
    exact W.iret (v := nI j - nI j / nI w2 * nI w2) hx hb hr (fun t ht hW => ⟨⟨_, (), rfl, ⟨j % w2, Nat.mod_lt _ hw2.1, pk_rem hj hw2.1 hw2.2⟩, by show va_P (dC, dI) vwCl ([] : va_W) t.heap; exact gv_P0⟩, hS.F ht⟩) hS.2.2 dL_drawn_26
  refine lv_iload_n hx hb dL_drawn_0 rfl (lv_at hl 1 rfl) ?_
  refine lv_aload_n hx hb dL_drawn_1 rfl (lv_at hl 0 rfl) ?_
  refine va_slen hx hb hX hbl hbA hS dL_drawn_2 ?_
  refine lv_icmp_ge (tgt := 12) hx hb dL_drawn_3 (by decide) (fun cd => ?_) (fun cd => ?_)
  · refine lv_ldc (v := 58757) hx hb hown (hts (.constant RL 7 (58757)) (List.mem_of_getElem? (i := 1) rfl)) dL_drawn_12 ?_
    refine lv_iload_n hx hb dL_drawn_14 rfl (lv_at hl 1 rfl) ?_
    refine lv_imul hx hb dL_drawn_15 ?_
    refine lv_sipush (v := 7841) hx hb dL_drawn_16 (by decide) ?_
    refine lv_iadd hx hb dL_drawn_19 ?_
    exact fin _ _ (lv_sub hl [2] rfl)
  · have hlt : w1 < L := by
      refine Nat.lt_of_not_le (fun z => cd ?_)
      rw [hw1]
      exact nI_le z (by omega)
    refine lv_aload_n hx hb dL_drawn_6 rfl (lv_at hl 0 rfl) ?_
    refine lv_iload_n hx hb dL_drawn_7 rfl (lv_at hl 1 rfl) ?_
    refine va_sld hx hb hX hbl hbA hS (by rw [hw1]; exact vp_in_nI hlt (by omega)) dL_drawn_8 ?_
    refine lv_goto (tgt := 20) hx hb dL_drawn_9 (by decide) ?_
    exact fin _ _ (lv_sub hl [2] rfl)
