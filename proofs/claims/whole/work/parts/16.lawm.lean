/-! The law's own methods with a table: a standard contract; what they answer. -/
def gw_b {α β : Type} (a : String ⊕ α) (kx : String → β) (k : α → β) : β := match a with
  | .inl E => kx E
  | .inr u => k u
theorem gw_l {α β : Type} {E : String} {a : String ⊕ α} {kx : String → β} {k : α → β} {r : β} (h : .inl E = a) (e : gw_b a kx k = r) : kx E = r := by subst h; exact e
theorem gw_r {α β : Type} {u : α} {a : String ⊕ α} {kx : String → β} {k : α → β} {r : β} (h : .inr u = a) (e : gw_b a kx k = r) : k u = r := by subst h; exact e
def gw_M (l : Launch) (y : MethodName) (wsy : List Cond) (fr mc lo : Nat) (D : va_G) (tys : List (ClassId × FieldType)) (av : List Value) (wc : va_W) {S : Type} (post : Int32 → S → Prop) (wf : S → va_W) : Prop :=
  ∀ A : Nat → Prop, Met l y wsy (gx_R fr mc lo) (gx_Pc D tys A av wc) (va_Qi post (fun u t => va_P D vwCl (wf u) t.heap) A) mc (6 * mc) A
theorem gw_of {l : Launch} {y : MethodName} {wsy ws' : List Cond} {fr mc lo : Nat} {D : va_G} {tys : List (ClassId × FieldType)} {av : List Value} {wc : va_W} {S : Type} {post : Int32 → S → Prop} {wf : S → va_W} {cc : ByteArray} {maxL : Nat} {hh : List (Nat × Nat × Nat × Nat)}
    (hy : plainName y.cls = true) (hw : wsy = Cond.codeWith y cc maxL (some .int) hh :: ws') (hav : (lg_sl av).length ≤ maxL) (ho : y.cls = RL)
    (body : ∀ (A : Nat → Prop) p e s m args below meth c Q (ls : Array Slot) (H : Heap) (locs : List Loc), p.tables.exec = Jvm.exec → c.code = cc → c.maxLocals = maxL → (∀ w ∈ wsy, w.before args s = true) → s.vm.findClass RL = some m.cls → va_P D vwCl wc H → va_K D vwCl tys s → va_D A wc → gv_N s → gx_T A s s.heap → va_S A s.heap H locs → lv_has ls maxL (lv_args 0 av) → c.exceptionTable.toList = tableOf hh →
      (∀ (v : Int32) (u : S) H locs pc ls cells slots, cells ≤ mc → slots ≤ 6 * mc → post v u → va_P D vwCl (wf u) H → va_S A s.heap H locs → decode cc pc = .ok (.ireturn, 1) → W p l e (gx_R fr mc lo) s m args below meth c H locs cells slots Q (F0 m pc ls [.int v])) →
      W p l e (gx_R fr mc lo) s m args below meth c H locs 0 0 Q (F0 m 0 ls [])) : gw_M l y wsy fr mc lo D tys av wc post wf := by
  intro A
  refine va_MetW (cc := cc) (maxL := maxL) (ret := some .int) hy hw ?_
  intro p e s m args below meth c s₁ B hml hv
  obtain ⟨rfl, hP, hK, hD, hN, hX⟩ := hv
  have hlocks := B.notSynchronized
  have hl := lv_entry av (n := maxL) hav
  rw [lg_entry_eq]
  have hts := atoms_spec (ws := wsy) B.pre
  have htab := vx_table (x := y) B (hts (Cond.codeWith y cc maxL (some .int) hh) (by rw [hw]; exact List.mem_cons_self))
  refine body A p e s m _ below meth c _ _ _ _ B.exec B.bytes hml hts (ho ▸ findClass_of_methodNamed B.named) hP hK hD hN hX va_S.rf hl htab (fun v u H locs pc ls cells slots hc hs hq hP hS hdg => ?_)
  refine W.widen (k := mc) (n := 6 * mc) hc hs ?_
  exact W.iret (v := v) B.exec B.bytes B.returns (fun t ht hW => ⟨⟨v, u, rfl, hq, by show va_P D vwCl (wf u) t.heap; rw [ht]; exact hP⟩, hS.F ht⟩) hS.2.2 hdg
section GWK
variable {p : Program} {l : Launch} {e : Env} {R : Room} {s : State} {m : MethodId} {args : Array Value} {below : List Frame} {meth : Method} {c : Code} {H H0 : Heap} {locs : List Loc} {cells slots mc ms : Nat} {Q : State → Prop}
variable {pc : Nat} {ls : Array Slot} {rest st0 : List Value} {a : Array Value} {A0 : Nat → Prop} {D : va_G} {ws wc : va_W}
theorem gw_ki {S : Type} {post : Int32 → S → Prop} {wf : S → va_W} (is : List Nat) (hwf : ∀ u, (wf u).map Prod.fst = wc.map Prod.fst) (hP : va_P D vwCl ws H) (hD : va_D A0 ws) (hS : va_S A0 H0 H locs) (his : is.map (fun i => ws[i]?) = wc.map some)
    (hr : va_Run p l e R s m args below meth c H locs cells slots mc ms (F0 m pc ls st0) rest (va_Qi post (fun u t => va_P D vwCl (wf u) t.heap) (gv_in wc) a) (gv_in wc))
    (kk : ∀ (r : Int32) (u : S) (H1 : Heap) (locs1 : List Loc), post r u → va_P D vwCl (gv_put ws is (wf u)) H1 → va_D A0 (gv_put ws is (wf u)) → va_S A0 H0 H1 locs1 → W p l e R s m args below meth c H1 locs1 (cells + mc) (slots + ms) Q (F0 m (pc + 3) ls (.int r :: rest))) : W p l e R s m args below meth c H locs cells slots Q (F0 m pc ls st0) := by
  refine va_calli hr hS (fun q _ h => gv_inA hD is his q h) (gv_inA hD is his) (fun r u t H1 locs1 ht hvm hw hB hz hk hS1 => ?_)
  rw [ht] at hB
  obtain ⟨h1, h2⟩ := gv_join is hP hD his (hwf u) hk hB
  exact kk r u H1 locs1 hw h1 h2 hS1
end GWK
abbrev gw_V (cI cL : ClassId) (ad : Nat → Nat) (oa : Nat) (f0 c0 f1 c1 f2 c2 : Nat → Int32) (lo up : Nat → Int64) (be : Nat → Int32) (si pl cu ge fa : Int32) (ou : Nat → Int64) : va_W := gv_V cI cL ad f0 c0 f1 c1 f2 c2 lo up be si pl cu ge fa ++ [(oa, .inl (cL, 1, .inr (.inl ou)))]
def spL_sides (f0 : Nat → Int32) (c0 : Nat → Int32) (f1 : Nat → Int32) (c1 : Nat → Int32) (f2 : Nat → Int32) (c2 : Nat → Int32) (lo : Nat → Int64) (up : Nat → Int64) (be : Nat → Int32) (si : Int32) (pl : Int32) (cu : Int32) (ge : Int32) (fa : Int32) (p1 : Int32) : Int32 × (Int32) := gw_b (spX1_sides f0 c0 f1 c1 f2 c2 lo up be si pl cu ge fa p1) (fun E => ((if E = gE_A then 1 else 2), si)) (fun u => (0, u))
theorem spL_sides_e (f0 : Nat → Int32) (c0 : Nat → Int32) (f1 : Nat → Int32) (c1 : Nat → Int32) (f2 : Nat → Int32) (c2 : Nat → Int32) (lo : Nat → Int64) (up : Nat → Int64) (be : Nat → Int32) (si : Int32) (pl : Int32) (cu : Int32) (ge : Int32) (fa : Int32) (p1 : Int32) : spL_sides f0 c0 f1 c1 f2 c2 lo up be si pl cu ge fa p1 = gw_b (spX1_sides f0 c0 f1 c1 f2 c2 lo up be si pl cu ge fa p1) (fun E => ((if E = gE_A then 1 else 2), si)) (fun u => (0, u)) := rfl
set_option maxHeartbeats 4000000 in
set_option maxRecDepth 100000 in
theorem kL_sides (l : Launch) (hst : l.stackTraces = false) (dC : Nat → ClassId) (dI : Nat → Nat → Nat) (cI cL : ClassId) (ad : Nat → Nat) (f0 : Nat → Int32) (c0 : Nat → Int32) (f1 : Nat → Int32) (c1 : Nat → Int32) (f2 : Nat → Int32) (c2 : Nat → Int32) (lo : Nat → Int64) (up : Nat → Int64) (be : Nat → Int32) (si : Int32) (pl : Int32) (cu : Int32) (ge : Int32) (fa : Int32) (p1 : Int32) : gw_M l yL_sides wsL_sides 7 1 103 (dC, dI) [(cI, .int), (cL, .long)] [.ref (ad 0), .int p1] (gv_V cI cL ad f0 c0 f1 c1 f2 c2 lo up be si pl cu ge fa) (fun (r : Int32) (u : (Int32)) => (r, u) = spL_sides f0 c0 f1 c1 f2 c2 lo up be si pl cu ge fa p1) (fun (u : (Int32)) => (gv_V cI cL ad f0 c0 f1 c1 f2 c2 lo up be u pl cu ge fa)) := by
  refine gw_of (cc := cL_sides) (maxL := 3) (hh := [(0, 5, 8, 13), (0, 5, 11, 15)]) (by decide) rfl (Nat.le_of_ble_eq_true rfl) rfl ?_
  intro A p e s m args below meth c Q ls H locs hx hb hml hts hown hP hK hD hN hX hS hl htab kr
  have he := (spL_sides_e f0 c0 f1 c1 f2 c2 lo up be si pl cu ge fa p1).symm
  have hl : lv_has ls 3 [(0, .ref (ad 0)), (1, .int p1)] := hl
  refine lv_aload_n hx hb dL_sides_0 rfl (lv_at hl 0 rfl) ?_
  refine lv_iload_n hx hb dL_sides_1 rfl (lv_at hl 1 rfl) ?_
  have hPc : va_P (dC, dI) vwCl (gv_V cI cL ad f0 c0 f1 c1 f2 c2 lo up be si pl cu ge fa) H := gv_sub [0, 1, 2, 3, 4, 5, 6, 7, 8, 9, 10, 11, 12] hP rfl
  have hDc : va_D (gv_in (gv_V cI cL ad f0 c0 f1 c1 f2 c2 lo up be si pl cu ge fa)) (gv_V cI cL ad f0 c0 f1 c1 f2 c2 lo up be si pl cu ge fa) := gv_D hD [0, 1, 2, 3, 4, 5, 6, 7, 8, 9, 10, 11, 12] (by decide) rfl
  have hXc : gx_T (gv_in (gv_V cI cL ad f0 c0 f1 c1 f2 c2 lo up be si pl cu ge fa)) s H := hX.to hS.2.1 (gv_inA hD [0, 1, 2, 3, 4, 5, 6, 7, 8, 9, 10, 11, 12] rfl)
  refine gx_kv (xp := (fun E => .inl E = spX1_sides f0 c0 f1 c1 f2 c2 lo up be si pl cu ge fa p1 ∧ E ∈ [gE_A, gE_S])) (wf := (fun (u : (Int32)) => (gv_V cI cL ad f0 c0 f1 c1 f2 c2 lo up be u pl cu ge fa))) (wc := (gv_V cI cL ad f0 c0 f1 c1 f2 c2 lo up be si pl cu ge fa)) [0, 1, 2, 3, 4, 5, 6, 7, 8, 9, 10, 11, 12] (fun _ => rfl) hP hD hS rfl (vx_runV (As := [.int p1]) (rest := []) ⟨hx, hb, hml, hown, hts⟩ (kX1_sides l hst dC dI cI cL ad f0 c0 f1 c1 f2 c2 lo up be si pl cu ge fa p1 (gv_in (gv_V cI cL ad f0 c0 f1 c1 f2 c2 lo up be si pl cu ge fa))) (cwV (rm := gx_R 6 1 82) 1 hts gL_sides_X1_sides rfl rfl rfl (by decide +kernel) ⟨(Nat.le_of_ble_eq_true rfl), (Nat.le_of_ble_eq_true rfl)⟩) (gx_preV (ci := 1) hK hPc hDc hN hXc rfl rfl) rfl rfl hl.1 rfl (lv_room (Nat.le_of_ble_eq_true rfl)) dL_sides_2 ⟨(Nat.le_of_ble_eq_true rfl), (Nat.le_of_ble_eq_true rfl)⟩) (fun E ce q9 H locs hw hP hD hS hc1 hc2 hc3 => ?_) (fun u H locs hw hP hD hS => ?_)
  · have hP : va_P (dC, dI) vwCl (gv_V cI cL ad f0 c0 f1 c1 f2 c2 lo up be si pl cu ge fa) H := hP
    have he := gw_l hw.1 he
    rcases List.mem_cons.mp hw.2 with hE | hE
    · subst hE
      rw [if_pos rfl] at he
      refine vx_catch (own := RL) (name := gE_A) hown [] ⟨0, 5, 8, 13⟩ [⟨0, 5, 11, 15⟩] htab (fun z hz => nomatch hz) (by decide) (by decide) (hts (.classLink RL 13 "java/lang/IllegalArgumentException") (List.mem_of_getElem? (i := 1) rfl)) (va_Nw.use rfl (hX.2.1 (gE_A, gE_A) (by decide))) hc1 hc2 hc3 ?_
      refine lv_astore_n (lv' := [(2, .ref q9), (0, .ref (ad 0)), (1, .int p1)]) hx hb dL_sides_8 rfl hl (by decide) rfl (fun ls hl => ?_)
      refine lv_iconst (v := 1) hx hb dL_sides_9 (by decide) ?_
      exact kr 1 si _ _ _ _ _ _ (Nat.le_of_ble_eq_true rfl) (Nat.le_of_ble_eq_true rfl) he hP hS dL_sides_10
    · obtain rfl : E = gE_S := List.mem_singleton.mp hE
      rw [if_neg (by decide)] at he
      refine vx_catch (own := RL) (name := gE_S) hown [⟨0, 5, 8, 13⟩] ⟨0, 5, 11, 15⟩ [] htab (fun z hz => by obtain rfl := List.mem_singleton.mp hz; exact Or.inr ⟨by decide, gE_A, hts (.classLink RL 13 "java/lang/IllegalArgumentException") (List.mem_of_getElem? (i := 1) rfl), hX.2.2.2.1 (gE_S, gE_A) (by decide)⟩) (by decide) (by decide) (hts (.classLink RL 15 "java/lang/IllegalStateException") (List.mem_of_getElem? (i := 2) rfl)) (va_Nw.use rfl (hX.2.1 (gE_S, gE_S) (by decide))) hc1 hc2 hc3 ?_
      refine lv_astore_n (lv' := [(2, .ref q9), (0, .ref (ad 0)), (1, .int p1)]) hx hb dL_sides_11 rfl hl (by decide) rfl (fun ls hl => ?_)
      refine lv_iconst (v := 2) hx hb dL_sides_12 (by decide) ?_
      exact kr 2 si _ _ _ _ _ _ (Nat.le_of_ble_eq_true rfl) (Nat.le_of_ble_eq_true rfl) he hP hS dL_sides_13
  · obtain ⟨si_q, rfl⟩ : ∃ z, z = u := ⟨_, rfl⟩
    have hP : va_P (dC, dI) vwCl (gv_V cI cL ad f0 c0 f1 c1 f2 c2 lo up be si_q pl cu ge fa) H := hP
    have hD : va_D A (gv_V cI cL ad f0 c0 f1 c1 f2 c2 lo up be si_q pl cu ge fa) := hD
    have he := gw_r hw he
    refine lv_goto (tgt := 14) hx hb dL_sides_5 (by decide) ?_
    refine lv_iconst (v := 0) hx hb dL_sides_14 (by decide) ?_
    exact kr 0 si_q _ _ _ _ _ _ (Nat.le_of_ble_eq_true rfl) (Nat.le_of_ble_eq_true rfl) he hP hS dL_sides_15
def spL_plant (f0 : Nat → Int32) (c0 : Nat → Int32) (f1 : Nat → Int32) (c1 : Nat → Int32) (f2 : Nat → Int32) (c2 : Nat → Int32) (lo : Nat → Int64) (up : Nat → Int64) (be : Nat → Int32) (si : Int32) (pl : Int32) (cu : Int32) (ge : Int32) (fa : Int32) (p1 : Int32) : Int32 × (Nat → Int32) × (Int32) := gw_b (spX1_plant f0 c0 f1 c1 f2 c2 lo up be si pl cu ge fa p1) (fun E => ((if E = gE_I then 1 else 2), f0, pl)) (fun u => (0, u.1, u.2))
theorem spL_plant_e (f0 : Nat → Int32) (c0 : Nat → Int32) (f1 : Nat → Int32) (c1 : Nat → Int32) (f2 : Nat → Int32) (c2 : Nat → Int32) (lo : Nat → Int64) (up : Nat → Int64) (be : Nat → Int32) (si : Int32) (pl : Int32) (cu : Int32) (ge : Int32) (fa : Int32) (p1 : Int32) : spL_plant f0 c0 f1 c1 f2 c2 lo up be si pl cu ge fa p1 = gw_b (spX1_plant f0 c0 f1 c1 f2 c2 lo up be si pl cu ge fa p1) (fun E => ((if E = gE_I then 1 else 2), f0, pl)) (fun u => (0, u.1, u.2)) := rfl
set_option maxHeartbeats 4000000 in
set_option maxRecDepth 100000 in
theorem kL_plant (l : Launch) (hst : l.stackTraces = false) (dC : Nat → ClassId) (dI : Nat → Nat → Nat) (cI cL : ClassId) (ad : Nat → Nat) (f0 : Nat → Int32) (c0 : Nat → Int32) (f1 : Nat → Int32) (c1 : Nat → Int32) (f2 : Nat → Int32) (c2 : Nat → Int32) (lo : Nat → Int64) (up : Nat → Int64) (be : Nat → Int32) (si : Int32) (pl : Int32) (cu : Int32) (ge : Int32) (fa : Int32) (p1 : Int32) : gw_M l yL_plant wsL_plant 8 2 123 (dC, dI) [(cI, .int), (cL, .long)] [.ref (ad 0), .int p1] (gv_V cI cL ad f0 c0 f1 c1 f2 c2 lo up be si pl cu ge fa) (fun (r : Int32) (u : (Nat → Int32) × (Int32)) => (r, u) = spL_plant f0 c0 f1 c1 f2 c2 lo up be si pl cu ge fa p1) (fun (u : (Nat → Int32) × (Int32)) => (gv_V cI cL ad u.1 c0 f1 c1 f2 c2 lo up be si u.2 cu ge fa)) := by
  refine gw_of (cc := cL_plant) (maxL := 3) (hh := [(0, 5, 8, 20), (0, 5, 11, 15)]) (by decide) rfl (Nat.le_of_ble_eq_true rfl) rfl ?_
  intro A p e s m args below meth c Q ls H locs hx hb hml hts hown hP hK hD hN hX hS hl htab kr
  have he := (spL_plant_e f0 c0 f1 c1 f2 c2 lo up be si pl cu ge fa p1).symm
  have hl : lv_has ls 3 [(0, .ref (ad 0)), (1, .int p1)] := hl
  refine lv_aload_n hx hb dL_plant_0 rfl (lv_at hl 0 rfl) ?_
  refine lv_iload_n hx hb dL_plant_1 rfl (lv_at hl 1 rfl) ?_
  have hPc : va_P (dC, dI) vwCl (gv_V cI cL ad f0 c0 f1 c1 f2 c2 lo up be si pl cu ge fa) H := gv_sub [0, 1, 2, 3, 4, 5, 6, 7, 8, 9, 10, 11, 12] hP rfl
  have hDc : va_D (gv_in (gv_V cI cL ad f0 c0 f1 c1 f2 c2 lo up be si pl cu ge fa)) (gv_V cI cL ad f0 c0 f1 c1 f2 c2 lo up be si pl cu ge fa) := gv_D hD [0, 1, 2, 3, 4, 5, 6, 7, 8, 9, 10, 11, 12] (by decide) rfl
  have hXc : gx_T (gv_in (gv_V cI cL ad f0 c0 f1 c1 f2 c2 lo up be si pl cu ge fa)) s H := hX.to hS.2.1 (gv_inA hD [0, 1, 2, 3, 4, 5, 6, 7, 8, 9, 10, 11, 12] rfl)
  refine gx_kv (xp := (fun E => .inl E = spX1_plant f0 c0 f1 c1 f2 c2 lo up be si pl cu ge fa p1 ∧ E ∈ [gE_I, gE_S])) (wf := (fun (u : (Nat → Int32) × (Int32)) => (gv_V cI cL ad u.1 c0 f1 c1 f2 c2 lo up be si u.2 cu ge fa))) (wc := (gv_V cI cL ad f0 c0 f1 c1 f2 c2 lo up be si pl cu ge fa)) [0, 1, 2, 3, 4, 5, 6, 7, 8, 9, 10, 11, 12] (fun _ => rfl) hP hD hS rfl (vx_runV (As := [.int p1]) (rest := []) ⟨hx, hb, hml, hown, hts⟩ (kX1_plant l hst dC dI cI cL ad f0 c0 f1 c1 f2 c2 lo up be si pl cu ge fa p1 (gv_in (gv_V cI cL ad f0 c0 f1 c1 f2 c2 lo up be si pl cu ge fa))) (cwV (rm := gx_R 7 2 102) 1 hts gL_plant_X1_plant rfl rfl rfl (by decide +kernel) ⟨(Nat.le_of_ble_eq_true rfl), (Nat.le_of_ble_eq_true rfl)⟩) (gx_preV (ci := 1) hK hPc hDc hN hXc rfl rfl) rfl rfl hl.1 rfl (lv_room (Nat.le_of_ble_eq_true rfl)) dL_plant_2 ⟨(Nat.le_of_ble_eq_true rfl), (Nat.le_of_ble_eq_true rfl)⟩) (fun E ce q9 H locs hw hP hD hS hc1 hc2 hc3 => ?_) (fun u H locs hw hP hD hS => ?_)
  · have hP : va_P (dC, dI) vwCl (gv_V cI cL ad f0 c0 f1 c1 f2 c2 lo up be si pl cu ge fa) H := hP
    have he := gw_l hw.1 he
    rcases List.mem_cons.mp hw.2 with hE | hE
    · subst hE
      rw [if_pos rfl] at he
      refine vx_catch (own := RL) (name := gE_I) hown [] ⟨0, 5, 8, 20⟩ [⟨0, 5, 11, 15⟩] htab (fun z hz => nomatch hz) (by decide) (by decide) (hts (.classLink RL 20 "java/lang/IndexOutOfBoundsException") (List.mem_of_getElem? (i := 1) rfl)) (va_Nw.use rfl (hX.2.1 (gE_I, gE_I) (by decide))) hc1 hc2 hc3 ?_
      refine lv_astore_n (lv' := [(2, .ref q9), (0, .ref (ad 0)), (1, .int p1)]) hx hb dL_plant_8 rfl hl (by decide) rfl (fun ls hl => ?_)
      refine lv_iconst (v := 1) hx hb dL_plant_9 (by decide) ?_
      exact kr 1 (f0, pl) _ _ _ _ _ _ (Nat.le_of_ble_eq_true rfl) (Nat.le_of_ble_eq_true rfl) he hP hS dL_plant_10
    · obtain rfl : E = gE_S := List.mem_singleton.mp hE
      rw [if_neg (by decide)] at he
      refine vx_catch (own := RL) (name := gE_S) hown [⟨0, 5, 8, 20⟩] ⟨0, 5, 11, 15⟩ [] htab (fun z hz => by obtain rfl := List.mem_singleton.mp hz; exact Or.inr ⟨by decide, gE_I, hts (.classLink RL 20 "java/lang/IndexOutOfBoundsException") (List.mem_of_getElem? (i := 1) rfl), hX.2.2.2.1 (gE_S, gE_I) (by decide)⟩) (by decide) (by decide) (hts (.classLink RL 15 "java/lang/IllegalStateException") (List.mem_of_getElem? (i := 2) rfl)) (va_Nw.use rfl (hX.2.1 (gE_S, gE_S) (by decide))) hc1 hc2 hc3 ?_
      refine lv_astore_n (lv' := [(2, .ref q9), (0, .ref (ad 0)), (1, .int p1)]) hx hb dL_plant_11 rfl hl (by decide) rfl (fun ls hl => ?_)
      refine lv_iconst (v := 2) hx hb dL_plant_12 (by decide) ?_
      exact kr 2 (f0, pl) _ _ _ _ _ _ (Nat.le_of_ble_eq_true rfl) (Nat.le_of_ble_eq_true rfl) he hP hS dL_plant_13
  · obtain ⟨f0_q, pl_q⟩ := u
    have hP : va_P (dC, dI) vwCl (gv_V cI cL ad f0_q c0 f1 c1 f2 c2 lo up be si pl_q cu ge fa) H := hP
    have hD : va_D A (gv_V cI cL ad f0_q c0 f1 c1 f2 c2 lo up be si pl_q cu ge fa) := hD
    have he := gw_r hw he
    refine lv_goto (tgt := 14) hx hb dL_plant_5 (by decide) ?_
    refine lv_iconst (v := 0) hx hb dL_plant_14 (by decide) ?_
    exact kr 0 (f0_q, pl_q) _ _ _ _ _ _ (Nat.le_of_ble_eq_true rfl) (Nat.le_of_ble_eq_true rfl) he hP hS dL_plant_15
def spL_trellis (f0 : Nat → Int32) (c0 : Nat → Int32) (f1 : Nat → Int32) (c1 : Nat → Int32) (f2 : Nat → Int32) (c2 : Nat → Int32) (lo : Nat → Int64) (up : Nat → Int64) (be : Nat → Int32) (si : Int32) (pl : Int32) (cu : Int32) (ge : Int32) (fa : Int32) (ou : Nat → Int64) (p1 : Int32) (p2 : Int32) : Int32 × (Nat → Int32) × (Nat → Int64) := gw_b (spX1_trellis f0 c0 f1 c1 f2 c2 lo up be si pl cu ge fa p1 p2) (fun E => ((if E = gE_I then 1 else 2), be, ou)) (fun u => (0, u.2, vp_updL ou 0 (Int32.toInt64 u.1)))
theorem spL_trellis_e (f0 : Nat → Int32) (c0 : Nat → Int32) (f1 : Nat → Int32) (c1 : Nat → Int32) (f2 : Nat → Int32) (c2 : Nat → Int32) (lo : Nat → Int64) (up : Nat → Int64) (be : Nat → Int32) (si : Int32) (pl : Int32) (cu : Int32) (ge : Int32) (fa : Int32) (ou : Nat → Int64) (p1 : Int32) (p2 : Int32) : spL_trellis f0 c0 f1 c1 f2 c2 lo up be si pl cu ge fa ou p1 p2 = gw_b (spX1_trellis f0 c0 f1 c1 f2 c2 lo up be si pl cu ge fa p1 p2) (fun E => ((if E = gE_I then 1 else 2), be, ou)) (fun u => (0, u.2, vp_updL ou 0 (Int32.toInt64 u.1))) := rfl
set_option maxHeartbeats 4000000 in
set_option maxRecDepth 100000 in
theorem kL_trellis (l : Launch) (hst : l.stackTraces = false) (dC : Nat → ClassId) (dI : Nat → Nat → Nat) (cI cL : ClassId) (ad : Nat → Nat) (oa : Nat) (f0 : Nat → Int32) (c0 : Nat → Int32) (f1 : Nat → Int32) (c1 : Nat → Int32) (f2 : Nat → Int32) (c2 : Nat → Int32) (lo : Nat → Int64) (up : Nat → Int64) (be : Nat → Int32) (si : Int32) (pl : Int32) (cu : Int32) (ge : Int32) (fa : Int32) (ou : Nat → Int64) (p1 : Int32) (p2 : Int32) : gw_M l yL_trellis wsL_trellis 8 2 125 (dC, dI) [(cI, .int), (cL, .long)] [.ref (ad 0), .int p1, .int p2, .ref oa] (gw_V cI cL ad oa f0 c0 f1 c1 f2 c2 lo up be si pl cu ge fa ou) (fun (r : Int32) (u : (Nat → Int32) × (Nat → Int64)) => (r, u) = spL_trellis f0 c0 f1 c1 f2 c2 lo up be si pl cu ge fa ou p1 p2) (fun (u : (Nat → Int32) × (Nat → Int64)) => (gw_V cI cL ad oa f0 c0 f1 c1 f2 c2 lo up u.1 si pl cu ge fa u.2)) := by
  refine gw_of (cc := cL_trellis) (maxL := 5) (hh := [(0, 10, 13, 20), (0, 10, 17, 13)]) (by decide) rfl (Nat.le_of_ble_eq_true rfl) rfl ?_
  intro A p e s m args below meth c Q ls H locs hx hb hml hts hown hP hK hD hN hX hS hl htab kr
  have he := (spL_trellis_e f0 c0 f1 c1 f2 c2 lo up be si pl cu ge fa ou p1 p2).symm
  have hl : lv_has ls 5 [(0, .ref (ad 0)), (1, .int p1), (2, .int p2), (3, .ref oa)] := hl
  refine lv_aload_n hx hb dL_trellis_0 rfl (lv_at hl 3 rfl) ?_
  refine lv_iconst (v := 0) hx hb dL_trellis_1 (by decide) ?_
  refine lv_aload_n hx hb dL_trellis_2 rfl (lv_at hl 0 rfl) ?_
  refine lv_iload_n hx hb dL_trellis_3 rfl (lv_at hl 1 rfl) ?_
  refine lv_iload_n hx hb dL_trellis_4 rfl (lv_at hl 2 rfl) ?_
  have hPc : va_P (dC, dI) vwCl (gv_V cI cL ad f0 c0 f1 c1 f2 c2 lo up be si pl cu ge fa) H := gv_sub [0, 1, 2, 3, 4, 5, 6, 7, 8, 9, 10, 11, 12] hP rfl
  have hDc : va_D (gv_in (gv_V cI cL ad f0 c0 f1 c1 f2 c2 lo up be si pl cu ge fa)) (gv_V cI cL ad f0 c0 f1 c1 f2 c2 lo up be si pl cu ge fa) := gv_D hD [0, 1, 2, 3, 4, 5, 6, 7, 8, 9, 10, 11, 12] (by decide) rfl
  have hXc : gx_T (gv_in (gv_V cI cL ad f0 c0 f1 c1 f2 c2 lo up be si pl cu ge fa)) s H := hX.to hS.2.1 (gv_inA hD [0, 1, 2, 3, 4, 5, 6, 7, 8, 9, 10, 11, 12] rfl)
  refine gx_ki (xp := (fun E => .inl E = spX1_trellis f0 c0 f1 c1 f2 c2 lo up be si pl cu ge fa p1 p2 ∧ E ∈ [gE_I, gE_A])) (wf := (fun (u : (Nat → Int32)) => (gv_V cI cL ad f0 c0 f1 c1 f2 c2 lo up u si pl cu ge fa))) (wc := (gv_V cI cL ad f0 c0 f1 c1 f2 c2 lo up be si pl cu ge fa)) [0, 1, 2, 3, 4, 5, 6, 7, 8, 9, 10, 11, 12] (fun _ => rfl) hP hD hS rfl (vx_runV (As := [.int p1, .int p2]) (rest := [.int 0, .ref oa]) ⟨hx, hb, hml, hown, hts⟩ (kX1_trellis l hst dC dI cI cL ad f0 c0 f1 c1 f2 c2 lo up be si pl cu ge fa p1 p2 (gv_in (gv_V cI cL ad f0 c0 f1 c1 f2 c2 lo up be si pl cu ge fa))) (cwV (rm := gx_R 7 2 102) 2 hts gL_trellis_X1_trellis rfl rfl rfl (by decide +kernel) ⟨(Nat.le_of_ble_eq_true rfl), (Nat.le_of_ble_eq_true rfl)⟩) (gx_preV (ci := 1) hK hPc hDc hN hXc rfl rfl) rfl rfl hl.1 rfl (lv_room (Nat.le_of_ble_eq_true rfl)) dL_trellis_5 ⟨(Nat.le_of_ble_eq_true rfl), (Nat.le_of_ble_eq_true rfl)⟩) (fun E ce q9 H locs hw hP hD hS hc1 hc2 hc3 => ?_) (fun r u H locs hw hP hD hS => ?_)
  · have hP : va_P (dC, dI) vwCl (gw_V cI cL ad oa f0 c0 f1 c1 f2 c2 lo up be si pl cu ge fa ou) H := hP
    have he := gw_l hw.1 he
    rcases List.mem_cons.mp hw.2 with hE | hE
    · subst hE
      rw [if_pos rfl] at he
      refine vx_catch (own := RL) (name := gE_I) hown [] ⟨0, 10, 13, 20⟩ [⟨0, 10, 17, 13⟩] htab (fun z hz => nomatch hz) (by decide) (by decide) (hts (.classLink RL 20 "java/lang/IndexOutOfBoundsException") (List.mem_of_getElem? (i := 1) rfl)) (va_Nw.use rfl (hX.2.1 (gE_I, gE_I) (by decide))) hc1 hc2 hc3 ?_
      refine lv_astore (lv' := [(4, .ref q9), (0, .ref (ad 0)), (1, .int p1), (2, .int p2), (3, .ref oa)]) hx hb dL_trellis_13 hl (by decide) rfl (fun ls hl => ?_)
      refine lv_iconst (v := 1) hx hb dL_trellis_15 (by decide) ?_
      exact kr 1 (be, ou) _ _ _ _ _ _ (Nat.le_of_ble_eq_true rfl) (Nat.le_of_ble_eq_true rfl) he hP hS dL_trellis_16
    · obtain rfl : E = gE_A := List.mem_singleton.mp hE
      rw [if_neg (by decide)] at he
      refine vx_catch (own := RL) (name := gE_A) hown [⟨0, 10, 13, 20⟩] ⟨0, 10, 17, 13⟩ [] htab (fun z hz => by obtain rfl := List.mem_singleton.mp hz; exact Or.inr ⟨by decide, gE_I, hts (.classLink RL 20 "java/lang/IndexOutOfBoundsException") (List.mem_of_getElem? (i := 1) rfl), hX.2.2.2.1 (gE_A, gE_I) (by decide)⟩) (by decide) (by decide) (hts (.classLink RL 13 "java/lang/IllegalArgumentException") (List.mem_of_getElem? (i := 2) rfl)) (va_Nw.use rfl (hX.2.1 (gE_A, gE_A) (by decide))) hc1 hc2 hc3 ?_
      refine lv_astore (lv' := [(4, .ref q9), (0, .ref (ad 0)), (1, .int p1), (2, .int p2), (3, .ref oa)]) hx hb dL_trellis_17 hl (by decide) rfl (fun ls hl => ?_)
      refine lv_iconst (v := 2) hx hb dL_trellis_19 (by decide) ?_
      exact kr 2 (be, ou) _ _ _ _ _ _ (Nat.le_of_ble_eq_true rfl) (Nat.le_of_ble_eq_true rfl) he hP hS dL_trellis_20
  · obtain ⟨be_q, rfl⟩ : ∃ z, z = u := ⟨_, rfl⟩
    have hP : va_P (dC, dI) vwCl (gw_V cI cL ad oa f0 c0 f1 c1 f2 c2 lo up be_q si pl cu ge fa ou) H := hP
    have hD : va_D A (gw_V cI cL ad oa f0 c0 f1 c1 f2 c2 lo up be_q si pl cu ge fa ou) := hD
    have he := gw_r hw he
    refine lv_i2l (v := r.toInt64) hx hb dL_trellis_8 rfl ?_
    refine gv_last (cA := cL) (k := 0) hx hb hK hP hD hS 13 1 rfl rfl rfl (by decide) (by decide) dL_trellis_9 (fun H locs hP hD hS => ?_)
    have hP : va_P (dC, dI) vwCl (gw_V cI cL ad oa f0 c0 f1 c1 f2 c2 lo up be_q si pl cu ge fa (vp_updL ou 0 r.toInt64)) H := hP
    refine lv_goto (tgt := 21) hx hb dL_trellis_10 (by decide) ?_
    refine lv_iconst (v := 0) hx hb dL_trellis_21 (by decide) ?_
    exact kr 0 (be_q, (vp_updL ou 0 r.toInt64)) _ _ _ _ _ _ (Nat.le_of_ble_eq_true rfl) (Nat.le_of_ble_eq_true rfl) he hP hS dL_trellis_22
def spL_cut (f0 : Nat → Int32) (c0 : Nat → Int32) (f1 : Nat → Int32) (c1 : Nat → Int32) (f2 : Nat → Int32) (c2 : Nat → Int32) (lo : Nat → Int64) (up : Nat → Int64) (be : Nat → Int32) (si : Int32) (pl : Int32) (cu : Int32) (ge : Int32) (fa : Int32) (ou : Nat → Int64) (p1 : Int32) (p2 : Int32) : Int32 × (Nat → Int32) × (Nat → Int32) × (Int32) × (Nat → Int64) := gw_b (spX1_cut f0 c0 f1 c1 f2 c2 lo up be si pl cu ge fa p1 p2) (fun E => ((if E = gE_I then 1 else 2), f0, c0, cu, ou)) (fun u => (0, u.2.1, u.2.2.1, u.2.2.2, vp_updL ou 0 (Int32.toInt64 u.1)))
theorem spL_cut_e (f0 : Nat → Int32) (c0 : Nat → Int32) (f1 : Nat → Int32) (c1 : Nat → Int32) (f2 : Nat → Int32) (c2 : Nat → Int32) (lo : Nat → Int64) (up : Nat → Int64) (be : Nat → Int32) (si : Int32) (pl : Int32) (cu : Int32) (ge : Int32) (fa : Int32) (ou : Nat → Int64) (p1 : Int32) (p2 : Int32) : spL_cut f0 c0 f1 c1 f2 c2 lo up be si pl cu ge fa ou p1 p2 = gw_b (spX1_cut f0 c0 f1 c1 f2 c2 lo up be si pl cu ge fa p1 p2) (fun E => ((if E = gE_I then 1 else 2), f0, c0, cu, ou)) (fun u => (0, u.2.1, u.2.2.1, u.2.2.2, vp_updL ou 0 (Int32.toInt64 u.1))) := rfl
set_option maxHeartbeats 4000000 in
set_option maxRecDepth 100000 in
theorem kL_cut (l : Launch) (hst : l.stackTraces = false) (dC : Nat → ClassId) (dI : Nat → Nat → Nat) (cI cL : ClassId) (ad : Nat → Nat) (oa : Nat) (f0 : Nat → Int32) (c0 : Nat → Int32) (f1 : Nat → Int32) (c1 : Nat → Int32) (f2 : Nat → Int32) (c2 : Nat → Int32) (lo : Nat → Int64) (up : Nat → Int64) (be : Nat → Int32) (si : Int32) (pl : Int32) (cu : Int32) (ge : Int32) (fa : Int32) (ou : Nat → Int64) (p1 : Int32) (p2 : Int32) : gw_M l yL_cut wsL_cut 8 2 125 (dC, dI) [(cI, .int), (cL, .long)] [.ref (ad 0), .int p1, .int p2, .ref oa] (gw_V cI cL ad oa f0 c0 f1 c1 f2 c2 lo up be si pl cu ge fa ou) (fun (r : Int32) (u : (Nat → Int32) × (Nat → Int32) × (Int32) × (Nat → Int64)) => (r, u) = spL_cut f0 c0 f1 c1 f2 c2 lo up be si pl cu ge fa ou p1 p2) (fun (u : (Nat → Int32) × (Nat → Int32) × (Int32) × (Nat → Int64)) => (gw_V cI cL ad oa u.1 u.2.1 f1 c1 f2 c2 lo up be si pl u.2.2.1 ge fa u.2.2.2)) := by
  refine gw_of (cc := cL_cut) (maxL := 5) (hh := [(0, 10, 13, 20), (0, 10, 17, 15)]) (by decide) rfl (Nat.le_of_ble_eq_true rfl) rfl ?_
  intro A p e s m args below meth c Q ls H locs hx hb hml hts hown hP hK hD hN hX hS hl htab kr
  have he := (spL_cut_e f0 c0 f1 c1 f2 c2 lo up be si pl cu ge fa ou p1 p2).symm
  have hl : lv_has ls 5 [(0, .ref (ad 0)), (1, .int p1), (2, .int p2), (3, .ref oa)] := hl
  refine lv_aload_n hx hb dL_cut_0 rfl (lv_at hl 3 rfl) ?_
  refine lv_iconst (v := 0) hx hb dL_cut_1 (by decide) ?_
  refine lv_aload_n hx hb dL_cut_2 rfl (lv_at hl 0 rfl) ?_
  refine lv_iload_n hx hb dL_cut_3 rfl (lv_at hl 1 rfl) ?_
  refine lv_iload_n hx hb dL_cut_4 rfl (lv_at hl 2 rfl) ?_
  have hPc : va_P (dC, dI) vwCl (gv_V cI cL ad f0 c0 f1 c1 f2 c2 lo up be si pl cu ge fa) H := gv_sub [0, 1, 2, 3, 4, 5, 6, 7, 8, 9, 10, 11, 12] hP rfl
  have hDc : va_D (gv_in (gv_V cI cL ad f0 c0 f1 c1 f2 c2 lo up be si pl cu ge fa)) (gv_V cI cL ad f0 c0 f1 c1 f2 c2 lo up be si pl cu ge fa) := gv_D hD [0, 1, 2, 3, 4, 5, 6, 7, 8, 9, 10, 11, 12] (by decide) rfl
  have hXc : gx_T (gv_in (gv_V cI cL ad f0 c0 f1 c1 f2 c2 lo up be si pl cu ge fa)) s H := hX.to hS.2.1 (gv_inA hD [0, 1, 2, 3, 4, 5, 6, 7, 8, 9, 10, 11, 12] rfl)
  refine gx_ki (xp := (fun E => .inl E = spX1_cut f0 c0 f1 c1 f2 c2 lo up be si pl cu ge fa p1 p2 ∧ E ∈ [gE_I, gE_S])) (wf := (fun (u : (Nat → Int32) × (Nat → Int32) × (Int32)) => (gv_V cI cL ad u.1 u.2.1 f1 c1 f2 c2 lo up be si pl u.2.2 ge fa))) (wc := (gv_V cI cL ad f0 c0 f1 c1 f2 c2 lo up be si pl cu ge fa)) [0, 1, 2, 3, 4, 5, 6, 7, 8, 9, 10, 11, 12] (fun _ => rfl) hP hD hS rfl (vx_runV (As := [.int p1, .int p2]) (rest := [.int 0, .ref oa]) ⟨hx, hb, hml, hown, hts⟩ (kX1_cut l hst dC dI cI cL ad f0 c0 f1 c1 f2 c2 lo up be si pl cu ge fa p1 p2 (gv_in (gv_V cI cL ad f0 c0 f1 c1 f2 c2 lo up be si pl cu ge fa))) (cwV (rm := gx_R 7 2 103) 2 hts gL_cut_X1_cut rfl rfl rfl (by decide +kernel) ⟨(Nat.le_of_ble_eq_true rfl), (Nat.le_of_ble_eq_true rfl)⟩) (gx_preV (ci := 1) hK hPc hDc hN hXc rfl rfl) rfl rfl hl.1 rfl (lv_room (Nat.le_of_ble_eq_true rfl)) dL_cut_5 ⟨(Nat.le_of_ble_eq_true rfl), (Nat.le_of_ble_eq_true rfl)⟩) (fun E ce q9 H locs hw hP hD hS hc1 hc2 hc3 => ?_) (fun r u H locs hw hP hD hS => ?_)
  · have hP : va_P (dC, dI) vwCl (gw_V cI cL ad oa f0 c0 f1 c1 f2 c2 lo up be si pl cu ge fa ou) H := hP
    have he := gw_l hw.1 he
    rcases List.mem_cons.mp hw.2 with hE | hE
    · subst hE
      rw [if_pos rfl] at he
      refine vx_catch (own := RL) (name := gE_I) hown [] ⟨0, 10, 13, 20⟩ [⟨0, 10, 17, 15⟩] htab (fun z hz => nomatch hz) (by decide) (by decide) (hts (.classLink RL 20 "java/lang/IndexOutOfBoundsException") (List.mem_of_getElem? (i := 1) rfl)) (va_Nw.use rfl (hX.2.1 (gE_I, gE_I) (by decide))) hc1 hc2 hc3 ?_
      refine lv_astore (lv' := [(4, .ref q9), (0, .ref (ad 0)), (1, .int p1), (2, .int p2), (3, .ref oa)]) hx hb dL_cut_13 hl (by decide) rfl (fun ls hl => ?_)
      refine lv_iconst (v := 1) hx hb dL_cut_15 (by decide) ?_
      exact kr 1 (f0, c0, cu, ou) _ _ _ _ _ _ (Nat.le_of_ble_eq_true rfl) (Nat.le_of_ble_eq_true rfl) he hP hS dL_cut_16
    · obtain rfl : E = gE_S := List.mem_singleton.mp hE
      rw [if_neg (by decide)] at he
      refine vx_catch (own := RL) (name := gE_S) hown [⟨0, 10, 13, 20⟩] ⟨0, 10, 17, 15⟩ [] htab (fun z hz => by obtain rfl := List.mem_singleton.mp hz; exact Or.inr ⟨by decide, gE_I, hts (.classLink RL 20 "java/lang/IndexOutOfBoundsException") (List.mem_of_getElem? (i := 1) rfl), hX.2.2.2.1 (gE_S, gE_I) (by decide)⟩) (by decide) (by decide) (hts (.classLink RL 15 "java/lang/IllegalStateException") (List.mem_of_getElem? (i := 2) rfl)) (va_Nw.use rfl (hX.2.1 (gE_S, gE_S) (by decide))) hc1 hc2 hc3 ?_
      refine lv_astore (lv' := [(4, .ref q9), (0, .ref (ad 0)), (1, .int p1), (2, .int p2), (3, .ref oa)]) hx hb dL_cut_17 hl (by decide) rfl (fun ls hl => ?_)
      refine lv_iconst (v := 2) hx hb dL_cut_19 (by decide) ?_
      exact kr 2 (f0, c0, cu, ou) _ _ _ _ _ _ (Nat.le_of_ble_eq_true rfl) (Nat.le_of_ble_eq_true rfl) he hP hS dL_cut_20
  · obtain ⟨f0_q, c0_q, cu_q⟩ := u
    have hP : va_P (dC, dI) vwCl (gw_V cI cL ad oa f0_q c0_q f1 c1 f2 c2 lo up be si pl cu_q ge fa ou) H := hP
    have hD : va_D A (gw_V cI cL ad oa f0_q c0_q f1 c1 f2 c2 lo up be si pl cu_q ge fa ou) := hD
    have he := gw_r hw he
    refine lv_i2l (v := r.toInt64) hx hb dL_cut_8 rfl ?_
    refine gv_last (cA := cL) (k := 0) hx hb hK hP hD hS 13 1 rfl rfl rfl (by decide) (by decide) dL_cut_9 (fun H locs hP hD hS => ?_)
    have hP : va_P (dC, dI) vwCl (gw_V cI cL ad oa f0_q c0_q f1 c1 f2 c2 lo up be si pl cu_q ge fa (vp_updL ou 0 r.toInt64)) H := hP
    refine lv_goto (tgt := 21) hx hb dL_cut_10 (by decide) ?_
    refine lv_iconst (v := 0) hx hb dL_cut_21 (by decide) ?_
    exact kr 0 (f0_q, c0_q, cu_q, (vp_updL ou 0 r.toInt64)) _ _ _ _ _ _ (Nat.le_of_ble_eq_true rfl) (Nat.le_of_ble_eq_true rfl) he hP hS dL_cut_22
def spL_grow (f0 : Nat → Int32) (c0 : Nat → Int32) (f1 : Nat → Int32) (c1 : Nat → Int32) (f2 : Nat → Int32) (c2 : Nat → Int32) (lo : Nat → Int64) (up : Nat → Int64) (be : Nat → Int32) (si : Int32) (pl : Int32) (cu : Int32) (ge : Int32) (fa : Int32) (ou : Nat → Int64) : Int32 × (Nat → Int32) × (Nat → Int32) × (Nat → Int32) × (Nat → Int32) × (Int32) × (Int32) × (Int32) × (Nat → Int64) := gw_b (spX1_grow f0 c0 f1 c1 f2 c2 lo up be si pl cu ge fa) (fun E => (1, f0, c0, f2, c2, cu, ge, fa, ou)) (fun u => (0, u.2.1, u.2.2.1, u.2.2.2.1, u.2.2.2.2.1, u.2.2.2.2.2.1, u.2.2.2.2.2.2.1, u.2.2.2.2.2.2.2, vp_updL ou 0 (Int32.toInt64 u.1)))
theorem spL_grow_e (f0 : Nat → Int32) (c0 : Nat → Int32) (f1 : Nat → Int32) (c1 : Nat → Int32) (f2 : Nat → Int32) (c2 : Nat → Int32) (lo : Nat → Int64) (up : Nat → Int64) (be : Nat → Int32) (si : Int32) (pl : Int32) (cu : Int32) (ge : Int32) (fa : Int32) (ou : Nat → Int64) : spL_grow f0 c0 f1 c1 f2 c2 lo up be si pl cu ge fa ou = gw_b (spX1_grow f0 c0 f1 c1 f2 c2 lo up be si pl cu ge fa) (fun E => (1, f0, c0, f2, c2, cu, ge, fa, ou)) (fun u => (0, u.2.1, u.2.2.1, u.2.2.2.1, u.2.2.2.2.1, u.2.2.2.2.2.1, u.2.2.2.2.2.2.1, u.2.2.2.2.2.2.2, vp_updL ou 0 (Int32.toInt64 u.1))) := rfl
set_option maxHeartbeats 4000000 in
set_option maxRecDepth 100000 in
theorem kL_grow (l : Launch) (hst : l.stackTraces = false) (dC : Nat → ClassId) (dI : Nat → Nat → Nat) (cI cL : ClassId) (ad : Nat → Nat) (oa : Nat) (f0 : Nat → Int32) (c0 : Nat → Int32) (f1 : Nat → Int32) (c1 : Nat → Int32) (f2 : Nat → Int32) (c2 : Nat → Int32) (lo : Nat → Int64) (up : Nat → Int64) (be : Nat → Int32) (si : Int32) (pl : Int32) (cu : Int32) (ge : Int32) (fa : Int32) (ou : Nat → Int64) : gw_M l yL_grow wsL_grow 7 1 145 (dC, dI) [(cI, .int), (cL, .long)] [.ref (ad 0), .ref oa] (gw_V cI cL ad oa f0 c0 f1 c1 f2 c2 lo up be si pl cu ge fa ou) (fun (r : Int32) (u : (Nat → Int32) × (Nat → Int32) × (Nat → Int32) × (Nat → Int32) × (Int32) × (Int32) × (Int32) × (Nat → Int64)) => (r, u) = spL_grow f0 c0 f1 c1 f2 c2 lo up be si pl cu ge fa ou) (fun (u : (Nat → Int32) × (Nat → Int32) × (Nat → Int32) × (Nat → Int32) × (Int32) × (Int32) × (Int32) × (Nat → Int64)) => (gw_V cI cL ad oa u.1 u.2.1 f1 c1 u.2.2.1 u.2.2.2.1 lo up be si pl u.2.2.2.2.1 u.2.2.2.2.2.1 u.2.2.2.2.2.2.1 u.2.2.2.2.2.2.2)) := by
  refine gw_of (cc := cL_grow) (maxL := 3) (hh := [(0, 8, 11, 15)]) (by decide) rfl (Nat.le_of_ble_eq_true rfl) rfl ?_
  intro A p e s m args below meth c Q ls H locs hx hb hml hts hown hP hK hD hN hX hS hl htab kr
  have he := (spL_grow_e f0 c0 f1 c1 f2 c2 lo up be si pl cu ge fa ou).symm
  have hl : lv_has ls 3 [(0, .ref (ad 0)), (1, .ref oa)] := hl
  refine lv_aload_n hx hb dL_grow_0 rfl (lv_at hl 1 rfl) ?_
  refine lv_iconst (v := 0) hx hb dL_grow_1 (by decide) ?_
  refine lv_aload_n hx hb dL_grow_2 rfl (lv_at hl 0 rfl) ?_
  have hPc : va_P (dC, dI) vwCl (gv_V cI cL ad f0 c0 f1 c1 f2 c2 lo up be si pl cu ge fa) H := gv_sub [0, 1, 2, 3, 4, 5, 6, 7, 8, 9, 10, 11, 12] hP rfl
  have hDc : va_D (gv_in (gv_V cI cL ad f0 c0 f1 c1 f2 c2 lo up be si pl cu ge fa)) (gv_V cI cL ad f0 c0 f1 c1 f2 c2 lo up be si pl cu ge fa) := gv_D hD [0, 1, 2, 3, 4, 5, 6, 7, 8, 9, 10, 11, 12] (by decide) rfl
  have hXc : gx_T (gv_in (gv_V cI cL ad f0 c0 f1 c1 f2 c2 lo up be si pl cu ge fa)) s H := hX.to hS.2.1 (gv_inA hD [0, 1, 2, 3, 4, 5, 6, 7, 8, 9, 10, 11, 12] rfl)
  refine gx_ki (xp := (fun E => .inl E = spX1_grow f0 c0 f1 c1 f2 c2 lo up be si pl cu ge fa ∧ E ∈ [gE_S])) (wf := (fun (u : (Nat → Int32) × (Nat → Int32) × (Nat → Int32) × (Nat → Int32) × (Int32) × (Int32) × (Int32)) => (gv_V cI cL ad u.1 u.2.1 f1 c1 u.2.2.1 u.2.2.2.1 lo up be si pl u.2.2.2.2.1 u.2.2.2.2.2.1 u.2.2.2.2.2.2))) (wc := (gv_V cI cL ad f0 c0 f1 c1 f2 c2 lo up be si pl cu ge fa)) [0, 1, 2, 3, 4, 5, 6, 7, 8, 9, 10, 11, 12] (fun _ => rfl) hP hD hS rfl (vx_runV (As := []) (rest := [.int 0, .ref oa]) ⟨hx, hb, hml, hown, hts⟩ (kX1_grow l hst dC dI cI cL ad f0 c0 f1 c1 f2 c2 lo up be si pl cu ge fa (gv_in (gv_V cI cL ad f0 c0 f1 c1 f2 c2 lo up be si pl cu ge fa))) (cwV (rm := gx_R 6 1 124) 0 hts gL_grow_X1_grow rfl rfl rfl (by decide +kernel) ⟨(Nat.le_of_ble_eq_true rfl), (Nat.le_of_ble_eq_true rfl)⟩) (gx_preV (ci := 1) hK hPc hDc hN hXc rfl rfl) rfl rfl hl.1 rfl (lv_room (Nat.le_of_ble_eq_true rfl)) dL_grow_3 ⟨(Nat.le_of_ble_eq_true rfl), (Nat.le_of_ble_eq_true rfl)⟩) (fun E ce q9 H locs hw hP hD hS hc1 hc2 hc3 => ?_) (fun r u H locs hw hP hD hS => ?_)
  · have hP : va_P (dC, dI) vwCl (gw_V cI cL ad oa f0 c0 f1 c1 f2 c2 lo up be si pl cu ge fa ou) H := hP
    have he := gw_l hw.1 he
    obtain rfl : E = gE_S := List.mem_singleton.mp hw.2
    refine vx_catch (own := RL) (name := gE_S) hown [] ⟨0, 8, 11, 15⟩ [] htab (fun z hz => nomatch hz) (by decide) (by decide) (hts (.classLink RL 15 "java/lang/IllegalStateException") (List.mem_of_getElem? (i := 1) rfl)) (va_Nw.use rfl (hX.2.1 (gE_S, gE_S) (by decide))) hc1 hc2 hc3 ?_
    refine lv_astore_n (lv' := [(2, .ref q9), (0, .ref (ad 0)), (1, .ref oa)]) hx hb dL_grow_11 rfl hl (by decide) rfl (fun ls hl => ?_)
    refine lv_iconst (v := 1) hx hb dL_grow_12 (by decide) ?_
    exact kr 1 (f0, c0, f2, c2, cu, ge, fa, ou) _ _ _ _ _ _ (Nat.le_of_ble_eq_true rfl) (Nat.le_of_ble_eq_true rfl) he hP hS dL_grow_13
  · obtain ⟨f0_q, c0_q, f2_q, c2_q, cu_q, ge_q, fa_q⟩ := u
    have hP : va_P (dC, dI) vwCl (gw_V cI cL ad oa f0_q c0_q f1 c1 f2_q c2_q lo up be si pl cu_q ge_q fa_q ou) H := hP
    have hD : va_D A (gw_V cI cL ad oa f0_q c0_q f1 c1 f2_q c2_q lo up be si pl cu_q ge_q fa_q ou) := hD
    have he := gw_r hw he
    refine lv_i2l (v := r.toInt64) hx hb dL_grow_6 rfl ?_
    refine gv_last (cA := cL) (k := 0) hx hb hK hP hD hS 13 1 rfl rfl rfl (by decide) (by decide) dL_grow_7 (fun H locs hP hD hS => ?_)
    have hP : va_P (dC, dI) vwCl (gw_V cI cL ad oa f0_q c0_q f1 c1 f2_q c2_q lo up be si pl cu_q ge_q fa_q (vp_updL ou 0 r.toInt64)) H := hP
    refine lv_goto (tgt := 14) hx hb dL_grow_8 (by decide) ?_
    refine lv_iconst (v := 0) hx hb dL_grow_14 (by decide) ?_
    exact kr 0 (f0_q, c0_q, f2_q, c2_q, cu_q, ge_q, fa_q, (vp_updL ou 0 r.toInt64)) _ _ _ _ _ _ (Nat.le_of_ble_eq_true rfl) (Nat.le_of_ble_eq_true rfl) he hP hS dL_grow_15
def spL_look (f0 : Nat → Int32) (c0 : Nat → Int32) (f1 : Nat → Int32) (c1 : Nat → Int32) (f2 : Nat → Int32) (c2 : Nat → Int32) (lo : Nat → Int64) (up : Nat → Int64) (be : Nat → Int32) (si : Int32) (pl : Int32) (cu : Int32) (ge : Int32) (fa : Int32) (ou : Nat → Int64) (p1 : Int32) (p2 : Int32) : Int32 × (Nat → Int64) := gw_b (spX1_look f0 c0 f1 c1 f2 c2 lo up be si pl cu ge fa p1 p2) (fun E => (1, ou)) (fun u => (0, vp_updL ou 0 (Int32.toInt64 u)))
theorem spL_look_e (f0 : Nat → Int32) (c0 : Nat → Int32) (f1 : Nat → Int32) (c1 : Nat → Int32) (f2 : Nat → Int32) (c2 : Nat → Int32) (lo : Nat → Int64) (up : Nat → Int64) (be : Nat → Int32) (si : Int32) (pl : Int32) (cu : Int32) (ge : Int32) (fa : Int32) (ou : Nat → Int64) (p1 : Int32) (p2 : Int32) : spL_look f0 c0 f1 c1 f2 c2 lo up be si pl cu ge fa ou p1 p2 = gw_b (spX1_look f0 c0 f1 c1 f2 c2 lo up be si pl cu ge fa p1 p2) (fun E => (1, ou)) (fun u => (0, vp_updL ou 0 (Int32.toInt64 u))) := rfl
set_option maxHeartbeats 4000000 in
set_option maxRecDepth 100000 in
theorem kL_look (l : Launch) (hst : l.stackTraces = false) (dC : Nat → ClassId) (dI : Nat → Nat → Nat) (cI cL : ClassId) (ad : Nat → Nat) (oa : Nat) (f0 : Nat → Int32) (c0 : Nat → Int32) (f1 : Nat → Int32) (c1 : Nat → Int32) (f2 : Nat → Int32) (c2 : Nat → Int32) (lo : Nat → Int64) (up : Nat → Int64) (be : Nat → Int32) (si : Int32) (pl : Int32) (cu : Int32) (ge : Int32) (fa : Int32) (ou : Nat → Int64) (p1 : Int32) (p2 : Int32) : gw_M l yL_look wsL_look 8 1 125 (dC, dI) [(cI, .int), (cL, .long)] [.ref (ad 0), .int p1, .int p2, .ref oa] (gw_V cI cL ad oa f0 c0 f1 c1 f2 c2 lo up be si pl cu ge fa ou) (fun (r : Int32) (u : (Nat → Int64)) => (r, u) = spL_look f0 c0 f1 c1 f2 c2 lo up be si pl cu ge fa ou p1 p2) (fun (u : (Nat → Int64)) => (gw_V cI cL ad oa f0 c0 f1 c1 f2 c2 lo up be si pl cu ge fa u)) := by
  refine gw_of (cc := cL_look) (maxL := 5) (hh := [(0, 10, 13, 20)]) (by decide) rfl (Nat.le_of_ble_eq_true rfl) rfl ?_
  intro A p e s m args below meth c Q ls H locs hx hb hml hts hown hP hK hD hN hX hS hl htab kr
  have he := (spL_look_e f0 c0 f1 c1 f2 c2 lo up be si pl cu ge fa ou p1 p2).symm
  have hl : lv_has ls 5 [(0, .ref (ad 0)), (1, .int p1), (2, .int p2), (3, .ref oa)] := hl
  refine lv_aload_n hx hb dL_look_0 rfl (lv_at hl 3 rfl) ?_
  refine lv_iconst (v := 0) hx hb dL_look_1 (by decide) ?_
  refine lv_aload_n hx hb dL_look_2 rfl (lv_at hl 0 rfl) ?_
  refine lv_iload_n hx hb dL_look_3 rfl (lv_at hl 1 rfl) ?_
  refine lv_iload_n hx hb dL_look_4 rfl (lv_at hl 2 rfl) ?_
  have hPc : va_P (dC, dI) vwCl (gv_V cI cL ad f0 c0 f1 c1 f2 c2 lo up be si pl cu ge fa) H := gv_sub [0, 1, 2, 3, 4, 5, 6, 7, 8, 9, 10, 11, 12] hP rfl
  have hDc : va_D (gv_in (gv_V cI cL ad f0 c0 f1 c1 f2 c2 lo up be si pl cu ge fa)) (gv_V cI cL ad f0 c0 f1 c1 f2 c2 lo up be si pl cu ge fa) := gv_D hD [0, 1, 2, 3, 4, 5, 6, 7, 8, 9, 10, 11, 12] (by decide) rfl
  have hXc : gx_T (gv_in (gv_V cI cL ad f0 c0 f1 c1 f2 c2 lo up be si pl cu ge fa)) s H := hX.to hS.2.1 (gv_inA hD [0, 1, 2, 3, 4, 5, 6, 7, 8, 9, 10, 11, 12] rfl)
  refine gx_ki (xp := (fun E => .inl E = spX1_look f0 c0 f1 c1 f2 c2 lo up be si pl cu ge fa p1 p2 ∧ E ∈ [gE_I])) (wf := (fun (_ : Unit) => (gv_V cI cL ad f0 c0 f1 c1 f2 c2 lo up be si pl cu ge fa))) (wc := (gv_V cI cL ad f0 c0 f1 c1 f2 c2 lo up be si pl cu ge fa)) [0, 1, 2, 3, 4, 5, 6, 7, 8, 9, 10, 11, 12] (fun _ => rfl) hP hD hS rfl (vx_runV (As := [.int p1, .int p2]) (rest := [.int 0, .ref oa]) ⟨hx, hb, hml, hown, hts⟩ (kX1_look l hst dC dI cI cL ad f0 c0 f1 c1 f2 c2 lo up be si pl cu ge fa p1 p2 (gv_in (gv_V cI cL ad f0 c0 f1 c1 f2 c2 lo up be si pl cu ge fa))) (cwV (rm := gx_R 7 1 103) 2 hts gL_look_X1_look rfl rfl rfl (by decide +kernel) ⟨(Nat.le_of_ble_eq_true rfl), (Nat.le_of_ble_eq_true rfl)⟩) (gx_preV (ci := 1) hK hPc hDc hN hXc rfl rfl) rfl rfl hl.1 rfl (lv_room (Nat.le_of_ble_eq_true rfl)) dL_look_5 ⟨(Nat.le_of_ble_eq_true rfl), (Nat.le_of_ble_eq_true rfl)⟩) (fun E ce q9 H locs hw hP hD hS hc1 hc2 hc3 => ?_) (fun r u H locs hw hP hD hS => ?_)
  · have hP : va_P (dC, dI) vwCl (gw_V cI cL ad oa f0 c0 f1 c1 f2 c2 lo up be si pl cu ge fa ou) H := hP
    have he := gw_l hw.1 he
    obtain rfl : E = gE_I := List.mem_singleton.mp hw.2
    refine vx_catch (own := RL) (name := gE_I) hown [] ⟨0, 10, 13, 20⟩ [] htab (fun z hz => nomatch hz) (by decide) (by decide) (hts (.classLink RL 20 "java/lang/IndexOutOfBoundsException") (List.mem_of_getElem? (i := 1) rfl)) (va_Nw.use rfl (hX.2.1 (gE_I, gE_I) (by decide))) hc1 hc2 hc3 ?_
    refine lv_astore (lv' := [(4, .ref q9), (0, .ref (ad 0)), (1, .int p1), (2, .int p2), (3, .ref oa)]) hx hb dL_look_13 hl (by decide) rfl (fun ls hl => ?_)
    refine lv_iconst (v := 1) hx hb dL_look_15 (by decide) ?_
    exact kr 1 ou _ _ _ _ _ _ (Nat.le_of_ble_eq_true rfl) (Nat.le_of_ble_eq_true rfl) he hP hS dL_look_16
  · have hE := hw
    have hP : va_P (dC, dI) vwCl (gw_V cI cL ad oa f0 c0 f1 c1 f2 c2 lo up be si pl cu ge fa ou) H := hP
    have hD : va_D A (gw_V cI cL ad oa f0 c0 f1 c1 f2 c2 lo up be si pl cu ge fa ou) := hD
    have he := gw_r hw he
    refine lv_i2l (v := r.toInt64) hx hb dL_look_8 rfl ?_
    refine gv_last (cA := cL) (k := 0) hx hb hK hP hD hS 13 1 rfl rfl rfl (by decide) (by decide) dL_look_9 (fun H locs hP hD hS => ?_)
    have hP : va_P (dC, dI) vwCl (gw_V cI cL ad oa f0 c0 f1 c1 f2 c2 lo up be si pl cu ge fa (vp_updL ou 0 r.toInt64)) H := hP
    refine lv_goto (tgt := 17) hx hb dL_look_10 (by decide) ?_
    refine lv_iconst (v := 0) hx hb dL_look_17 (by decide) ?_
    exact kr 0 (vp_updL ou 0 r.toInt64) _ _ _ _ _ _ (Nat.le_of_ble_eq_true rfl) (Nat.le_of_ble_eq_true rfl) he hP hS dL_look_18
def spL_shadeOf (f0 : Nat → Int32) (c0 : Nat → Int32) (f1 : Nat → Int32) (c1 : Nat → Int32) (f2 : Nat → Int32) (c2 : Nat → Int32) (lo : Nat → Int64) (up : Nat → Int64) (be : Nat → Int32) (si : Int32) (pl : Int32) (cu : Int32) (ge : Int32) (fa : Int32) (ou : Nat → Int64) (p1 : Int32) (p2 : Int32) : Int32 × (Nat → Int64) := gw_b (spX1_shadeOf f0 c0 f1 c1 f2 c2 lo up be si pl cu ge fa p1 p2) (fun E => (1, ou)) (fun u => (0, vp_updL ou 0 (Int32.toInt64 u)))
theorem spL_shadeOf_e (f0 : Nat → Int32) (c0 : Nat → Int32) (f1 : Nat → Int32) (c1 : Nat → Int32) (f2 : Nat → Int32) (c2 : Nat → Int32) (lo : Nat → Int64) (up : Nat → Int64) (be : Nat → Int32) (si : Int32) (pl : Int32) (cu : Int32) (ge : Int32) (fa : Int32) (ou : Nat → Int64) (p1 : Int32) (p2 : Int32) : spL_shadeOf f0 c0 f1 c1 f2 c2 lo up be si pl cu ge fa ou p1 p2 = gw_b (spX1_shadeOf f0 c0 f1 c1 f2 c2 lo up be si pl cu ge fa p1 p2) (fun E => (1, ou)) (fun u => (0, vp_updL ou 0 (Int32.toInt64 u))) := rfl
set_option maxHeartbeats 4000000 in
set_option maxRecDepth 100000 in
theorem kL_shadeOf (l : Launch) (hst : l.stackTraces = false) (dC : Nat → ClassId) (dI : Nat → Nat → Nat) (cI cL : ClassId) (ad : Nat → Nat) (oa : Nat) (f0 : Nat → Int32) (c0 : Nat → Int32) (f1 : Nat → Int32) (c1 : Nat → Int32) (f2 : Nat → Int32) (c2 : Nat → Int32) (lo : Nat → Int64) (up : Nat → Int64) (be : Nat → Int32) (si : Int32) (pl : Int32) (cu : Int32) (ge : Int32) (fa : Int32) (ou : Nat → Int64) (p1 : Int32) (p2 : Int32) : gw_M l yL_shadeOf wsL_shadeOf 8 1 125 (dC, dI) [(cI, .int), (cL, .long)] [.ref (ad 0), .int p1, .int p2, .ref oa] (gw_V cI cL ad oa f0 c0 f1 c1 f2 c2 lo up be si pl cu ge fa ou) (fun (r : Int32) (u : (Nat → Int64)) => (r, u) = spL_shadeOf f0 c0 f1 c1 f2 c2 lo up be si pl cu ge fa ou p1 p2) (fun (u : (Nat → Int64)) => (gw_V cI cL ad oa f0 c0 f1 c1 f2 c2 lo up be si pl cu ge fa u)) := by
  refine gw_of (cc := cL_shadeOf) (maxL := 5) (hh := [(0, 10, 13, 20)]) (by decide) rfl (Nat.le_of_ble_eq_true rfl) rfl ?_
  intro A p e s m args below meth c Q ls H locs hx hb hml hts hown hP hK hD hN hX hS hl htab kr
  have he := (spL_shadeOf_e f0 c0 f1 c1 f2 c2 lo up be si pl cu ge fa ou p1 p2).symm
  have hl : lv_has ls 5 [(0, .ref (ad 0)), (1, .int p1), (2, .int p2), (3, .ref oa)] := hl
  refine lv_aload_n hx hb dL_shadeOf_0 rfl (lv_at hl 3 rfl) ?_
  refine lv_iconst (v := 0) hx hb dL_shadeOf_1 (by decide) ?_
  refine lv_aload_n hx hb dL_shadeOf_2 rfl (lv_at hl 0 rfl) ?_
  refine lv_iload_n hx hb dL_shadeOf_3 rfl (lv_at hl 1 rfl) ?_
  refine lv_iload_n hx hb dL_shadeOf_4 rfl (lv_at hl 2 rfl) ?_
  have hPc : va_P (dC, dI) vwCl (gv_V cI cL ad f0 c0 f1 c1 f2 c2 lo up be si pl cu ge fa) H := gv_sub [0, 1, 2, 3, 4, 5, 6, 7, 8, 9, 10, 11, 12] hP rfl
  have hDc : va_D (gv_in (gv_V cI cL ad f0 c0 f1 c1 f2 c2 lo up be si pl cu ge fa)) (gv_V cI cL ad f0 c0 f1 c1 f2 c2 lo up be si pl cu ge fa) := gv_D hD [0, 1, 2, 3, 4, 5, 6, 7, 8, 9, 10, 11, 12] (by decide) rfl
  have hXc : gx_T (gv_in (gv_V cI cL ad f0 c0 f1 c1 f2 c2 lo up be si pl cu ge fa)) s H := hX.to hS.2.1 (gv_inA hD [0, 1, 2, 3, 4, 5, 6, 7, 8, 9, 10, 11, 12] rfl)
  refine gx_ki (xp := (fun E => .inl E = spX1_shadeOf f0 c0 f1 c1 f2 c2 lo up be si pl cu ge fa p1 p2 ∧ E ∈ [gE_I])) (wf := (fun (_ : Unit) => (gv_V cI cL ad f0 c0 f1 c1 f2 c2 lo up be si pl cu ge fa))) (wc := (gv_V cI cL ad f0 c0 f1 c1 f2 c2 lo up be si pl cu ge fa)) [0, 1, 2, 3, 4, 5, 6, 7, 8, 9, 10, 11, 12] (fun _ => rfl) hP hD hS rfl (vx_runV (As := [.int p1, .int p2]) (rest := [.int 0, .ref oa]) ⟨hx, hb, hml, hown, hts⟩ (kX1_shadeOf l hst dC dI cI cL ad f0 c0 f1 c1 f2 c2 lo up be si pl cu ge fa p1 p2 (gv_in (gv_V cI cL ad f0 c0 f1 c1 f2 c2 lo up be si pl cu ge fa))) (cwV (rm := gx_R 7 1 103) 2 hts gL_shadeOf_X1_shadeOf rfl rfl rfl (by decide +kernel) ⟨(Nat.le_of_ble_eq_true rfl), (Nat.le_of_ble_eq_true rfl)⟩) (gx_preV (ci := 1) hK hPc hDc hN hXc rfl rfl) rfl rfl hl.1 rfl (lv_room (Nat.le_of_ble_eq_true rfl)) dL_shadeOf_5 ⟨(Nat.le_of_ble_eq_true rfl), (Nat.le_of_ble_eq_true rfl)⟩) (fun E ce q9 H locs hw hP hD hS hc1 hc2 hc3 => ?_) (fun r u H locs hw hP hD hS => ?_)
  · have hP : va_P (dC, dI) vwCl (gw_V cI cL ad oa f0 c0 f1 c1 f2 c2 lo up be si pl cu ge fa ou) H := hP
    have he := gw_l hw.1 he
    obtain rfl : E = gE_I := List.mem_singleton.mp hw.2
    refine vx_catch (own := RL) (name := gE_I) hown [] ⟨0, 10, 13, 20⟩ [] htab (fun z hz => nomatch hz) (by decide) (by decide) (hts (.classLink RL 20 "java/lang/IndexOutOfBoundsException") (List.mem_of_getElem? (i := 1) rfl)) (va_Nw.use rfl (hX.2.1 (gE_I, gE_I) (by decide))) hc1 hc2 hc3 ?_
    refine lv_astore (lv' := [(4, .ref q9), (0, .ref (ad 0)), (1, .int p1), (2, .int p2), (3, .ref oa)]) hx hb dL_shadeOf_13 hl (by decide) rfl (fun ls hl => ?_)
    refine lv_iconst (v := 1) hx hb dL_shadeOf_15 (by decide) ?_
    exact kr 1 ou _ _ _ _ _ _ (Nat.le_of_ble_eq_true rfl) (Nat.le_of_ble_eq_true rfl) he hP hS dL_shadeOf_16
  · have hE := hw
    have hP : va_P (dC, dI) vwCl (gw_V cI cL ad oa f0 c0 f1 c1 f2 c2 lo up be si pl cu ge fa ou) H := hP
    have hD : va_D A (gw_V cI cL ad oa f0 c0 f1 c1 f2 c2 lo up be si pl cu ge fa ou) := hD
    have he := gw_r hw he
    refine lv_i2l (v := r.toInt64) hx hb dL_shadeOf_8 rfl ?_
    refine gv_last (cA := cL) (k := 0) hx hb hK hP hD hS 13 1 rfl rfl rfl (by decide) (by decide) dL_shadeOf_9 (fun H locs hP hD hS => ?_)
    have hP : va_P (dC, dI) vwCl (gw_V cI cL ad oa f0 c0 f1 c1 f2 c2 lo up be si pl cu ge fa (vp_updL ou 0 r.toInt64)) H := hP
    refine lv_goto (tgt := 17) hx hb dL_shadeOf_10 (by decide) ?_
    refine lv_iconst (v := 0) hx hb dL_shadeOf_17 (by decide) ?_
    exact kr 0 (vp_updL ou 0 r.toInt64) _ _ _ _ _ _ (Nat.le_of_ble_eq_true rfl) (Nat.le_of_ble_eq_true rfl) he hP hS dL_shadeOf_18
def spL_holdersOf (f0 : Nat → Int32) (c0 : Nat → Int32) (f1 : Nat → Int32) (c1 : Nat → Int32) (f2 : Nat → Int32) (c2 : Nat → Int32) (lo : Nat → Int64) (up : Nat → Int64) (be : Nat → Int32) (si : Int32) (pl : Int32) (cu : Int32) (ge : Int32) (fa : Int32) (ou : Nat → Int64) (p1 : Int32) (p2 : Int32) : Int32 × (Nat → Int64) := gw_b (spX1_holdersOf f0 c0 f1 c1 f2 c2 lo up be si pl cu ge fa p1 p2) (fun E => (1, ou)) (fun u => (0, vp_updL ou 0 (Int32.toInt64 u)))
theorem spL_holdersOf_e (f0 : Nat → Int32) (c0 : Nat → Int32) (f1 : Nat → Int32) (c1 : Nat → Int32) (f2 : Nat → Int32) (c2 : Nat → Int32) (lo : Nat → Int64) (up : Nat → Int64) (be : Nat → Int32) (si : Int32) (pl : Int32) (cu : Int32) (ge : Int32) (fa : Int32) (ou : Nat → Int64) (p1 : Int32) (p2 : Int32) : spL_holdersOf f0 c0 f1 c1 f2 c2 lo up be si pl cu ge fa ou p1 p2 = gw_b (spX1_holdersOf f0 c0 f1 c1 f2 c2 lo up be si pl cu ge fa p1 p2) (fun E => (1, ou)) (fun u => (0, vp_updL ou 0 (Int32.toInt64 u))) := rfl
set_option maxHeartbeats 4000000 in
set_option maxRecDepth 100000 in
theorem kL_holdersOf (l : Launch) (hst : l.stackTraces = false) (dC : Nat → ClassId) (dI : Nat → Nat → Nat) (cI cL : ClassId) (ad : Nat → Nat) (oa : Nat) (f0 : Nat → Int32) (c0 : Nat → Int32) (f1 : Nat → Int32) (c1 : Nat → Int32) (f2 : Nat → Int32) (c2 : Nat → Int32) (lo : Nat → Int64) (up : Nat → Int64) (be : Nat → Int32) (si : Int32) (pl : Int32) (cu : Int32) (ge : Int32) (fa : Int32) (ou : Nat → Int64) (p1 : Int32) (p2 : Int32) : gw_M l yL_holdersOf wsL_holdersOf 8 1 125 (dC, dI) [(cI, .int), (cL, .long)] [.ref (ad 0), .int p1, .int p2, .ref oa] (gw_V cI cL ad oa f0 c0 f1 c1 f2 c2 lo up be si pl cu ge fa ou) (fun (r : Int32) (u : (Nat → Int64)) => (r, u) = spL_holdersOf f0 c0 f1 c1 f2 c2 lo up be si pl cu ge fa ou p1 p2) (fun (u : (Nat → Int64)) => (gw_V cI cL ad oa f0 c0 f1 c1 f2 c2 lo up be si pl cu ge fa u)) := by
  refine gw_of (cc := cL_holdersOf) (maxL := 5) (hh := [(0, 10, 13, 20)]) (by decide) rfl (Nat.le_of_ble_eq_true rfl) rfl ?_
  intro A p e s m args below meth c Q ls H locs hx hb hml hts hown hP hK hD hN hX hS hl htab kr
  have he := (spL_holdersOf_e f0 c0 f1 c1 f2 c2 lo up be si pl cu ge fa ou p1 p2).symm
  have hl : lv_has ls 5 [(0, .ref (ad 0)), (1, .int p1), (2, .int p2), (3, .ref oa)] := hl
  refine lv_aload_n hx hb dL_holdersOf_0 rfl (lv_at hl 3 rfl) ?_
  refine lv_iconst (v := 0) hx hb dL_holdersOf_1 (by decide) ?_
  refine lv_aload_n hx hb dL_holdersOf_2 rfl (lv_at hl 0 rfl) ?_
  refine lv_iload_n hx hb dL_holdersOf_3 rfl (lv_at hl 1 rfl) ?_
  refine lv_iload_n hx hb dL_holdersOf_4 rfl (lv_at hl 2 rfl) ?_
  have hPc : va_P (dC, dI) vwCl (gv_V cI cL ad f0 c0 f1 c1 f2 c2 lo up be si pl cu ge fa) H := gv_sub [0, 1, 2, 3, 4, 5, 6, 7, 8, 9, 10, 11, 12] hP rfl
  have hDc : va_D (gv_in (gv_V cI cL ad f0 c0 f1 c1 f2 c2 lo up be si pl cu ge fa)) (gv_V cI cL ad f0 c0 f1 c1 f2 c2 lo up be si pl cu ge fa) := gv_D hD [0, 1, 2, 3, 4, 5, 6, 7, 8, 9, 10, 11, 12] (by decide) rfl
  have hXc : gx_T (gv_in (gv_V cI cL ad f0 c0 f1 c1 f2 c2 lo up be si pl cu ge fa)) s H := hX.to hS.2.1 (gv_inA hD [0, 1, 2, 3, 4, 5, 6, 7, 8, 9, 10, 11, 12] rfl)
  refine gx_ki (xp := (fun E => .inl E = spX1_holdersOf f0 c0 f1 c1 f2 c2 lo up be si pl cu ge fa p1 p2 ∧ E ∈ [gE_I])) (wf := (fun (_ : Unit) => (gv_V cI cL ad f0 c0 f1 c1 f2 c2 lo up be si pl cu ge fa))) (wc := (gv_V cI cL ad f0 c0 f1 c1 f2 c2 lo up be si pl cu ge fa)) [0, 1, 2, 3, 4, 5, 6, 7, 8, 9, 10, 11, 12] (fun _ => rfl) hP hD hS rfl (vx_runV (As := [.int p1, .int p2]) (rest := [.int 0, .ref oa]) ⟨hx, hb, hml, hown, hts⟩ (kX1_holdersOf l hst dC dI cI cL ad f0 c0 f1 c1 f2 c2 lo up be si pl cu ge fa p1 p2 (gv_in (gv_V cI cL ad f0 c0 f1 c1 f2 c2 lo up be si pl cu ge fa))) (cwV (rm := gx_R 7 1 103) 2 hts gL_holdersOf_X1_holdersOf rfl rfl rfl (by decide +kernel) ⟨(Nat.le_of_ble_eq_true rfl), (Nat.le_of_ble_eq_true rfl)⟩) (gx_preV (ci := 1) hK hPc hDc hN hXc rfl rfl) rfl rfl hl.1 rfl (lv_room (Nat.le_of_ble_eq_true rfl)) dL_holdersOf_5 ⟨(Nat.le_of_ble_eq_true rfl), (Nat.le_of_ble_eq_true rfl)⟩) (fun E ce q9 H locs hw hP hD hS hc1 hc2 hc3 => ?_) (fun r u H locs hw hP hD hS => ?_)
  · have hP : va_P (dC, dI) vwCl (gw_V cI cL ad oa f0 c0 f1 c1 f2 c2 lo up be si pl cu ge fa ou) H := hP
    have he := gw_l hw.1 he
    obtain rfl : E = gE_I := List.mem_singleton.mp hw.2
    refine vx_catch (own := RL) (name := gE_I) hown [] ⟨0, 10, 13, 20⟩ [] htab (fun z hz => nomatch hz) (by decide) (by decide) (hts (.classLink RL 20 "java/lang/IndexOutOfBoundsException") (List.mem_of_getElem? (i := 1) rfl)) (va_Nw.use rfl (hX.2.1 (gE_I, gE_I) (by decide))) hc1 hc2 hc3 ?_
    refine lv_astore (lv' := [(4, .ref q9), (0, .ref (ad 0)), (1, .int p1), (2, .int p2), (3, .ref oa)]) hx hb dL_holdersOf_13 hl (by decide) rfl (fun ls hl => ?_)
    refine lv_iconst (v := 1) hx hb dL_holdersOf_15 (by decide) ?_
    exact kr 1 ou _ _ _ _ _ _ (Nat.le_of_ble_eq_true rfl) (Nat.le_of_ble_eq_true rfl) he hP hS dL_holdersOf_16
  · have hE := hw
    have hP : va_P (dC, dI) vwCl (gw_V cI cL ad oa f0 c0 f1 c1 f2 c2 lo up be si pl cu ge fa ou) H := hP
    have hD : va_D A (gw_V cI cL ad oa f0 c0 f1 c1 f2 c2 lo up be si pl cu ge fa ou) := hD
    have he := gw_r hw he
    refine lv_i2l (v := r.toInt64) hx hb dL_holdersOf_8 rfl ?_
    refine gv_last (cA := cL) (k := 0) hx hb hK hP hD hS 13 1 rfl rfl rfl (by decide) (by decide) dL_holdersOf_9 (fun H locs hP hD hS => ?_)
    have hP : va_P (dC, dI) vwCl (gw_V cI cL ad oa f0 c0 f1 c1 f2 c2 lo up be si pl cu ge fa (vp_updL ou 0 r.toInt64)) H := hP
    refine lv_goto (tgt := 17) hx hb dL_holdersOf_10 (by decide) ?_
    refine lv_iconst (v := 0) hx hb dL_holdersOf_17 (by decide) ?_
    exact kr 0 (vp_updL ou 0 r.toInt64) _ _ _ _ _ _ (Nat.le_of_ble_eq_true rfl) (Nat.le_of_ble_eq_true rfl) he hP hS dL_holdersOf_18
def spL_neighboursOf (f0 : Nat → Int32) (c0 : Nat → Int32) (f1 : Nat → Int32) (c1 : Nat → Int32) (f2 : Nat → Int32) (c2 : Nat → Int32) (lo : Nat → Int64) (up : Nat → Int64) (be : Nat → Int32) (si : Int32) (pl : Int32) (cu : Int32) (ge : Int32) (fa : Int32) (ou : Nat → Int64) (p1 : Int32) (p2 : Int32) : Int32 × (Nat → Int64) := gw_b (spX1_neighboursOf f0 c0 f1 c1 f2 c2 lo up be si pl cu ge fa p1 p2) (fun E => (1, ou)) (fun u => (0, vp_updL ou 0 (Int32.toInt64 u)))
theorem spL_neighboursOf_e (f0 : Nat → Int32) (c0 : Nat → Int32) (f1 : Nat → Int32) (c1 : Nat → Int32) (f2 : Nat → Int32) (c2 : Nat → Int32) (lo : Nat → Int64) (up : Nat → Int64) (be : Nat → Int32) (si : Int32) (pl : Int32) (cu : Int32) (ge : Int32) (fa : Int32) (ou : Nat → Int64) (p1 : Int32) (p2 : Int32) : spL_neighboursOf f0 c0 f1 c1 f2 c2 lo up be si pl cu ge fa ou p1 p2 = gw_b (spX1_neighboursOf f0 c0 f1 c1 f2 c2 lo up be si pl cu ge fa p1 p2) (fun E => (1, ou)) (fun u => (0, vp_updL ou 0 (Int32.toInt64 u))) := rfl
set_option maxHeartbeats 4000000 in
set_option maxRecDepth 100000 in
theorem kL_neighboursOf (l : Launch) (hst : l.stackTraces = false) (dC : Nat → ClassId) (dI : Nat → Nat → Nat) (cI cL : ClassId) (ad : Nat → Nat) (oa : Nat) (f0 : Nat → Int32) (c0 : Nat → Int32) (f1 : Nat → Int32) (c1 : Nat → Int32) (f2 : Nat → Int32) (c2 : Nat → Int32) (lo : Nat → Int64) (up : Nat → Int64) (be : Nat → Int32) (si : Int32) (pl : Int32) (cu : Int32) (ge : Int32) (fa : Int32) (ou : Nat → Int64) (p1 : Int32) (p2 : Int32) : gw_M l yL_neighboursOf wsL_neighboursOf 8 1 125 (dC, dI) [(cI, .int), (cL, .long)] [.ref (ad 0), .int p1, .int p2, .ref oa] (gw_V cI cL ad oa f0 c0 f1 c1 f2 c2 lo up be si pl cu ge fa ou) (fun (r : Int32) (u : (Nat → Int64)) => (r, u) = spL_neighboursOf f0 c0 f1 c1 f2 c2 lo up be si pl cu ge fa ou p1 p2) (fun (u : (Nat → Int64)) => (gw_V cI cL ad oa f0 c0 f1 c1 f2 c2 lo up be si pl cu ge fa u)) := by
  refine gw_of (cc := cL_neighboursOf) (maxL := 5) (hh := [(0, 10, 13, 20)]) (by decide) rfl (Nat.le_of_ble_eq_true rfl) rfl ?_
  intro A p e s m args below meth c Q ls H locs hx hb hml hts hown hP hK hD hN hX hS hl htab kr
  have he := (spL_neighboursOf_e f0 c0 f1 c1 f2 c2 lo up be si pl cu ge fa ou p1 p2).symm
  have hl : lv_has ls 5 [(0, .ref (ad 0)), (1, .int p1), (2, .int p2), (3, .ref oa)] := hl
  refine lv_aload_n hx hb dL_neighboursOf_0 rfl (lv_at hl 3 rfl) ?_
  refine lv_iconst (v := 0) hx hb dL_neighboursOf_1 (by decide) ?_
  refine lv_aload_n hx hb dL_neighboursOf_2 rfl (lv_at hl 0 rfl) ?_
  refine lv_iload_n hx hb dL_neighboursOf_3 rfl (lv_at hl 1 rfl) ?_
  refine lv_iload_n hx hb dL_neighboursOf_4 rfl (lv_at hl 2 rfl) ?_
  have hPc : va_P (dC, dI) vwCl (gv_V cI cL ad f0 c0 f1 c1 f2 c2 lo up be si pl cu ge fa) H := gv_sub [0, 1, 2, 3, 4, 5, 6, 7, 8, 9, 10, 11, 12] hP rfl
  have hDc : va_D (gv_in (gv_V cI cL ad f0 c0 f1 c1 f2 c2 lo up be si pl cu ge fa)) (gv_V cI cL ad f0 c0 f1 c1 f2 c2 lo up be si pl cu ge fa) := gv_D hD [0, 1, 2, 3, 4, 5, 6, 7, 8, 9, 10, 11, 12] (by decide) rfl
  have hXc : gx_T (gv_in (gv_V cI cL ad f0 c0 f1 c1 f2 c2 lo up be si pl cu ge fa)) s H := hX.to hS.2.1 (gv_inA hD [0, 1, 2, 3, 4, 5, 6, 7, 8, 9, 10, 11, 12] rfl)
  refine gx_ki (xp := (fun E => .inl E = spX1_neighboursOf f0 c0 f1 c1 f2 c2 lo up be si pl cu ge fa p1 p2 ∧ E ∈ [gE_I])) (wf := (fun (_ : Unit) => (gv_V cI cL ad f0 c0 f1 c1 f2 c2 lo up be si pl cu ge fa))) (wc := (gv_V cI cL ad f0 c0 f1 c1 f2 c2 lo up be si pl cu ge fa)) [0, 1, 2, 3, 4, 5, 6, 7, 8, 9, 10, 11, 12] (fun _ => rfl) hP hD hS rfl (vx_runV (As := [.int p1, .int p2]) (rest := [.int 0, .ref oa]) ⟨hx, hb, hml, hown, hts⟩ (kX1_neighboursOf l hst dC dI cI cL ad f0 c0 f1 c1 f2 c2 lo up be si pl cu ge fa p1 p2 (gv_in (gv_V cI cL ad f0 c0 f1 c1 f2 c2 lo up be si pl cu ge fa))) (cwV (rm := gx_R 7 1 103) 2 hts gL_neighboursOf_X1_neighboursOf rfl rfl rfl (by decide +kernel) ⟨(Nat.le_of_ble_eq_true rfl), (Nat.le_of_ble_eq_true rfl)⟩) (gx_preV (ci := 1) hK hPc hDc hN hXc rfl rfl) rfl rfl hl.1 rfl (lv_room (Nat.le_of_ble_eq_true rfl)) dL_neighboursOf_5 ⟨(Nat.le_of_ble_eq_true rfl), (Nat.le_of_ble_eq_true rfl)⟩) (fun E ce q9 H locs hw hP hD hS hc1 hc2 hc3 => ?_) (fun r u H locs hw hP hD hS => ?_)
  · have hP : va_P (dC, dI) vwCl (gw_V cI cL ad oa f0 c0 f1 c1 f2 c2 lo up be si pl cu ge fa ou) H := hP
    have he := gw_l hw.1 he
    obtain rfl : E = gE_I := List.mem_singleton.mp hw.2
    refine vx_catch (own := RL) (name := gE_I) hown [] ⟨0, 10, 13, 20⟩ [] htab (fun z hz => nomatch hz) (by decide) (by decide) (hts (.classLink RL 20 "java/lang/IndexOutOfBoundsException") (List.mem_of_getElem? (i := 1) rfl)) (va_Nw.use rfl (hX.2.1 (gE_I, gE_I) (by decide))) hc1 hc2 hc3 ?_
    refine lv_astore (lv' := [(4, .ref q9), (0, .ref (ad 0)), (1, .int p1), (2, .int p2), (3, .ref oa)]) hx hb dL_neighboursOf_13 hl (by decide) rfl (fun ls hl => ?_)
    refine lv_iconst (v := 1) hx hb dL_neighboursOf_15 (by decide) ?_
    exact kr 1 ou _ _ _ _ _ _ (Nat.le_of_ble_eq_true rfl) (Nat.le_of_ble_eq_true rfl) he hP hS dL_neighboursOf_16
  · have hE := hw
    have hP : va_P (dC, dI) vwCl (gw_V cI cL ad oa f0 c0 f1 c1 f2 c2 lo up be si pl cu ge fa ou) H := hP
    have hD : va_D A (gw_V cI cL ad oa f0 c0 f1 c1 f2 c2 lo up be si pl cu ge fa ou) := hD
    have he := gw_r hw he
    refine lv_i2l (v := r.toInt64) hx hb dL_neighboursOf_8 rfl ?_
    refine gv_last (cA := cL) (k := 0) hx hb hK hP hD hS 13 1 rfl rfl rfl (by decide) (by decide) dL_neighboursOf_9 (fun H locs hP hD hS => ?_)
    have hP : va_P (dC, dI) vwCl (gw_V cI cL ad oa f0 c0 f1 c1 f2 c2 lo up be si pl cu ge fa (vp_updL ou 0 r.toInt64)) H := hP
    refine lv_goto (tgt := 17) hx hb dL_neighboursOf_10 (by decide) ?_
    refine lv_iconst (v := 0) hx hb dL_neighboursOf_17 (by decide) ?_
    exact kr 0 (vp_updL ou 0 r.toInt64) _ _ _ _ _ _ (Nat.le_of_ble_eq_true rfl) (Nat.le_of_ble_eq_true rfl) he hP hS dL_neighboursOf_18
def spL_leavesIn (f0 : Nat → Int32) (c0 : Nat → Int32) (f1 : Nat → Int32) (c1 : Nat → Int32) (f2 : Nat → Int32) (c2 : Nat → Int32) (lo : Nat → Int64) (up : Nat → Int64) (be : Nat → Int32) (si : Int32) (pl : Int32) (cu : Int32) (ge : Int32) (fa : Int32) (ou : Nat → Int64) (p1 : Int32) : Int32 × (Nat → Int64) := gw_b (spX1_leavesIn f0 c0 f1 c1 f2 c2 lo up be si pl cu ge fa p1) (fun E => (1, ou)) (fun u => (0, vp_updL ou 0 (Int32.toInt64 u)))
theorem spL_leavesIn_e (f0 : Nat → Int32) (c0 : Nat → Int32) (f1 : Nat → Int32) (c1 : Nat → Int32) (f2 : Nat → Int32) (c2 : Nat → Int32) (lo : Nat → Int64) (up : Nat → Int64) (be : Nat → Int32) (si : Int32) (pl : Int32) (cu : Int32) (ge : Int32) (fa : Int32) (ou : Nat → Int64) (p1 : Int32) : spL_leavesIn f0 c0 f1 c1 f2 c2 lo up be si pl cu ge fa ou p1 = gw_b (spX1_leavesIn f0 c0 f1 c1 f2 c2 lo up be si pl cu ge fa p1) (fun E => (1, ou)) (fun u => (0, vp_updL ou 0 (Int32.toInt64 u))) := rfl
set_option maxHeartbeats 4000000 in
set_option maxRecDepth 100000 in
theorem kL_leavesIn (l : Launch) (hst : l.stackTraces = false) (dC : Nat → ClassId) (dI : Nat → Nat → Nat) (cI cL : ClassId) (ad : Nat → Nat) (oa : Nat) (f0 : Nat → Int32) (c0 : Nat → Int32) (f1 : Nat → Int32) (c1 : Nat → Int32) (f2 : Nat → Int32) (c2 : Nat → Int32) (lo : Nat → Int64) (up : Nat → Int64) (be : Nat → Int32) (si : Int32) (pl : Int32) (cu : Int32) (ge : Int32) (fa : Int32) (ou : Nat → Int64) (p1 : Int32) : gw_M l yL_leavesIn wsL_leavesIn 8 1 123 (dC, dI) [(cI, .int), (cL, .long)] [.ref (ad 0), .int p1, .ref oa] (gw_V cI cL ad oa f0 c0 f1 c1 f2 c2 lo up be si pl cu ge fa ou) (fun (r : Int32) (u : (Nat → Int64)) => (r, u) = spL_leavesIn f0 c0 f1 c1 f2 c2 lo up be si pl cu ge fa ou p1) (fun (u : (Nat → Int64)) => (gw_V cI cL ad oa f0 c0 f1 c1 f2 c2 lo up be si pl cu ge fa u)) := by
  refine gw_of (cc := cL_leavesIn) (maxL := 4) (hh := [(0, 9, 12, 20)]) (by decide) rfl (Nat.le_of_ble_eq_true rfl) rfl ?_
  intro A p e s m args below meth c Q ls H locs hx hb hml hts hown hP hK hD hN hX hS hl htab kr
  have he := (spL_leavesIn_e f0 c0 f1 c1 f2 c2 lo up be si pl cu ge fa ou p1).symm
  have hl : lv_has ls 4 [(0, .ref (ad 0)), (1, .int p1), (2, .ref oa)] := hl
  refine lv_aload_n hx hb dL_leavesIn_0 rfl (lv_at hl 2 rfl) ?_
  refine lv_iconst (v := 0) hx hb dL_leavesIn_1 (by decide) ?_
  refine lv_aload_n hx hb dL_leavesIn_2 rfl (lv_at hl 0 rfl) ?_
  refine lv_iload_n hx hb dL_leavesIn_3 rfl (lv_at hl 1 rfl) ?_
  have hPc : va_P (dC, dI) vwCl (gv_V cI cL ad f0 c0 f1 c1 f2 c2 lo up be si pl cu ge fa) H := gv_sub [0, 1, 2, 3, 4, 5, 6, 7, 8, 9, 10, 11, 12] hP rfl
  have hDc : va_D (gv_in (gv_V cI cL ad f0 c0 f1 c1 f2 c2 lo up be si pl cu ge fa)) (gv_V cI cL ad f0 c0 f1 c1 f2 c2 lo up be si pl cu ge fa) := gv_D hD [0, 1, 2, 3, 4, 5, 6, 7, 8, 9, 10, 11, 12] (by decide) rfl
  have hXc : gx_T (gv_in (gv_V cI cL ad f0 c0 f1 c1 f2 c2 lo up be si pl cu ge fa)) s H := hX.to hS.2.1 (gv_inA hD [0, 1, 2, 3, 4, 5, 6, 7, 8, 9, 10, 11, 12] rfl)
  refine gx_ki (xp := (fun E => .inl E = spX1_leavesIn f0 c0 f1 c1 f2 c2 lo up be si pl cu ge fa p1 ∧ E ∈ [gE_I])) (wf := (fun (_ : Unit) => (gv_V cI cL ad f0 c0 f1 c1 f2 c2 lo up be si pl cu ge fa))) (wc := (gv_V cI cL ad f0 c0 f1 c1 f2 c2 lo up be si pl cu ge fa)) [0, 1, 2, 3, 4, 5, 6, 7, 8, 9, 10, 11, 12] (fun _ => rfl) hP hD hS rfl (vx_runV (As := [.int p1]) (rest := [.int 0, .ref oa]) ⟨hx, hb, hml, hown, hts⟩ (kX1_leavesIn l hst dC dI cI cL ad f0 c0 f1 c1 f2 c2 lo up be si pl cu ge fa p1 (gv_in (gv_V cI cL ad f0 c0 f1 c1 f2 c2 lo up be si pl cu ge fa))) (cwV (rm := gx_R 7 1 102) 1 hts gL_leavesIn_X1_leavesIn rfl rfl rfl (by decide +kernel) ⟨(Nat.le_of_ble_eq_true rfl), (Nat.le_of_ble_eq_true rfl)⟩) (gx_preV (ci := 1) hK hPc hDc hN hXc rfl rfl) rfl rfl hl.1 rfl (lv_room (Nat.le_of_ble_eq_true rfl)) dL_leavesIn_4 ⟨(Nat.le_of_ble_eq_true rfl), (Nat.le_of_ble_eq_true rfl)⟩) (fun E ce q9 H locs hw hP hD hS hc1 hc2 hc3 => ?_) (fun r u H locs hw hP hD hS => ?_)
  · have hP : va_P (dC, dI) vwCl (gw_V cI cL ad oa f0 c0 f1 c1 f2 c2 lo up be si pl cu ge fa ou) H := hP
    have he := gw_l hw.1 he
    obtain rfl : E = gE_I := List.mem_singleton.mp hw.2
    refine vx_catch (own := RL) (name := gE_I) hown [] ⟨0, 9, 12, 20⟩ [] htab (fun z hz => nomatch hz) (by decide) (by decide) (hts (.classLink RL 20 "java/lang/IndexOutOfBoundsException") (List.mem_of_getElem? (i := 1) rfl)) (va_Nw.use rfl (hX.2.1 (gE_I, gE_I) (by decide))) hc1 hc2 hc3 ?_
    refine lv_astore_n (lv' := [(3, .ref q9), (0, .ref (ad 0)), (1, .int p1), (2, .ref oa)]) hx hb dL_leavesIn_12 rfl hl (by decide) rfl (fun ls hl => ?_)
    refine lv_iconst (v := 1) hx hb dL_leavesIn_13 (by decide) ?_
    exact kr 1 ou _ _ _ _ _ _ (Nat.le_of_ble_eq_true rfl) (Nat.le_of_ble_eq_true rfl) he hP hS dL_leavesIn_14
  · have hE := hw
    have hP : va_P (dC, dI) vwCl (gw_V cI cL ad oa f0 c0 f1 c1 f2 c2 lo up be si pl cu ge fa ou) H := hP
    have hD : va_D A (gw_V cI cL ad oa f0 c0 f1 c1 f2 c2 lo up be si pl cu ge fa ou) := hD
    have he := gw_r hw he
    refine lv_i2l (v := r.toInt64) hx hb dL_leavesIn_7 rfl ?_
    refine gv_last (cA := cL) (k := 0) hx hb hK hP hD hS 13 1 rfl rfl rfl (by decide) (by decide) dL_leavesIn_8 (fun H locs hP hD hS => ?_)
    have hP : va_P (dC, dI) vwCl (gw_V cI cL ad oa f0 c0 f1 c1 f2 c2 lo up be si pl cu ge fa (vp_updL ou 0 r.toInt64)) H := hP
    refine lv_goto (tgt := 15) hx hb dL_leavesIn_9 (by decide) ?_
    refine lv_iconst (v := 0) hx hb dL_leavesIn_15 (by decide) ?_
    exact kr 0 (vp_updL ou 0 r.toInt64) _ _ _ _ _ _ (Nat.le_of_ble_eq_true rfl) (Nat.le_of_ble_eq_true rfl) he hP hS dL_leavesIn_16
