/-! Methods that throw: a standard contract, its ends, its calls. -/
abbrev gE_A : String := "java/lang/IllegalArgumentException"
abbrev gE_S : String := "java/lang/IllegalStateException"
abbrev gE_I : String := "java/lang/IndexOutOfBoundsException"
abbrev gE_n : List String := ["java/lang/RuntimeException", "java/lang/Exception"]
def gx_txt : List (Nat × String) := [(51, "there is no such choice for the sides"), (58, "a generation has gone by"), (69, "the cell at the foot is not bare"), (71, "no more can be planted in this game"), (77, "no trellis bears so many leaves"), (85, "there is no leaf"), (91, "no cut is left"), (96, "the game is over"), (152, "there is no such column"), (158, "there is no such cell")]
def gx_ca : List (String × String) := [(gE_A, gE_A), (gE_S, gE_S), (gE_I, gE_I)]
def gx_de : List MethodName := [Bundle.initS "java/lang/RuntimeException", Bundle.initS "java/lang/Exception", Bundle.initS Bundle.tN]
def gx_ws : List Cond := gx_ca.map (fun q => .castable q.1 q.2) ++ gx_de.map .declares
def gx_nc : List (String × String) := [(gE_A, gE_S), (gE_I, gE_S)]
def gx_T (A : Nat → Prop) (U : State) (H : Heap) : Prop := (∀ q ∈ gx_txt, ∃ a, vk_R RX1 q.1 q.2 a U) ∧ (∀ q ∈ gx_ca, va_Nw (.castable q.1 q.2) U) ∧ (∀ y ∈ gx_de, va_Nw (.declares y) U) ∧ (∀ q ∈ gx_nc, va_Nc q.1 q.2 U) ∧ vx_Zq Bundle.tN "UNASSIGNED_STACK" Bundle.steD A U H ∧ vx_Zq Bundle.tN "SUPPRESSED_SENTINEL" Bundle.listD A U H
theorem gx_T.warm {A : Nat → Prop} {s U : State} {H : Heap} (hW : s.WarmedH U.vm) (h : gx_T A s H) : gx_T A U H :=
  ⟨fun q hq => (h.1 q hq).elim fun a ha => ⟨a, vk_R.warm hW ha⟩, fun q hq => va_Nw.warmC hW (h.2.1 q hq), fun y hy => va_tabs rfl (rfl : (s.setVm U.vm).vm = U.vm) (by rw [Cond.declares_setVm hW.alike]; exact h.2.2.1 y hy), fun q hq => va_Nc.moved hW.alike (h.2.2.2.1 q hq), vx_Zq.moved hW.alike h.2.2.2.2.1, vx_Zq.moved hW.alike h.2.2.2.2.2⟩
theorem gx_T.call {A : Nat → Prop} {U : State} {g : JFrame} {mk : MethodId} {a : Array Value} (h : gx_T A U U.heap) : gx_T A (U.calling g mk a) (U.calling g mk a).heap :=
  ⟨fun q hq => (h.1 q hq).elim fun a' ha => ⟨a', vk_R.same (u := U) rfl ha⟩, fun q hq => va_Nw.same (u := U) rfl rfl (h.2.1 q hq), fun y hy => va_Nw.same (u := U) rfl rfl (h.2.2.1 y hy), fun q hq => va_Nc.moved (u := U) (Vm.Alike.refl U.vm) (h.2.2.2.1 q hq), vx_Zq.moved (u := U) (Vm.Alike.refl U.vm) h.2.2.2.2.1, vx_Zq.moved (u := U) (Vm.Alike.refl U.vm) h.2.2.2.2.2⟩
theorem gx_T.to {A B : Nat → Prop} {U : State} {H H1 : Heap} (h : gx_T A U H) (hq : ∀ a : Nat, a < H.size → ¬ A a → H1[a]? = H[a]?) (hAB : ∀ q, B q → A q) : gx_T B U H1 :=
  ⟨h.1, h.2.1, h.2.2.1, h.2.2.2.1, (h.2.2.2.2.1.kept hq).narrow hAB, (h.2.2.2.2.2.kept hq).narrow hAB⟩
theorem gx_T.word {A : Nat → Prop} {U : State} {H : Heap} {args : Array Value} (h : gx_T A U H) : ∀ w ∈ gx_ws, w.before args U = true := by
  intro w hw
  rcases List.mem_append.mp hw with h1 | h1
  · obtain ⟨q, hq, rfl⟩ := List.mem_map.mp h1
    exact va_Nw.use rfl (h.2.1 q hq)
  · obtain ⟨y, hy, rfl⟩ := List.mem_map.mp h1
    exact va_Nw.use rfl (h.2.2.1 y hy)
def gx_Pc (D : va_G) (tys : List (ClassId × FieldType)) (A : Nat → Prop) (av : List Value) (ws : va_W) : Array Value → State → Prop := va_Pc av (fun U => va_P D vwCl ws U.heap ∧ va_K D vwCl tys U ∧ va_D A ws ∧ gv_N U ∧ gx_T A U U.heap)
theorem gx_blind {D : va_G} {tys : List (ClassId × FieldType)} {A : Nat → Prop} {av : List Value} {ws : va_W} : FrameBlind (gx_Pc D tys A av ws) := by
  intro a U g mk q
  obtain ⟨q0, q1, q2, q3, q4, q5⟩ := q
  exact ⟨q0, q1, va_K.moved (u := U) (U := U.calling g mk a) (Vm.Alike.refl U.vm) q2, q3, gv_N.same (u := U) (U := U.calling g mk a) rfl q4, gx_T.call q5⟩
theorem gx_preS {s : State} {H : Heap} {D : va_G} {tys : List (ClassId × FieldType)} {A : Nat → Prop} {As : List Value} {ws : va_W} (hK : va_K D vwCl tys s) (hP : va_P D vwCl ws H) (hD : va_D A ws) (hN : gv_N s) (hX : gx_T A s H) : PreS s H (gx_Pc D tys A As ws) As :=
  ⟨gx_blind, fun U hU hW => ⟨rfl, by rw [hU]; exact hP, va_K.moved hW.alike hK, hD, gv_N.warm hW hN, by rw [hU]; exact hX.warm hW⟩⟩
theorem gx_preV {s : State} {H : Heap} {D : va_G} {tys : List (ClassId × FieldType)} {A : Nat → Prop} {As : List Value} {ws : va_W} {b ci : Nat} {q : vw_C} {fs : List Value} (hK : va_K D vwCl tys s) (hP : va_P D vwCl ws H) (hD : va_D A ws) (hN : gv_N s) (hX : gx_T A s H) (hc : vwCl[ci]? = some q) (he : ws[0]? = some (b, .inr (ci, fs))) : PreV s H q.1 b (gx_Pc D tys A (.ref b :: As) ws) As :=
  ⟨gx_blind, va_recv hK hP hc he, fun U hU hW => ⟨rfl, by rw [hU]; exact hP, va_K.moved hW.alike hK, hD, gv_N.warm hW hN, by rw [hU]; exact hX.warm hW⟩⟩
abbrev gx_X (D : va_G) (wc : va_W) (xp : String → Prop) (A : Nat → Prop) : String → State → State → Prop := vx_X (fun _ : Unit => True) (fun E _ t => xp E ∧ va_P D vwCl wc t.heap) A
abbrev gx_R (fr mc lo : Nat) : Room := { frames := fr, cells := mc, slots := 6 * mc, locals := lo }
def gx_Mi (l : Launch) (y : MethodName) (wsy : List Cond) (fr mc lo : Nat) (D : va_G) (tys : List (ClassId × FieldType)) (av : List Value) (wc : va_W) {S : Type} (post : Int32 → S → Prop) (wf : S → va_W) (xp : String → Prop) : Prop :=
  ∀ A : Nat → Prop, vx_Met l y wsy (gx_R fr mc lo) (gx_Pc D tys A av wc) (va_Qi post (fun u t => va_P D vwCl (wf u) t.heap) A) (gx_X D wc xp A) mc (6 * mc) A
def gx_Mv (l : Launch) (y : MethodName) (wsy : List Cond) (fr mc lo : Nat) (D : va_G) (tys : List (ClassId × FieldType)) (av : List Value) (wc : va_W) {S : Type} (post : S → Prop) (wf : S → va_W) (xp : String → Prop) : Prop :=
  ∀ A : Nat → Prop, vx_Met l y wsy (gx_R fr mc lo) (gx_Pc D tys A av wc) (va_Qv post (fun u t => va_P D vwCl (wf u) t.heap) A) (gx_X D wc xp A) mc (6 * mc) A
-- the residual of a specification that may throw
def gx_b {α β : Type} (a : String ⊕ α) (k : α → String ⊕ β) : String ⊕ β := match a with
  | .inl E => .inl E
  | .inr u => k u
theorem gx_l {α β : Type} {E : String} {a : String ⊕ α} {k : α → String ⊕ β} {r : String ⊕ β} (h : .inl E = a) (e : gx_b a k = r) : .inl E = r := by subst h; exact e
theorem gx_r {α β : Type} {u : α} {a : String ⊕ α} {k : α → String ⊕ β} {r : String ⊕ β} (h : .inr u = a) (e : gx_b a k = r) : k u = r := by subst h; exact e
section GXC
variable {p : Program} {l : Launch} {e : Env} {R : Room} {s : State} {m : MethodId} {args : Array Value} {below : List Frame} {meth : Method} {c : Code} {H H0 : Heap} {locs : List Loc} {cells slots mc ms : Nat} {Q : State → Prop}
variable {pc : Nat} {ls : Array Slot} {rest st0 : List Value} {a : Array Value} {A0 : Nat → Prop} {D : va_G} {ws wc : va_W} {xp : String → Prop}
theorem gx_kv {S : Type} {post : S → Prop} {wf : S → va_W} (is : List Nat) (hwf : ∀ u, (wf u).map Prod.fst = wc.map Prod.fst) (hP : va_P D vwCl ws H) (hD : va_D A0 ws) (hS : va_S A0 H0 H locs) (his : is.map (fun i => ws[i]?) = wc.map some)
    (hr : vx_Run p l e R s m args below meth c H locs cells slots mc ms (F0 m pc ls st0) rest (va_Qv post (fun u t => va_P D vwCl (wf u) t.heap) (gv_in wc) a) (gx_X D wc xp (gv_in wc)) (gv_in wc))
    (kx : ∀ (E : String) (ce : Cell) (q9 : Addr) (H1 : Heap) (locs1 : List Loc), xp E → va_P D vwCl (gv_put ws is wc) H1 → va_D A0 (gv_put ws is wc) → va_S A0 H0 H1 locs1 → H1[q9]? = some ce → ce.vm = .none → s.vm.findClass E = some ce.cls → vx_W p l e R s m args below meth c H1 locs1 (cells + mc) (slots + ms) Q (F0 m pc ls rest) q9)
    (kk : ∀ (u : S) (H1 : Heap) (locs1 : List Loc), post u → va_P D vwCl (gv_put ws is (wf u)) H1 → va_D A0 (gv_put ws is (wf u)) → va_S A0 H0 H1 locs1 → W p l e R s m args below meth c H1 locs1 (cells + mc) (slots + ms) Q (F0 m (pc + 3) ls rest)) : W p l e R s m args below meth c H locs cells slots Q (F0 m pc ls st0) := by
  refine vx_callv hr hS (fun q _ h => gv_inA hD is his q h) (gv_inA hD is his) (fun q _ h => gv_inA hD is his q h) (fun E ce q9 u t H1 locs1 ht hvm _ hB hz hk hS1 hc1 hc2 hc3 => ?_) (fun u t H1 locs1 ht hvm hw hB hz hk hS1 => ?_)
  · obtain ⟨hx, hB⟩ := hB
    rw [ht] at hB
    obtain ⟨h1, h2⟩ := gv_join is hP hD his rfl hk hB
    exact kx E ce q9 H1 locs1 hx h1 h2 hS1 hc1 hc2 hc3
  · rw [ht] at hB
    obtain ⟨h1, h2⟩ := gv_join is hP hD his (hwf u) hk hB
    exact kk u H1 locs1 hw h1 h2 hS1
theorem gx_ki {S : Type} {post : Int32 → S → Prop} {wf : S → va_W} (is : List Nat) (hwf : ∀ u, (wf u).map Prod.fst = wc.map Prod.fst) (hP : va_P D vwCl ws H) (hD : va_D A0 ws) (hS : va_S A0 H0 H locs) (his : is.map (fun i => ws[i]?) = wc.map some)
    (hr : vx_Run p l e R s m args below meth c H locs cells slots mc ms (F0 m pc ls st0) rest (va_Qi post (fun u t => va_P D vwCl (wf u) t.heap) (gv_in wc) a) (gx_X D wc xp (gv_in wc)) (gv_in wc))
    (kx : ∀ (E : String) (ce : Cell) (q9 : Addr) (H1 : Heap) (locs1 : List Loc), xp E → va_P D vwCl (gv_put ws is wc) H1 → va_D A0 (gv_put ws is wc) → va_S A0 H0 H1 locs1 → H1[q9]? = some ce → ce.vm = .none → s.vm.findClass E = some ce.cls → vx_W p l e R s m args below meth c H1 locs1 (cells + mc) (slots + ms) Q (F0 m pc ls rest) q9)
    (kk : ∀ (r : Int32) (u : S) (H1 : Heap) (locs1 : List Loc), post r u → va_P D vwCl (gv_put ws is (wf u)) H1 → va_D A0 (gv_put ws is (wf u)) → va_S A0 H0 H1 locs1 → W p l e R s m args below meth c H1 locs1 (cells + mc) (slots + ms) Q (F0 m (pc + 3) ls (.int r :: rest))) : W p l e R s m args below meth c H locs cells slots Q (F0 m pc ls st0) := by
  refine vx_calli hr hS (fun q _ h => gv_inA hD is his q h) (gv_inA hD is his) (fun q _ h => gv_inA hD is his q h) (fun E ce q9 u t H1 locs1 ht hvm _ hB hz hk hS1 hc1 hc2 hc3 => ?_) (fun r u t H1 locs1 ht hvm hw hB hz hk hS1 => ?_)
  · obtain ⟨hx, hB⟩ := hB
    rw [ht] at hB
    obtain ⟨h1, h2⟩ := gv_join is hP hD his rfl hk hB
    exact kx E ce q9 H1 locs1 hx h1 h2 hS1 hc1 hc2 hc3
  · rw [ht] at hB
    obtain ⟨h1, h2⟩ := gv_join is hP hD his (hwf u) hk hB
    exact kk r u H1 locs1 hw h1 h2 hS1
end GXC
-- what a walk of a method that throws is given
def gx_kt (p : Program) (l : Launch) (e : Env) (R : Room) (s : State) (m : MethodId) (args : Array Value) (below : List Frame) (meth : Method) (c : Code) (cc : ByteArray) (mc : Nat) (D : va_G) (wc : va_W) (A : Nat → Prop) (xp : String → Prop) (Q : State → Prop) : Prop :=
  ∀ (E : String) (ik is ic : Nat) (text : String) (H : Heap) (locs : List Loc) (pc : Nat) (ls : Array Slot) (cells slots : Nat), xp E → va_P D vwCl wc H → va_S A s.heap H locs → ls.size = c.maxLocals → cells + 1 ≤ mc → slots + 6 ≤ 6 * mc →
    Bundle.fit E = true → (Cond.classLink RX1 ik E).before args s = true → (Cond.initialized E).before args s = true → (is, text) ∈ gx_txt → (∀ w ∈ (vx_atS RX1 ic E gE_n).filter goodWord, w.before args s = true) → (∀ w ∈ (vx_atS RX1 ic E gE_n).filter (fun w => !goodWord w), w ∈ gx_ws) →
    (∀ w ∈ Cond.classLink RX1 ik E :: Cond.initialized E :: vx_atS RX1 ic E gE_n, vx_ot w = true) →
    decode cc pc = .ok (.new ik, 3) → decode cc (pc + 3) = .ok (.dup, 1) → decode cc (pc + 4) = .ok (.ldc is, 2) → decode cc (pc + 6) = .ok (.invokespecial ic, 3) → decode cc (pc + 9) = .ok (.athrow, 1) →
    W p l e R s m args below meth c H locs cells slots Q (F0 m pc ls [])
def gx_ko (p : Program) (l : Launch) (e : Env) (R : Room) (s : State) (m : MethodId) (args : Array Value) (below : List Frame) (meth : Method) (c : Code) (mc : Nat) (D : va_G) (wc : va_W) (A : Nat → Prop) (xp : String → Prop) (Q : State → Prop) : Prop :=
  ∀ (E : String) (ce : Cell) (q : Addr) (H : Heap) (locs : List Loc) (pc : Nat) (ls : Array Slot) (rest : List Value) (cells slots : Nat), cells ≤ mc → slots ≤ 6 * mc → xp E → va_P D vwCl wc H → va_S A s.heap H locs → H[q]? = some ce → ce.vm = .none → s.vm.findClass E = some ce.cls →
    vx_W p l e R s m args below meth c H locs cells slots Q (F0 m pc ls rest) q
theorem gx_Px {D : va_G} {wc : va_W} {A : Nat → Prop} {s t : State} {H : Heap} {locs : List Loc} {xp : String → Prop} {E : String} (hx : xp E) (hP : va_P D vwCl wc H) (hS : va_S A s.heap H locs) (h1 : H.size ≤ t.heap.size) (h2 : ∀ q : Nat, q < H.size → t.heap[q]? = H[q]?) : gx_X D wc xp A E s t :=
  ⟨(), trivial, ⟨hx, hP.kept (fun k x hk => h2 x.1 ((hP k x hk).lt))⟩, ⟨Nat.le_trans hS.1 h1, fun q g1 g2 => (h2 q (Nat.lt_of_lt_of_le g1 hS.1)).trans (hS.2.1 q g1 g2)⟩⟩
section GXO
variable {l : Launch} {y : MethodName} {wsy ws' : List Cond} {fr mc lo : Nat} {D : va_G} {tys : List (ClassId × FieldType)} {av : List Value} {wc : va_W} {S : Type} {wf : S → va_W} {cc : ByteArray} {maxL : Nat} {xp : String → Prop}
theorem gx_ofv {post : S → Prop} (hst : l.stackTraces = false) (hfr : 5 < fr) (hlo : 82 ≤ lo)
    (hy : plainName y.cls = true) (hw : wsy = Cond.code y cc maxL none :: ws') (hav : (lg_sl av).length ≤ maxL) (ho : y.cls = RX1)
    (body : ∀ (A : Nat → Prop) p e s m args below meth c Q (ls : Array Slot) (H : Heap) (locs : List Loc), p.tables.exec = Jvm.exec → c.code = cc → c.maxLocals = maxL → (∀ w ∈ wsy, w.before args s = true) → s.vm.findClass RX1 = some m.cls → va_P D vwCl wc H → va_K D vwCl tys s → va_D A wc → gv_N s → gx_T A s s.heap → va_S A s.heap H locs → lv_has ls maxL (lv_args 0 av) →
      (∀ (u : S) H locs pc ls cells slots, cells ≤ mc → slots ≤ 6 * mc → post u → va_P D vwCl (wf u) H → va_S A s.heap H locs → decode cc pc = .ok (.return_, 1) → W p l e (gx_R fr mc lo) s m args below meth c H locs cells slots Q (F0 m pc ls [])) →
      gx_kt p l e (gx_R fr mc lo) s m args below meth c cc mc D wc A xp Q → gx_ko p l e (gx_R fr mc lo) s m args below meth c mc D wc A xp Q →
      W p l e (gx_R fr mc lo) s m args below meth c H locs 0 0 Q (F0 m 0 ls [])) : gx_Mv l y wsy fr mc lo D tys av wc post wf xp := by
  intro A
  refine vx_ofW (cc := cc) (maxL := maxL) (ret := none) hy hw ?_
  intro p e s m args below meth c s₁ B hml hout hv
  obtain ⟨rfl, hP, hK, hD, hN, hX⟩ := hv
  have hlocks := B.notSynchronized
  have hl := lv_entry av (n := maxL) hav
  rw [lg_entry_eq]
  have hown : s.vm.findClass RX1 = some m.cls := ho ▸ findClass_of_methodNamed B.named
  refine body A p e s m _ below meth c _ _ _ _ B.exec B.bytes hml (atoms_spec (ws := wsy) B.pre) hown hP hK hD hN hX va_S.rf hl (fun u H locs pc ls cells slots hc hs hq hP hS hdg => ?_) ?_ ?_
  · refine W.widen (k := mc) (n := 6 * mc) hc hs ?_
    exact vx_ret (W.vret B.exec B.bytes B.returns (fun t ht hW => ⟨⟨u, rfl, hq, by show va_P D vwCl (wf u) t.heap; rw [ht]; exact hP⟩, hS.F ht⟩) hS.2.2 hdg)
  · intro E ik is ic text H locs pc ls cells slots hx hP hS hsz h1 h2 hfit hk hini htx hgw hbw hot d0 d3 d4 d6 d9
    obtain ⟨sa, hsa⟩ := hX.1 _ htx
    refine vx_throwS (cls := E) (own := RX1) (names := gE_n) (ik := ik) (is := is) (ic := ic) (text := text) (sa := sa) (A := A) B.exec B.bytes hst hown hfit (by decide) hk hini hsa (vx_hat hgw hbw hX.word) hot hX.2.2.2.2.1 hX.2.2.2.2.2 hS hsz d0 d3 d4 d6 d9 (fun x h => (hout x h).elim) hfr ?_ ?_ ?_ hlocks (fun t _ h1 h2 => gx_Px hx hP hS h1 h2) hS.2.2 h1 h2
    · show 0 + (13 * (2 + 1) + 43) ≤ lo
      omega
    · exact h1
    · exact h2
  · intro E ce q H locs pc ls rest cells slots h1 h2 hx hP hS hc1 hc2 hc3
    exact vx_out (fun x h => (hout x h).elim) hlocks hc1 hc2 hc3 (fun t ht _ => gx_Px hx hP hS (by rw [ht]; exact Nat.le_refl _) (fun q _ => by rw [ht])) hS.2.2 h1 h2
theorem gx_ofi {post : Int32 → S → Prop} (hst : l.stackTraces = false) (hfr : 5 < fr) (hlo : 82 ≤ lo)
    (hy : plainName y.cls = true) (hw : wsy = Cond.code y cc maxL (some .int) :: ws') (hav : (lg_sl av).length ≤ maxL) (ho : y.cls = RX1)
    (body : ∀ (A : Nat → Prop) p e s m args below meth c Q (ls : Array Slot) (H : Heap) (locs : List Loc), p.tables.exec = Jvm.exec → c.code = cc → c.maxLocals = maxL → (∀ w ∈ wsy, w.before args s = true) → s.vm.findClass RX1 = some m.cls → va_P D vwCl wc H → va_K D vwCl tys s → va_D A wc → gv_N s → gx_T A s s.heap → va_S A s.heap H locs → lv_has ls maxL (lv_args 0 av) →
      (∀ (v : Int32) (u : S) H locs pc ls cells slots, cells ≤ mc → slots ≤ 6 * mc → post v u → va_P D vwCl (wf u) H → va_S A s.heap H locs → decode cc pc = .ok (.ireturn, 1) → W p l e (gx_R fr mc lo) s m args below meth c H locs cells slots Q (F0 m pc ls [.int v])) →
      gx_kt p l e (gx_R fr mc lo) s m args below meth c cc mc D wc A xp Q → gx_ko p l e (gx_R fr mc lo) s m args below meth c mc D wc A xp Q →
      W p l e (gx_R fr mc lo) s m args below meth c H locs 0 0 Q (F0 m 0 ls [])) : gx_Mi l y wsy fr mc lo D tys av wc post wf xp := by
  intro A
  refine vx_ofW (cc := cc) (maxL := maxL) (ret := some .int) hy hw ?_
  intro p e s m args below meth c s₁ B hml hout hv
  obtain ⟨rfl, hP, hK, hD, hN, hX⟩ := hv
  have hlocks := B.notSynchronized
  have hl := lv_entry av (n := maxL) hav
  rw [lg_entry_eq]
  have hown : s.vm.findClass RX1 = some m.cls := ho ▸ findClass_of_methodNamed B.named
  refine body A p e s m _ below meth c _ _ _ _ B.exec B.bytes hml (atoms_spec (ws := wsy) B.pre) hown hP hK hD hN hX va_S.rf hl (fun v u H locs pc ls cells slots hc hs hq hP hS hdg => ?_) ?_ ?_
  · refine W.widen (k := mc) (n := 6 * mc) hc hs ?_
    exact vx_ret (W.iret (v := v) B.exec B.bytes B.returns (fun t ht hW => ⟨⟨v, u, rfl, hq, by show va_P D vwCl (wf u) t.heap; rw [ht]; exact hP⟩, hS.F ht⟩) hS.2.2 hdg)
  · intro E ik is ic text H locs pc ls cells slots hx hP hS hsz h1 h2 hfit hk hini htx hgw hbw hot d0 d3 d4 d6 d9
    obtain ⟨sa, hsa⟩ := hX.1 _ htx
    refine vx_throwS (cls := E) (own := RX1) (names := gE_n) (ik := ik) (is := is) (ic := ic) (text := text) (sa := sa) (A := A) B.exec B.bytes hst hown hfit (by decide) hk hini hsa (vx_hat hgw hbw hX.word) hot hX.2.2.2.2.1 hX.2.2.2.2.2 hS hsz d0 d3 d4 d6 d9 (fun x h => (hout x h).elim) hfr ?_ ?_ ?_ hlocks (fun t _ h1 h2 => gx_Px hx hP hS h1 h2) hS.2.2 h1 h2
    · show 0 + (13 * (2 + 1) + 43) ≤ lo
      omega
    · exact h1
    · exact h2
  · intro E ce q H locs pc ls rest cells slots h1 h2 hx hP hS hc1 hc2 hc3
    exact vx_out (fun x h => (hout x h).elim) hlocks hc1 hc2 hc3 (fun t ht _ => gx_Px hx hP hS (by rw [ht]; exact Nat.le_refl _) (fun q _ => by rw [ht])) hS.2.2 h1 h2
theorem gx_ofz {post : Int32 → S → Prop} {ty : FieldType} (hst : l.stackTraces = false) (hfr : 5 < fr) (hlo : 82 ≤ lo)
    (hy : plainName y.cls = true) (hw : wsy = Cond.code y cc maxL (some ty) :: ws') (hav : (lg_sl av).length ≤ maxL) (ho : y.cls = RX1)
    (body : ∀ (A : Nat → Prop) p e s m args below meth c Q (ls : Array Slot) (H : Heap) (locs : List Loc), p.tables.exec = Jvm.exec → c.code = cc → c.maxLocals = maxL → (∀ w ∈ wsy, w.before args s = true) → s.vm.findClass RX1 = some m.cls → va_P D vwCl wc H → va_K D vwCl tys s → va_D A wc → gv_N s → gx_T A s s.heap → va_S A s.heap H locs → lv_has ls maxL (lv_args 0 av) →
      (∀ (v : Int32) (u : S) H locs pc ls cells slots, cells ≤ mc → slots ≤ 6 * mc → narrow ty (.int v) = .int v → post v u → va_P D vwCl (wf u) H → va_S A s.heap H locs → decode cc pc = .ok (.ireturn, 1) → W p l e (gx_R fr mc lo) s m args below meth c H locs cells slots Q (F0 m pc ls [.int v])) →
      gx_kt p l e (gx_R fr mc lo) s m args below meth c cc mc D wc A xp Q → gx_ko p l e (gx_R fr mc lo) s m args below meth c mc D wc A xp Q →
      W p l e (gx_R fr mc lo) s m args below meth c H locs 0 0 Q (F0 m 0 ls [])) : gx_Mi l y wsy fr mc lo D tys av wc post wf xp := by
  intro A
  refine vx_ofW (cc := cc) (maxL := maxL) (ret := some ty) hy hw ?_
  intro p e s m args below meth c s₁ B hml hout hv
  obtain ⟨rfl, hP, hK, hD, hN, hX⟩ := hv
  have hlocks := B.notSynchronized
  have hl := lv_entry av (n := maxL) hav
  rw [lg_entry_eq]
  have hown : s.vm.findClass RX1 = some m.cls := ho ▸ findClass_of_methodNamed B.named
  refine body A p e s m _ below meth c _ _ _ _ B.exec B.bytes hml (atoms_spec (ws := wsy) B.pre) hown hP hK hD hN hX va_S.rf hl (fun v u H locs pc ls cells slots hc hs hn hq hP hS hdg => ?_) ?_ ?_
  · refine W.widen (k := mc) (n := 6 * mc) hc hs ?_
    exact vx_ret (W.zret (v := v) B.exec B.bytes B.returns hn (fun t ht hW => ⟨⟨v, u, rfl, hq, by show va_P D vwCl (wf u) t.heap; rw [ht]; exact hP⟩, hS.F ht⟩) hS.2.2 hdg)
  · intro E ik is ic text H locs pc ls cells slots hx hP hS hsz h1 h2 hfit hk hini htx hgw hbw hot d0 d3 d4 d6 d9
    obtain ⟨sa, hsa⟩ := hX.1 _ htx
    refine vx_throwS (cls := E) (own := RX1) (names := gE_n) (ik := ik) (is := is) (ic := ic) (text := text) (sa := sa) (A := A) B.exec B.bytes hst hown hfit (by decide) hk hini hsa (vx_hat hgw hbw hX.word) hot hX.2.2.2.2.1 hX.2.2.2.2.2 hS hsz d0 d3 d4 d6 d9 (fun x h => (hout x h).elim) hfr ?_ ?_ ?_ hlocks (fun t _ h1 h2 => gx_Px hx hP hS h1 h2) hS.2.2 h1 h2
    · show 0 + (13 * (2 + 1) + 43) ≤ lo
      omega
    · exact h1
    · exact h2
  · intro E ce q H locs pc ls rest cells slots h1 h2 hx hP hS hc1 hc2 hc3
    exact vx_out (fun x h => (hout x h).elim) hlocks hc1 hc2 hc3 (fun t ht _ => gx_Px hx hP hS (by rw [ht]; exact Nat.le_refl _) (fun q _ => by rw [ht])) hS.2.2 h1 h2
end GXO
