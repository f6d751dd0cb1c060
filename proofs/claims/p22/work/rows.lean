section
-- ===== PART A: goes FIRST, ahead of the names: the tables' words, and 'selects' of the private methods out of them =====
/-- a private method of a class that the tables say can be made, by its rows of tables_1 -/
def lw_okq (q : MethodName × Nat) : Prop := (q.1.cls ≠ "java/lang/invoke/MethodHandle" ∧ q.1.cls ≠ "java/lang/invoke/VarHandle") ∧ Cond.instantiable q.1.cls q.2 ∈ tables_1 ∧ Cond.privateMethod q.1 ∈ tables_1 ∧ Cond.instanceMethod q.1 ∈ tables_1
theorem lw_p0 : lw_okq (⟨"java/lang/Throwable", "fillInStackTrace", "(I)Ljava/lang/Throwable;"⟩, 6) := ⟨⟨by decide +kernel, by decide +kernel⟩, List.mem_of_getElem? (i := 110) (by decide +kernel), List.mem_of_getElem? (i := 108) (by decide +kernel), List.mem_of_getElem? (i := 109) (by decide +kernel)⟩
theorem lw_p1 : lw_okq (⟨"VineWall$Wall", "leafRow", "(I)I"⟩, 2) := ⟨⟨by decide +kernel, by decide +kernel⟩, List.mem_of_getElem? (i := 19) (by decide +kernel), List.mem_of_getElem? (i := 187) (by decide +kernel), List.mem_of_getElem? (i := 188) (by decide +kernel)⟩
theorem lw_p2 : lw_okq (⟨"VineWall$Wall", "hasCutAt", "(II)Z"⟩, 2) := ⟨⟨by decide +kernel, by decide +kernel⟩, List.mem_of_getElem? (i := 19) (by decide +kernel), List.mem_of_getElem? (i := 191) (by decide +kernel), List.mem_of_getElem? (i := 192) (by decide +kernel)⟩
theorem lw_p3 : lw_okq (⟨"VineWall$Wall", "leafRowNext", "(II)I"⟩, 2) := ⟨⟨by decide +kernel, by decide +kernel⟩, List.mem_of_getElem? (i := 19) (by decide +kernel), List.mem_of_getElem? (i := 249) (by decide +kernel), List.mem_of_getElem? (i := 250) (by decide +kernel)⟩
theorem lw_p4 : lw_okq (⟨"VineWall$Wall", "leafRowAsSeen", "(II)I"⟩, 2) := ⟨⟨by decide +kernel, by decide +kernel⟩, List.mem_of_getElem? (i := 19) (by decide +kernel), List.mem_of_getElem? (i := 253) (by decide +kernel), List.mem_of_getElem? (i := 254) (by decide +kernel)⟩
theorem lw_p5 : lw_okq (⟨"VineWall$Wall", "bearsLeafNext", "(IIII)Z"⟩, 2) := ⟨⟨by decide +kernel, by decide +kernel⟩, List.mem_of_getElem? (i := 19) (by decide +kernel), List.mem_of_getElem? (i := 263) (by decide +kernel), List.mem_of_getElem? (i := 264) (by decide +kernel)⟩
theorem lw_p6 : lw_okq (⟨"VineWall$Wall", "takeTopmost", "(II)I"⟩, 2) := ⟨⟨by decide +kernel, by decide +kernel⟩, List.mem_of_getElem? (i := 19) (by decide +kernel), List.mem_of_getElem? (i := 275) (by decide +kernel), List.mem_of_getElem? (i := 276) (by decide +kernel)⟩
theorem lw_p7 : lw_okq (⟨"VineWall$Wall", "takeLeaf", "(II)V"⟩, 2) := ⟨⟨by decide +kernel, by decide +kernel⟩, List.mem_of_getElem? (i := 19) (by decide +kernel), List.mem_of_getElem? (i := 279) (by decide +kernel), List.mem_of_getElem? (i := 280) (by decide +kernel)⟩
theorem lw_p8 : lw_okq (⟨"VineWall", "remember", "(I)V"⟩, 11) := ⟨⟨by decide +kernel, by decide +kernel⟩, List.mem_of_getElem? (i := 11) (by decide +kernel), List.mem_of_getElem? (i := 295) (by decide +kernel), List.mem_of_getElem? (i := 296) (by decide +kernel)⟩
theorem lw_p9 : lw_okq (⟨"VineWall", "looksAsBefore", "(II)Z"⟩, 11) := ⟨⟨by decide +kernel, by decide +kernel⟩, List.mem_of_getElem? (i := 11) (by decide +kernel), List.mem_of_getElem? (i := 303) (by decide +kernel), List.mem_of_getElem? (i := 304) (by decide +kernel)⟩
theorem lw_p10 : lw_okq (⟨"VineWall", "litBehindCut", "(II)I"⟩, 11) := ⟨⟨by decide +kernel, by decide +kernel⟩, List.mem_of_getElem? (i := 11) (by decide +kernel), List.mem_of_getElem? (i := 380) (by decide +kernel), List.mem_of_getElem? (i := 381) (by decide +kernel)⟩
def lw_privs_1 : List (MethodName × Nat) := [(⟨"java/lang/Throwable", "fillInStackTrace", "(I)Ljava/lang/Throwable;"⟩, 6), (⟨"VineWall$Wall", "leafRow", "(I)I"⟩, 2), (⟨"VineWall$Wall", "hasCutAt", "(II)Z"⟩, 2), (⟨"VineWall$Wall", "leafRowNext", "(II)I"⟩, 2), (⟨"VineWall$Wall", "leafRowAsSeen", "(II)I"⟩, 2), (⟨"VineWall$Wall", "bearsLeafNext", "(IIII)Z"⟩, 2), (⟨"VineWall$Wall", "takeTopmost", "(II)I"⟩, 2), (⟨"VineWall$Wall", "takeLeaf", "(II)V"⟩, 2), (⟨"VineWall", "remember", "(I)V"⟩, 11), (⟨"VineWall", "looksAsBefore", "(II)Z"⟩, 11), (⟨"VineWall", "litBehindCut", "(II)I"⟩, 11)]
theorem lw_r1 : ∀ q ∈ lw_privs_1, lw_okq q := List.forall_mem_cons.mpr ⟨lw_p0, List.forall_mem_cons.mpr ⟨lw_p1, List.forall_mem_cons.mpr ⟨lw_p2, List.forall_mem_cons.mpr ⟨lw_p3, List.forall_mem_cons.mpr ⟨lw_p4, List.forall_mem_cons.mpr ⟨lw_p5, List.forall_mem_cons.mpr ⟨lw_p6, List.forall_mem_cons.mpr ⟨lw_p7, List.forall_mem_cons.mpr ⟨lw_p8, List.forall_mem_cons.mpr ⟨lw_p9, List.forall_mem_cons.mpr ⟨lw_p10, fun _ h => absurd h List.not_mem_nil⟩⟩⟩⟩⟩⟩⟩⟩⟩⟩⟩
def lw_privs : List (MethodName × Nat) := lw_privs_1
def lw_tbl : List Cond := k2_sels lw_privs ++ tables_1
theorem lw_privs_ok : ∀ q ∈ lw_privs, lw_okq q := lw_r1
end
section
/-! ===== BEGIN words of one list among another's, by their places ===== -/
theorem goodIn_r {big : List Cond} (ws : List Cond) (ps : List Nat) (hp : ws = ps.filterMap (fun i => big[i]?)) (h : ws.all goodWord = true) : GoodIn big ws := by
  intro w hw
  have h1 := List.all_eq_true.mp h w hw
  rw [hp] at hw
  obtain ⟨i, -, hi⟩ := List.mem_filterMap.mp hw
  have hm : w ∈ big := by first | exact List.mem_of_getElem? hi | exact List.getElem?_mem hi
  exact ⟨hm, good_of_word h1⟩
theorem goodIn_app {big a b : List Cond} (ha : GoodIn big a) (hb : GoodIn big b) : GoodIn big (a ++ b) := fun w h => (List.mem_append.mp h).elim (ha w) (hb w)
theorem goodIn_ca {big a b : List Cond} {c : Cond} (ha : GoodIn big (c :: a)) (hb : GoodIn big b) : GoodIn big (c :: (a ++ b)) := fun w h => (List.mem_cons.mp h).elim (fun e => ha w (List.mem_cons.mpr (Or.inl e))) (fun h => (List.mem_append.mp h).elim (fun h => ha w (List.mem_cons.mpr (Or.inr h))) (hb w))
theorem goodIn_sub {big ws : List Cond} (hm : ∀ w ∈ ws, w ∈ big) (h : ws.all goodWord = true) : GoodIn big ws := fun w hw => ⟨hm w hw, good_of_word (List.all_eq_true.mp h w hw)⟩
/-! ===== END ===== -/

/-! ===== BEGIN exceptions that leave a method, and their catching by the caller (launches without stack traces) ===== -/
section VXA
/-! The laws vx_back, vx_callV, vx_callS, vx_callSW, vx_throw0, vx_throwS follow proofs of the library, with one case more: JvmDerived/Free/Laws.lean (Back.of_free), Shelf42/LK1.lean (callV, callS), Shelf/KitTraced.lean (throwNew0V, throwNewS). -/
/-- where a method has thrown q: the class by its name, the cell, what was written, the world -/
def vx_T (XC : String → State → State → Prop) (st : State) (q : Addr) (t : State) (mc ms : Nat) (free : Addr → Prop) : Prop :=
  ∃ (E : String) (ce : Cell) (L : List Loc), XC E st t ∧ t.heap[q]? = some ce ∧ ce.vm = .none ∧ st.vm.findClass E = some ce.cls ∧ st.WarmedH t.vm ∧ st.sameButNew ({ t with vm := st.vm } : State) L mc ms ∧ ∀ z ∈ L, free z.base
def vx_Q (Qc : Array Value → State → Outcome → State → Prop) (XC : String → State → State → Prop) (mc ms : Nat) (free : Addr → Prop) : Array Value → State → Outcome → State → Prop := fun a st o t =>
  (Qc a st o t ∧ ∃ L, FrameEnd st o t L mc ms ∧ ∀ q ∈ L, free q.base) ∨ ∃ q, o = .threw q ∧ vx_T XC st q t mc ms free
/-- a callee that returns or throws -/
def vx_Met (l : Launch) (y : MethodName) (ws : List Cond) (rm : Room) (Pc : Array Value → State → Prop) (Qc : Array Value → State → Outcome → State → Prop) (XC : String → State → State → Prop) (mc ms : Nat) (free : Addr → Prop) : Prop :=
  MetFree l y (headSpec ws rm) Pc (fun _ _ _ _ _ => True) (vx_Q Qc XC mc ms free)
def vx_Post (XC : String → State → State → Prop) (mc ms : Nat) (free : Addr → Prop) : Pt → Array Value → Addr → Pt → Prop := fun A a q B =>
  ∃ (g : JFrame) (mk : MethodId) (t : State) (L : List Loc) (E : String) (ce : Cell), B.U.heap = t.heap ∧ B.U.vm = t.vm ∧ XC E (A.U.calling g mk a) t ∧ t.heap[q]? = some ce ∧ ce.vm = .none ∧ A.U.vm.findClass E = some ce.cls ∧ B.locs = A.locs ++ L ∧ (∀ z ∈ L, free z.base) ∧ B.cells = A.cells + mc ∧ B.slots = A.slots + ms
def vx_Back (l : Launch) (R : Room) (p : Program) (e : Env) (below : List Frame) (s : State) (sargs : Array Value) (y : MethodName) (len W9 : Nat)
    (Pre : Pt → Array Value → Prop) (Post : Pt → Array Value → Option Value → Pt → Prop) (PostX : Pt → Array Value → Addr → Pt → Prop) : Prop :=
  ∀ (m : MethodId) (meth : Method) (c : Code) (A : Pt) (g : JFrame) (ig : Instr) (mk : MethodId) (a : Array Value),
    Stand p l e R s m sargs below meth c A.U A.locs A.cells A.slots → g.method = m → g.locals.size = c.maxLocals → decode c.code g.pc = .ok (ig, len) →
    2 * g.monitorRoom + (g.stack.map fun v => v.category).sum ≤ W9 → A.U.methodNamed? y = some mk → Pre A a →
    (∃ (v : Option Value) (B : Pt), Stand p l e R s m sargs below meth c B.U B.locs B.cells B.slots ∧ Post A a v B ∧
      Steps p.tables e below (doInvoke e (A.U.setTop g) [] mk a).1 (B.U.setTop { g with pc := g.pc + len, stack := v.toList ++ g.stack })) ∨
    (∃ (q : Addr) (B : Pt), Stand p l e R s m sargs below meth c B.U B.locs B.cells B.slots ∧ PostX A a q B ∧
      Steps p.tables e below (doInvoke e (A.U.setTop g) [] mk a).1 ((B.U.setTop g).pushFrame (.throwing q)))
section Payer
variable {l : Launch} {R : Room} {p : Program} {e : Env} {below : List Frame} {s : State} {sargs : Array Value} {y : MethodName} {len W9 : Nat}
theorem vx_back {ws : List Cond} {rm : Room} {Pc : Array Value → State → Prop} {Qc : Array Value → State → Outcome → State → Prop} {XC : String → State → State → Prop} {mc ms : Nat} {free : Addr → Prop} {bytes : ByteArray} {maxL : Nat} {ret : Option FieldType}
    (hM : vx_Met l y ws rm Pc Qc XC mc ms free) (hblind : FrameBlind Pc) (hrc : rm.cells = mc) (hrs : rm.slots = ms)
    (hframes : rm.frames + 1 ≤ R.frames) (hlocals : W9 + (maxL + 11) + rm.locals ≤ R.locals)
    (hws : ∀ w ∈ ws, ∀ a' U, s.WarmedH U.vm → w.before a' U = true) (hcode : Cond.code y bytes maxL ret ∈ ws) (hinit : ∀ a' U, s.WarmedH U.vm → (Cond.initialized y.cls).before a' U = true) :
    vx_Back l R p e below s sargs y len W9 (PreOf R mc ms Pc) (PostOf Qc mc ms free) (vx_Post XC mc ms free) := by
  intro m meth c A g ig mk a X hg hsize hdg hW hn hp
  have h1 : (headSpec ws rm).pre.before a A.U = true := atoms_intro fun w hw => hws w hw _ _ X.warmed
  have h2 : (Cond.code y bytes maxL ret).before a A.U = true := hws _ hcode _ _ X.warmed
  have h3 : (Cond.initialized y.cls).before a A.U = true := hinit _ _ X.warmed
  have h4 : A.cells + (headSpec ws rm).room.cells ≤ R.cells := by rw [show (headSpec ws rm).room.cells = mc from hrc]; exact hp.1
  have h5 : A.slots + (headSpec ws rm).room.slots ≤ R.slots := by rw [show (headSpec ws rm).room.slots = ms from hrs]; exact hp.2.1
  have hPc : Pc a (A.U.calling g mk a) := hblind _ _ _ _ hp.2.2
  obtain ⟨U, Ls, c0, s0⟩ := A
  dsimp only [Pt.U, Pt.locs, Pt.cells, Pt.slots] at h1 h2 h3 h4 h5 X hn hPc ⊢
  obtain ⟨methY, cY, hmY, hcY, -, hlY, -, -, -, -⟩ := Cond.code_spec hn h2
  obtain ⟨kY, hkY, -⟩ := className_of_methodNamed hn
  have hinitY : kY.init = .initialized := Cond.initialized_spec (findClass_of_methodNamed hn) hkY h3
  have h : At U g.method c below := by rw [hg]; exact X.here
  have hlocals9 : W9 + (maxL + 11) + (headSpec ws rm).room.locals ≤ R.locals := hlocals
  have happ : (headSpec ws rm).appliesLoose y e.platform (U.calling g mk a) = true :=
    Spec.appliesLoose_calling (g := g) h hdg hn hkY hinitY
      (X.room_calling (g := g) (R' := (headSpec ws rm).room) hsize hmY hcY hframes (by rw [hlY]; omega) h4 h5) h1
  obtain ⟨mid, hmid⟩ := h.above
  have hfr : (U.setTop g).frames = (.java g :: mid) ++ below := by rw [State.frames_setTop' g h.top, hmid]; rfl
  obtain ⟨o, s₂, hsteps, -, hend, hq⟩ := Steps.callFree hM p X.admits X.cas X.clock (acts := []) hfr happ hPc trivial
  have hq' : vx_Q Qc XC mc ms free a (U.calling g mk a) o s₂ := hq
  rw [State.frames_setTop' g h.top] at hend
  obtain ⟨g₀, hg0⟩ := Option.isSome_iff_exists.mp h.top
  obtain ⟨r, hr⟩ := State.topJava?_eq_some.mp hg0
  have hr' : (({ U with heap := s₂.heap, slotsUsed := s₂.slotsUsed } : State).setVm s₂.vm).frames = .java g₀ :: r := hr
  rcases hq' with ⟨hqc, L, hfe, hL⟩ | ⟨q, rfl, E, ce, L, hx, hce, hcv, hcl, hW₂, hsm, hL⟩
  · obtain ⟨⟨v, rfl⟩, hW₂, e2, q2, q3, q4, q5, q6⟩ := id hfe
    have e3 : s₂ = ({ (U.calling g mk a).setFrames s₂.frames with heap := s₂.heap, slotsUsed := s₂.slotsUsed } : State).setVm s₂.vm := by
      have : s₂ = ({ s₂ with vm := (U.calling g mk a).vm } : State).setVm s₂.vm := rfl
      rw [e2] at this
      exact this
    obtain ⟨c₂, i₂, len₂, hc₂, hd₂, hf₂⟩ := hend
    have hW' : U.WarmedH s₂.vm := hW₂
    have hcc : c₂ = c := by
      have h1 : s₂.code? g.method = U.code? g.method := by
        rw [State.code?_eq, State.code?_eq, hW'.alike.method?]
      exact Option.some.inj (hc₂.symm.trans (h1.trans h.code))
    subst hcc
    have hlen : len₂ = len := by rw [hdg] at hd₂; cases hd₂; rfl
    subst hlen
    have hs₂ : s₂ = (({ U with heap := s₂.heap, slotsUsed := s₂.slotsUsed } : State).setVm s₂.vm).setTop { g with pc := g.pc + len₂, stack := v.toList ++ g.stack } := by
      refine e3.trans ?_
      rw [hf₂, State.calling_eq h.top, State.setFrames_setFrames, State.setTop_of_frames _ hr', hr]
      rfl
    have hsame : U.sameButNew ({ U with heap := s₂.heap, slotsUsed := s₂.slotsUsed } : State) L mc ms := by
      refine ⟨?_, q2, q3, q4, q5, q6⟩
      obtain ⟨t, ht, -⟩ := State.frames_cons hr
      show ({ U with heap := s₂.heap, slotsUsed := s₂.slotsUsed } : State) = { U.setFrames U.frames with heap := s₂.heap, slotsUsed := s₂.slotsUsed }
      rw [State.setFrames_self ht]
    subst hg
    refine Or.inl ⟨v, ⟨(({ U with heap := s₂.heap, slotsUsed := s₂.slotsUsed } : State).setVm s₂.vm), Ls ++ L, c0 + mc, s0 + ms⟩,
      ⟨X.admits, X.cas, X.clock, X.frames, X.room, X.hears, X.method, X.code, (X.here.setHeapUsed s₂.heap s₂.slotsUsed).setVm hW'.alike, X.tail, State.WarmedH.trans X.warmed hW', X.limits, X.bytes, X.same.trans (hsame.setVm s.vm)⟩,
      ⟨g, mk, s₂, L, rfl, rfl, hqc, rfl, hL, rfl, rfl⟩, ?_⟩
    show Steps p.tables e below _ ((({ U with heap := s₂.heap, slotsUsed := s₂.slotsUsed } : State).setVm s₂.vm).setTop { g with pc := g.pc + len₂, stack := v.toList ++ g.stack })
    rw [← hs₂]
    exact hsteps
  · obtain ⟨e2, q2, q3, q4, q5, q6⟩ := id hsm
    have e3 : s₂ = ({ (U.calling g mk a).setFrames s₂.frames with heap := s₂.heap, slotsUsed := s₂.slotsUsed } : State).setVm s₂.vm := by
      have : s₂ = ({ s₂ with vm := (U.calling g mk a).vm } : State).setVm s₂.vm := rfl
      rw [e2] at this
      exact this
    have hf₂ : s₂.frames = .throwing q :: .java g :: U.frames.tail := hend
    have hW' : U.WarmedH s₂.vm := hW₂
    have hs₂ : s₂ = ((({ U with heap := s₂.heap, slotsUsed := s₂.slotsUsed } : State).setVm s₂.vm).setTop g).pushFrame (.throwing q) := by
      refine e3.trans ?_
      rw [hf₂, State.calling_eq h.top, State.setFrames_setFrames, State.pushFrame, State.frames_setTop _ hr', State.setTop_of_frames _ hr', State.setFrames_setFrames, hr]
      rfl
    have hsame : U.sameButNew ({ U with heap := s₂.heap, slotsUsed := s₂.slotsUsed } : State) L mc ms := by
      refine ⟨?_, q2, q3, q4, q5, q6⟩
      obtain ⟨t, ht, -⟩ := State.frames_cons hr
      show ({ U with heap := s₂.heap, slotsUsed := s₂.slotsUsed } : State) = { U.setFrames U.frames with heap := s₂.heap, slotsUsed := s₂.slotsUsed }
      rw [State.setFrames_self ht]
    subst hg
    refine Or.inr ⟨q, ⟨(({ U with heap := s₂.heap, slotsUsed := s₂.slotsUsed } : State).setVm s₂.vm), Ls ++ L, c0 + mc, s0 + ms⟩,
      ⟨X.admits, X.cas, X.clock, X.frames, X.room, X.hears, X.method, X.code, (X.here.setHeapUsed s₂.heap s₂.slotsUsed).setVm hW'.alike, X.tail, State.WarmedH.trans X.warmed hW', X.limits, X.bytes, X.same.trans (hsame.setVm s.vm)⟩,
      ⟨g, mk, s₂, L, E, ce, rfl, rfl, hx, hce, hcv, hcl, rfl, hL, rfl, rfl⟩, ?_⟩
    show Steps p.tables e below _ (((({ U with heap := s₂.heap, slotsUsed := s₂.slotsUsed } : State).setVm s₂.vm).setTop g).pushFrame (.throwing q))
    rw [← hs₂]
    exact hsteps
end Payer
section Calls
variable {p : Program} {l : Launch} {e : Env} {R : Room} {s : State} {m : MethodId} {args : Array Value} {below : List Frame} {meth : Method} {c : Code} {T : State} {locs : List Loc} {cells slots : Nat}
theorem vx_callV (X : Stand p l e R s m args below meth c T locs cells slots) (hexec : p.tables.exec = Jvm.exec) {own C : String} {index : Nat} {y : MethodName} {bytes : ByteArray} {maxL : Nat} {ret : Option FieldType}
    (hown : s.vm.findClass own = some m.cls) (hlink : (Cond.methodLink own index y).before args s = true) (hinst : (Cond.instanceMethod y).before args s = true) (hsel : (Cond.selects C y y).before args s = true)
    (hcode : (Cond.code y bytes maxL ret).before args s = true) (hy : y.cls ≠ "java/lang/invoke/MethodHandle" ∧ y.cls ≠ "java/lang/invoke/VarHandle")
    {W9 : Nat} {Pre : Pt → Array Value → Prop} {Post : Pt → Array Value → Option Value → Pt → Prop} {PostX : Pt → Array Value → Addr → Pt → Prop} (hK : vx_Back l R p e below s args y 3 W9 Pre Post PostX)
    {b : Addr} {cellB : Cell} (hcell : T.heap[b]? = some cellB) (hobj : cellB.vm.isStatics = false) (hcls : s.vm.findClass C = some cellB.cls)
    {g : JFrame} (hg : g.method = m) (hsize : g.locals.size = c.maxLocals) {argsL rest : List Value} (hlen : ∀ sig, parseMethodDescriptor y.desc = some sig → argsL.length = sig.parameters.length)
    (hstack : g.stack = argsL.reverse ++ .ref b :: rest) (hW : 2 * g.monitorRoom + (rest.map fun v => v.category).sum ≤ W9) (hdg : decode c.code g.pc = .ok (.invokevirtual index, 3))
    (hpre : ∀ vm₁, s.WarmedH vm₁ → Pre ⟨T.setVm vm₁, locs, cells, slots⟩ (Value.ref b :: argsL).toArray) :
    (∃ (v : Option Value) (vm₁ : Vm) (B : Pt), s.WarmedH vm₁ ∧ Stand p l e R s m args below meth c B.U B.locs B.cells B.slots ∧ Post ⟨T.setVm vm₁, locs, cells, slots⟩ (Value.ref b :: argsL).toArray v B ∧
      ∀ target, Steps p.tables e below (B.U.setTop { g with pc := g.pc + 3, stack := v.toList ++ rest }) target → Steps p.tables e below (T.setTop g) target) ∨
    (∃ (q : Addr) (vm₁ : Vm) (B : Pt), s.WarmedH vm₁ ∧ Stand p l e R s m args below meth c B.U B.locs B.cells B.slots ∧ PostX ⟨T.setVm vm₁, locs, cells, slots⟩ (Value.ref b :: argsL).toArray q B ∧
      Steps p.tables e below (T.setTop g) ((B.U.setTop { g with stack := rest }).pushFrame (.throwing q))) := by
  obtain ⟨mk, methM, hnamed, hmethM, hstM, habM⟩ := Cond.instanceMethod_spec hinst
  obtain ⟨methM', cM, hmethM', -, -, -, -, -, -, hsigM⟩ := Cond.code_spec hnamed hcode
  cases hmethM.symm.trans hmethM'
  obtain ⟨c2, r2, m2, q1, q2, q3, q4, kP, hkP, hkPi⟩ := Cond.selects_spec hsel
  cases hcls.symm.trans q1
  cases (State.methodFound?_of_named hnamed hy).symm.trans q2
  cases hnamed.symm.trans q3
  have hselP : selectMethod e.platform s.vm cellB.cls mk = .method mk := by rw [Launch.admits_selectMethod X.admits]; exact q4
  obtain ⟨vm₁, X₁, hstep₁⟩ := X.invokevirtual hexec hown hlink hnamed hmethM hstM hkP hkPi hy (a := b) (cell := cellB) hcell
    (fun z h => by rw [h] at hobj; cases hobj) hselP hmethM habM hkP hkPi (g := g) hg (argsL := argsL) (rest := rest) (hlen _ hsigM) hstack hdg
  rcases hK m meth c ⟨T.setVm vm₁, locs, cells, slots⟩ { g with stack := rest } (.invokevirtual index) mk (Value.ref b :: argsL).toArray X₁ hg hsize hdg hW (X₁.named hnamed) (hpre vm₁ X₁.warmed) with ⟨v, B, X', hpost, hsteps⟩ | ⟨q, B, X', hpost, hsteps⟩
  · exact Or.inl ⟨v, vm₁, B, X₁.warmed, X', hpost, fun target h => hstep₁ _ fun acts => by rw [doInvoke_state]; exact hsteps.trans h⟩
  · exact Or.inr ⟨q, vm₁, B, X₁.warmed, X', hpost, hstep₁ _ fun acts => by rw [doInvoke_state]; exact hsteps⟩
theorem vx_callS (X : Stand p l e R s m args below meth c T locs cells slots) (hexec : p.tables.exec = Jvm.exec) {own : String} {index : Nat} {y : MethodName} {bytes : ByteArray} {maxL : Nat} {ret : Option FieldType}
    (hown : s.vm.findClass own = some m.cls) (hlink : (Cond.methodLink own index y).before args s = true) (hstat : (Cond.static y).before args s = true) (hinit : (Cond.initialized y.cls).before args s = true)
    (hcode : (Cond.code y bytes maxL ret).before args s = true) (hy : y.cls ≠ "java/lang/invoke/MethodHandle" ∧ y.cls ≠ "java/lang/invoke/VarHandle")
    {W9 : Nat} {Pre : Pt → Array Value → Prop} {Post : Pt → Array Value → Option Value → Pt → Prop} {PostX : Pt → Array Value → Addr → Pt → Prop} (hK : vx_Back l R p e below s args y 3 W9 Pre Post PostX)
    {g : JFrame} (hg : g.method = m) (hsize : g.locals.size = c.maxLocals) {argsL rest : List Value} (hlen : ∀ sig, parseMethodDescriptor y.desc = some sig → argsL.length = sig.parameters.length)
    (hstack : g.stack = argsL.reverse ++ rest) (hW : 2 * g.monitorRoom + (rest.map fun v => v.category).sum ≤ W9) (hdg : decode c.code g.pc = .ok (.invokestatic index, 3))
    (hpre : ∀ vm₁, s.WarmedH vm₁ → Pre ⟨T.setVm vm₁, locs, cells, slots⟩ argsL.toArray) :
    (∃ (v : Option Value) (vm₁ : Vm) (B : Pt), s.WarmedH vm₁ ∧ Stand p l e R s m args below meth c B.U B.locs B.cells B.slots ∧ Post ⟨T.setVm vm₁, locs, cells, slots⟩ argsL.toArray v B ∧
      ∀ target, Steps p.tables e below (B.U.setTop { g with pc := g.pc + 3, stack := v.toList ++ rest }) target → Steps p.tables e below (T.setTop g) target) ∨
    (∃ (q : Addr) (vm₁ : Vm) (B : Pt), s.WarmedH vm₁ ∧ Stand p l e R s m args below meth c B.U B.locs B.cells B.slots ∧ PostX ⟨T.setVm vm₁, locs, cells, slots⟩ argsL.toArray q B ∧
      Steps p.tables e below (T.setTop g) ((B.U.setTop { g with stack := rest }).pushFrame (.throwing q))) := by
  obtain ⟨mk, hnamed⟩ := Cond.code_named hcode
  obtain ⟨methM, cM, hmethM, -, -, -, -, -, -, hsigM⟩ := Cond.code_spec hnamed hcode
  have hstatic : methM.isStatic = true := Cond.static_spec hnamed hmethM hstat
  obtain ⟨kP, hkP, -⟩ := className_of_methodNamed hnamed
  have hinitP : kP.init = .initialized := Cond.initialized_spec (findClass_of_methodNamed hnamed) hkP hinit
  obtain ⟨vm₁, X₁, hstep₁⟩ := X.invokestatic hexec hown hlink hnamed hmethM hstatic hkP hinitP hy (g := g) hg (argsL := argsL) (rest := rest) (hlen _ hsigM) hstack hdg
  rcases hK m meth c ⟨T.setVm vm₁, locs, cells, slots⟩ { g with stack := rest } (.invokestatic index) mk argsL.toArray X₁ hg hsize hdg hW (X₁.named hnamed) (hpre vm₁ X₁.warmed) with ⟨v, B, X', hpost, hsteps⟩ | ⟨q, B, X', hpost, hsteps⟩
  · exact Or.inl ⟨v, vm₁, B, X₁.warmed, X', hpost, fun target h => hstep₁ _ fun acts => by rw [doInvoke_state]; exact hsteps.trans h⟩
  · exact Or.inr ⟨q, vm₁, B, X₁.warmed, X', hpost, hstep₁ _ fun acts => by rw [doInvoke_state]; exact hsteps⟩
end Calls
theorem vx_cls {s : State} {T : State} {vm₁ : Vm} {E : String} {k : ClassId} (hW : s.WarmedH vm₁) (h : (T.setVm vm₁).vm.findClass E = some k) : s.vm.findClass E = some k := by
  have h1 : vm₁.findClass E = some k := h
  rw [hW.alike.findClass] at h1
  exact h1
/-- the method's frame g, with q thrown over it -/
def vx_W (p : Program) (l : Launch) (e : Env) (R : Room) (s : State) (m : MethodId) (args : Array Value) (below : List Frame) (meth : Method) (c : Code) (H : Heap) (locs : List Loc) (cells slots : Nat) (Q : State → Prop) (g : JFrame) (q : Addr) : Prop :=
  ∀ T : State, T.heap = H → Stand p l e R s m args below meth c T locs cells slots → ∃ t, Steps p.tables e below ((T.setTop g).pushFrame (.throwing q)) t ∧ Q t
def vx_Run (p : Program) (l : Launch) (e : Env) (R : Room) (s : State) (m : MethodId) (args : Array Value) (below : List Frame) (meth : Method) (c : Code) (H : Heap) (locs : List Loc) (cells slots mc ms : Nat) (g : JFrame) (rest : List Value) (Qa : State → Outcome → State → Prop) (XC : String → State → State → Prop) (free : Addr → Prop) : Prop :=
  ∀ T : State, T.heap = H → Stand p l e R s m args below meth c T locs cells slots →
    (∃ (v : Option Value) (st₀ t T' : State) (L : List Loc), st₀.heap = H ∧ Stand p l e R s m args below meth c T' (locs ++ L) (cells + mc) (slots + ms) ∧ (∀ q ∈ L, free q.base) ∧ T'.heap = t.heap ∧ T'.vm = t.vm ∧ Qa st₀ (.returned v) t ∧
      Goes p e below T g T' { g with pc := g.pc + 3, stack := v.toList ++ rest }) ∨
    (∃ (q : Addr) (st₀ t T' : State) (L : List Loc) (E : String) (ce : Cell), st₀.heap = H ∧ Stand p l e R s m args below meth c T' (locs ++ L) (cells + mc) (slots + ms) ∧ (∀ z ∈ L, free z.base) ∧ T'.heap = t.heap ∧ T'.vm = t.vm ∧ XC E st₀ t ∧ t.heap[q]? = some ce ∧ ce.vm = .none ∧ s.vm.findClass E = some ce.cls ∧
      Steps p.tables e below (T.setTop g) ((T'.setTop { g with stack := rest }).pushFrame (.throwing q)))
def vx_X {S : Type} (px : S → Prop) (B : String → S → State → Prop) (A : Nat → Prop) : String → State → State → Prop := fun E st t => ∃ u : S, px u ∧ B E u t ∧ va_F A st t
section Runs
variable {p : Program} {l : Launch} {e : Env} {R : Room} {s : State} {m : MethodId} {args : Array Value} {below : List Frame} {meth : Method} {c : Code} {H : Heap} {locs : List Loc} {cells slots : Nat}
variable {y : MethodName} {bytes cc : ByteArray} {maxL nL mc ms n index : Nat} {ret : Option FieldType} {ws : List Cond} {rm : Room} {Pc : Array Value → State → Prop} {Qc : Array Value → State → Outcome → State → Prop} {XC : String → State → State → Prop} {free : Addr → Prop} {Ts : List Cond} {own C : String} {b : Addr} {As rest : List Value} {g : JFrame}
theorem vx_callBack (cb : CallB R s args own index y bytes maxL ret ws rm mc ms n) (hM : vx_Met l y ws rm Pc Qc XC mc ms free) (hbl : FrameBlind Pc) : vx_Back l R p e below s args y 3 8 (PreOf R mc ms Pc) (PostOf Qc mc ms free) (vx_Post XC mc ms free) := by
  obtain ⟨hrc, hrs, hfr, hlo, hws, hcw, -, hini, -⟩ := cb
  exact vx_back (bytes := bytes) (maxL := maxL) (ret := ret) hM hbl hrc hrs hfr hlo hws hcw (fun a' U hW => word_at hW (Or.inl (by first | rfl | simp [Cond.onTables, Cond.keeps, Cond.steady])) hini)
theorem vx_runV (S : CallFix p m c cc nL s args Ts own) (hM : vx_Met l y ws rm Pc Qc XC mc ms free) (cw : CallW R s args own C index y bytes maxL ret ws rm mc ms n) (hp : PreV s H C b Pc As)
    (hg : g.method = m) (hn : As.length = n) (hsize : g.locals.size = nL) (hstack : g.stack = As.reverse ++ .ref b :: rest) (hW : 2 * g.monitorRoom + (rest.map fun v => v.category).sum ≤ 8) (hdg : decode cc g.pc = .ok (.invokevirtual index, 3)) (hf : cells + mc ≤ R.cells ∧ slots + ms ≤ R.slots) :
    vx_Run p l e R s m args below meth c H locs cells slots mc ms g rest (Qc (Value.ref b :: As).toArray) XC free := by
  have hK : vx_Back l R p e below s args y 3 8 (PreOf R mc ms Pc) (PostOf Qc mc ms free) (vx_Post XC mc ms free) := vx_callBack cw.1 hM hp.1
  obtain ⟨⟨-, -, -, -, -, -, hcode, -, hy, hlen, hl⟩, hin, hse⟩ := cw
  obtain ⟨hx, hb, hml, ho, -⟩ := S
  obtain ⟨-, ⟨cellB, hcB, hoB, hclB⟩, hPc⟩ := hp
  intro T hT X
  rcases vx_callV X hx (C := C) (bytes := bytes) (maxL := maxL) (ret := ret) ho hl hin hse hcode hy hK (by rw [hT]; exact hcB) hoB hclB hg (hsize.trans hml.symm) (argsL := As) (rest := rest) (fun sig h => hn.trans (hlen sig h)) hstack hW (by rw [hb]; exact hdg)
    (fun vm₁ hW₁ => ⟨hf.1, hf.2, hPc (T.setVm vm₁) hT hW₁⟩) with ⟨v, vm₁, ⟨U', l2, c2, s2⟩, hW₁, X', ⟨g', mk, t, L, e1, e2, hq, h1, hL, h2, h3⟩, st⟩ | ⟨q, vm₁, ⟨U', l2, c2, s2⟩, hW₁, X', ⟨g', mk, t, L, E, ce, e1, e2, hq, hce, hcv, hcl, h1, hL, h2, h3⟩, st⟩
  · dsimp only [Pt.U, Pt.locs, Pt.cells, Pt.slots] at X' e1 e2 h1 h2 h3 st
    subst h1; subst h2; subst h3
    exact Or.inl ⟨v, (T.setVm vm₁).calling g' mk (Value.ref b :: As).toArray, t, U', L, hT, X', hL, e1, e2, hq, st⟩
  · dsimp only [Pt.U, Pt.locs, Pt.cells, Pt.slots] at X' e1 e2 h1 h2 h3 st hcl
    subst h1; subst h2; subst h3
    exact Or.inr ⟨q, (T.setVm vm₁).calling g' mk (Value.ref b :: As).toArray, t, U', L, E, ce, hT, X', hL, e1, e2, hq, hce, hcv, vx_cls hW₁ hcl, st⟩
theorem vx_runS (S : CallFix p m c cc nL s args Ts own) (hM : vx_Met l y ws rm Pc Qc XC mc ms free) (cw : CallB R s args own index y bytes maxL ret ws rm mc ms n ∧ (Cond.static y).before args s = true) (hp : PreS s H Pc As)
    (hg : g.method = m) (hn : As.length = n) (hsize : g.locals.size = nL) (hstack : g.stack = As.reverse ++ rest) (hW : 2 * g.monitorRoom + (rest.map fun v => v.category).sum ≤ 8) (hdg : decode cc g.pc = .ok (.invokestatic index, 3)) (hf : cells + mc ≤ R.cells ∧ slots + ms ≤ R.slots) :
    vx_Run p l e R s m args below meth c H locs cells slots mc ms g rest (Qc As.toArray) XC free := by
  have hK : vx_Back l R p e below s args y 3 8 (PreOf R mc ms Pc) (PostOf Qc mc ms free) (vx_Post XC mc ms free) := vx_callBack cw.1 hM hp.1
  obtain ⟨⟨-, -, -, -, -, -, hcode, hini, hy, hlen, hl⟩, hstt⟩ := cw
  obtain ⟨hx, hb, hml, ho, -⟩ := S
  intro T hT X
  rcases vx_callS X hx (bytes := bytes) (maxL := maxL) (ret := ret) ho hl hstt hini hcode hy hK hg (hsize.trans hml.symm) (argsL := As) (rest := rest) (fun sig h => hn.trans (hlen sig h)) hstack hW (by rw [hb]; exact hdg)
    (fun vm₁ hW₁ => ⟨hf.1, hf.2, hp.2 (T.setVm vm₁) hT hW₁⟩) with ⟨v, vm₁, ⟨U', l2, c2, s2⟩, hW₁, X', ⟨g', mk, t, L, e1, e2, hq, h1, hL, h2, h3⟩, st⟩ | ⟨q, vm₁, ⟨U', l2, c2, s2⟩, hW₁, X', ⟨g', mk, t, L, E, ce, e1, e2, hq, hce, hcv, hcl, h1, hL, h2, h3⟩, st⟩
  · dsimp only [Pt.U, Pt.locs, Pt.cells, Pt.slots] at X' e1 e2 h1 h2 h3 st
    subst h1; subst h2; subst h3
    exact Or.inl ⟨v, (T.setVm vm₁).calling g' mk As.toArray, t, U', L, hT, X', hL, e1, e2, hq, st⟩
  · dsimp only [Pt.U, Pt.locs, Pt.cells, Pt.slots] at X' e1 e2 h1 h2 h3 st hcl
    subst h1; subst h2; subst h3
    exact Or.inr ⟨q, (T.setVm vm₁).calling g' mk As.toArray, t, U', L, E, ce, hT, X', hL, e1, e2, hq, hce, hcv, vx_cls hW₁ hcl, st⟩
end Runs
section Rows
variable {p : Program} {l : Launch} {e : Env} {R : Room} {s : State} {m : MethodId} {args : Array Value} {below : List Frame} {meth : Method} {c : Code} {H : Heap} {locs : List Loc} {cells slots : Nat} {Q : State → Prop}
variable {mc ms : Nat} {free : Addr → Prop} {A0 A1 : Nat → Prop} {H0 : Heap} {a : Array Value} {pc : Nat} {ls : Array Slot} {st0 rest : List Value}
theorem vx_keep {st₀ t T' : State} {L : List Loc} (h0 : st₀.heap = H) (e1 : T'.heap = t.heap) (hS : va_S A0 H0 H locs) (hA : ∀ q, q < H.size → A1 q → A0 q) (hf : ∀ q, free q → A0 q) (hL : ∀ q ∈ L, free q.base) (hF : va_F A1 st₀ t) :
    H.size ≤ T'.heap.size ∧ (∀ q : Nat, q < H.size → ¬ A1 q → T'.heap[q]? = H[q]?) ∧ va_S A0 H0 T'.heap (locs ++ L) := by
  obtain ⟨hz, hk⟩ := hF
  rw [h0] at hz hk
  exact ⟨by rw [e1]; exact hz, fun q h1 h2 => by rw [e1]; exact hk q h1 h2,
    ⟨Nat.le_trans hS.1 (by rw [e1]; exact hz), fun q h1 h2 => by rw [e1, hk q (Nat.lt_of_lt_of_le h1 hS.1) (fun z => h2 (hA q (Nat.lt_of_lt_of_le h1 hS.1) z))]; exact hS.2.1 q h1 h2, fun q hq => by
      rcases List.mem_append.mp hq with h | h
      · exact hS.2.2 q h
      · exact hf _ (hL q h)⟩⟩
theorem vx_calli {S SX : Type} {post : Int32 → S → Prop} {px : SX → Prop} {B : S → State → Prop} {BX : String → SX → State → Prop} {AX : Nat → Prop} (hr : vx_Run p l e R s m args below meth c H locs cells slots mc ms (F0 m pc ls st0) rest (va_Qi post B A1 a) (vx_X px BX AX) free) (hS : va_S A0 H0 H locs) (hA : ∀ q, q < H.size → A1 q → A0 q) (hf : ∀ q, free q → A0 q) (hAX : ∀ q, q < H.size → AX q → A0 q)
    (kx : ∀ (E : String) (ce : Cell) (q9 : Addr) (u : SX) (t : State) (H1 : Heap) (locs1 : List Loc), t.heap = H1 → s.vm.Alike t.vm → px u → BX E u t → H.size ≤ H1.size → (∀ q : Nat, q < H.size → ¬ AX q → H1[q]? = H[q]?) → va_S A0 H0 H1 locs1 → H1[q9]? = some ce → ce.vm = .none → s.vm.findClass E = some ce.cls → vx_W p l e R s m args below meth c H1 locs1 (cells + mc) (slots + ms) Q (F0 m pc ls rest) q9)
    (kk : ∀ (r : Int32) (u : S) (t : State) (H1 : Heap) (locs1 : List Loc), t.heap = H1 → s.vm.Alike t.vm → post r u → B u t → H.size ≤ H1.size → (∀ q : Nat, q < H.size → ¬ A1 q → H1[q]? = H[q]?) → va_S A0 H0 H1 locs1 → W p l e R s m args below meth c H1 locs1 (cells + mc) (slots + ms) Q (F0 m (pc + 3) ls (.int r :: rest))) : W p l e R s m args below meth c H locs cells slots Q (F0 m pc ls st0) := by
  intro T hT X
  rcases hr T hT X with ⟨v, st₀, t, T', L, h0, X', hL, e1, e2, ⟨⟨r, u, hv, hp, hb⟩, hF⟩, st⟩ | ⟨q, st₀, t, T', L, E, ce, h0, X', hL, e1, e2, ⟨u, hp, hb, hF⟩, hce, hcv, hcl, st⟩
  · cases hv
    obtain ⟨k1, k2, k3⟩ := vx_keep h0 e1 hS hA hf hL hF
    obtain ⟨t2, a1, b1⟩ := kk r u t T'.heap (locs ++ L) e1.symm (by rw [← e2]; exact X'.warmed.alike) hp hb k1 k2 k3 T' rfl X'
    exact ⟨t2, st t2 a1, b1⟩
  · obtain ⟨k1, k2, k3⟩ := vx_keep h0 e1 hS hAX hf hL hF
    obtain ⟨t2, a1, b1⟩ := kx E ce q u t T'.heap (locs ++ L) e1.symm (by rw [← e2]; exact X'.warmed.alike) hp hb k1 k2 k3 (by rw [e1]; exact hce) hcv hcl T' rfl X'
    exact ⟨t2, st.trans a1, b1⟩
theorem vx_calll {S SX : Type} {post : Int64 → S → Prop} {px : SX → Prop} {B : S → State → Prop} {BX : String → SX → State → Prop} {AX : Nat → Prop} (hr : vx_Run p l e R s m args below meth c H locs cells slots mc ms (F0 m pc ls st0) rest (va_Ql post B A1 a) (vx_X px BX AX) free) (hS : va_S A0 H0 H locs) (hA : ∀ q, q < H.size → A1 q → A0 q) (hf : ∀ q, free q → A0 q) (hAX : ∀ q, q < H.size → AX q → A0 q)
    (kx : ∀ (E : String) (ce : Cell) (q9 : Addr) (u : SX) (t : State) (H1 : Heap) (locs1 : List Loc), t.heap = H1 → s.vm.Alike t.vm → px u → BX E u t → H.size ≤ H1.size → (∀ q : Nat, q < H.size → ¬ AX q → H1[q]? = H[q]?) → va_S A0 H0 H1 locs1 → H1[q9]? = some ce → ce.vm = .none → s.vm.findClass E = some ce.cls → vx_W p l e R s m args below meth c H1 locs1 (cells + mc) (slots + ms) Q (F0 m pc ls rest) q9)
    (kk : ∀ (r : Int64) (u : S) (t : State) (H1 : Heap) (locs1 : List Loc), t.heap = H1 → s.vm.Alike t.vm → post r u → B u t → H.size ≤ H1.size → (∀ q : Nat, q < H.size → ¬ A1 q → H1[q]? = H[q]?) → va_S A0 H0 H1 locs1 → W p l e R s m args below meth c H1 locs1 (cells + mc) (slots + ms) Q (F0 m (pc + 3) ls (.long r :: rest))) : W p l e R s m args below meth c H locs cells slots Q (F0 m pc ls st0) := by
  intro T hT X
  rcases hr T hT X with ⟨v, st₀, t, T', L, h0, X', hL, e1, e2, ⟨⟨r, u, hv, hp, hb⟩, hF⟩, st⟩ | ⟨q, st₀, t, T', L, E, ce, h0, X', hL, e1, e2, ⟨u, hp, hb, hF⟩, hce, hcv, hcl, st⟩
  · cases hv
    obtain ⟨k1, k2, k3⟩ := vx_keep h0 e1 hS hA hf hL hF
    obtain ⟨t2, a1, b1⟩ := kk r u t T'.heap (locs ++ L) e1.symm (by rw [← e2]; exact X'.warmed.alike) hp hb k1 k2 k3 T' rfl X'
    exact ⟨t2, st t2 a1, b1⟩
  · obtain ⟨k1, k2, k3⟩ := vx_keep h0 e1 hS hAX hf hL hF
    obtain ⟨t2, a1, b1⟩ := kx E ce q u t T'.heap (locs ++ L) e1.symm (by rw [← e2]; exact X'.warmed.alike) hp hb k1 k2 k3 (by rw [e1]; exact hce) hcv hcl T' rfl X'
    exact ⟨t2, st.trans a1, b1⟩
theorem vx_callf {S SX : Type} {post : UInt32 → S → Prop} {px : SX → Prop} {B : S → State → Prop} {BX : String → SX → State → Prop} {AX : Nat → Prop} (hr : vx_Run p l e R s m args below meth c H locs cells slots mc ms (F0 m pc ls st0) rest (va_Qf post B A1 a) (vx_X px BX AX) free) (hS : va_S A0 H0 H locs) (hA : ∀ q, q < H.size → A1 q → A0 q) (hf : ∀ q, free q → A0 q) (hAX : ∀ q, q < H.size → AX q → A0 q)
    (kx : ∀ (E : String) (ce : Cell) (q9 : Addr) (u : SX) (t : State) (H1 : Heap) (locs1 : List Loc), t.heap = H1 → s.vm.Alike t.vm → px u → BX E u t → H.size ≤ H1.size → (∀ q : Nat, q < H.size → ¬ AX q → H1[q]? = H[q]?) → va_S A0 H0 H1 locs1 → H1[q9]? = some ce → ce.vm = .none → s.vm.findClass E = some ce.cls → vx_W p l e R s m args below meth c H1 locs1 (cells + mc) (slots + ms) Q (F0 m pc ls rest) q9)
    (kk : ∀ (r : UInt32) (u : S) (t : State) (H1 : Heap) (locs1 : List Loc), t.heap = H1 → s.vm.Alike t.vm → post r u → B u t → H.size ≤ H1.size → (∀ q : Nat, q < H.size → ¬ A1 q → H1[q]? = H[q]?) → va_S A0 H0 H1 locs1 → W p l e R s m args below meth c H1 locs1 (cells + mc) (slots + ms) Q (F0 m (pc + 3) ls (.float r :: rest))) : W p l e R s m args below meth c H locs cells slots Q (F0 m pc ls st0) := by
  intro T hT X
  rcases hr T hT X with ⟨v, st₀, t, T', L, h0, X', hL, e1, e2, ⟨⟨r, u, hv, hp, hb⟩, hF⟩, st⟩ | ⟨q, st₀, t, T', L, E, ce, h0, X', hL, e1, e2, ⟨u, hp, hb, hF⟩, hce, hcv, hcl, st⟩
  · cases hv
    obtain ⟨k1, k2, k3⟩ := vx_keep h0 e1 hS hA hf hL hF
    obtain ⟨t2, a1, b1⟩ := kk r u t T'.heap (locs ++ L) e1.symm (by rw [← e2]; exact X'.warmed.alike) hp hb k1 k2 k3 T' rfl X'
    exact ⟨t2, st t2 a1, b1⟩
  · obtain ⟨k1, k2, k3⟩ := vx_keep h0 e1 hS hAX hf hL hF
    obtain ⟨t2, a1, b1⟩ := kx E ce q u t T'.heap (locs ++ L) e1.symm (by rw [← e2]; exact X'.warmed.alike) hp hb k1 k2 k3 (by rw [e1]; exact hce) hcv hcl T' rfl X'
    exact ⟨t2, st.trans a1, b1⟩
theorem vx_calld {S SX : Type} {post : UInt64 → S → Prop} {px : SX → Prop} {B : S → State → Prop} {BX : String → SX → State → Prop} {AX : Nat → Prop} (hr : vx_Run p l e R s m args below meth c H locs cells slots mc ms (F0 m pc ls st0) rest (va_Qd post B A1 a) (vx_X px BX AX) free) (hS : va_S A0 H0 H locs) (hA : ∀ q, q < H.size → A1 q → A0 q) (hf : ∀ q, free q → A0 q) (hAX : ∀ q, q < H.size → AX q → A0 q)
    (kx : ∀ (E : String) (ce : Cell) (q9 : Addr) (u : SX) (t : State) (H1 : Heap) (locs1 : List Loc), t.heap = H1 → s.vm.Alike t.vm → px u → BX E u t → H.size ≤ H1.size → (∀ q : Nat, q < H.size → ¬ AX q → H1[q]? = H[q]?) → va_S A0 H0 H1 locs1 → H1[q9]? = some ce → ce.vm = .none → s.vm.findClass E = some ce.cls → vx_W p l e R s m args below meth c H1 locs1 (cells + mc) (slots + ms) Q (F0 m pc ls rest) q9)
    (kk : ∀ (r : UInt64) (u : S) (t : State) (H1 : Heap) (locs1 : List Loc), t.heap = H1 → s.vm.Alike t.vm → post r u → B u t → H.size ≤ H1.size → (∀ q : Nat, q < H.size → ¬ A1 q → H1[q]? = H[q]?) → va_S A0 H0 H1 locs1 → W p l e R s m args below meth c H1 locs1 (cells + mc) (slots + ms) Q (F0 m (pc + 3) ls (.double r :: rest))) : W p l e R s m args below meth c H locs cells slots Q (F0 m pc ls st0) := by
  intro T hT X
  rcases hr T hT X with ⟨v, st₀, t, T', L, h0, X', hL, e1, e2, ⟨⟨r, u, hv, hp, hb⟩, hF⟩, st⟩ | ⟨q, st₀, t, T', L, E, ce, h0, X', hL, e1, e2, ⟨u, hp, hb, hF⟩, hce, hcv, hcl, st⟩
  · cases hv
    obtain ⟨k1, k2, k3⟩ := vx_keep h0 e1 hS hA hf hL hF
    obtain ⟨t2, a1, b1⟩ := kk r u t T'.heap (locs ++ L) e1.symm (by rw [← e2]; exact X'.warmed.alike) hp hb k1 k2 k3 T' rfl X'
    exact ⟨t2, st t2 a1, b1⟩
  · obtain ⟨k1, k2, k3⟩ := vx_keep h0 e1 hS hAX hf hL hF
    obtain ⟨t2, a1, b1⟩ := kx E ce q u t T'.heap (locs ++ L) e1.symm (by rw [← e2]; exact X'.warmed.alike) hp hb k1 k2 k3 (by rw [e1]; exact hce) hcv hcl T' rfl X'
    exact ⟨t2, st.trans a1, b1⟩
theorem vx_callv {S SX : Type} {post : S → Prop} {px : SX → Prop} {B : S → State → Prop} {BX : String → SX → State → Prop} {AX : Nat → Prop} (hr : vx_Run p l e R s m args below meth c H locs cells slots mc ms (F0 m pc ls st0) rest (va_Qv post B A1 a) (vx_X px BX AX) free) (hS : va_S A0 H0 H locs) (hA : ∀ q, q < H.size → A1 q → A0 q) (hf : ∀ q, free q → A0 q) (hAX : ∀ q, q < H.size → AX q → A0 q)
    (kx : ∀ (E : String) (ce : Cell) (q9 : Addr) (u : SX) (t : State) (H1 : Heap) (locs1 : List Loc), t.heap = H1 → s.vm.Alike t.vm → px u → BX E u t → H.size ≤ H1.size → (∀ q : Nat, q < H.size → ¬ AX q → H1[q]? = H[q]?) → va_S A0 H0 H1 locs1 → H1[q9]? = some ce → ce.vm = .none → s.vm.findClass E = some ce.cls → vx_W p l e R s m args below meth c H1 locs1 (cells + mc) (slots + ms) Q (F0 m pc ls rest) q9)
    (kk : ∀ (u : S) (t : State) (H1 : Heap) (locs1 : List Loc), t.heap = H1 → s.vm.Alike t.vm → post u → B u t → H.size ≤ H1.size → (∀ q : Nat, q < H.size → ¬ A1 q → H1[q]? = H[q]?) → va_S A0 H0 H1 locs1 → W p l e R s m args below meth c H1 locs1 (cells + mc) (slots + ms) Q (F0 m (pc + 3) ls (rest))) : W p l e R s m args below meth c H locs cells slots Q (F0 m pc ls st0) := by
  intro T hT X
  rcases hr T hT X with ⟨v, st₀, t, T', L, h0, X', hL, e1, e2, ⟨⟨u, hv, hp, hb⟩, hF⟩, st⟩ | ⟨q, st₀, t, T', L, E, ce, h0, X', hL, e1, e2, ⟨u, hp, hb, hF⟩, hce, hcv, hcl, st⟩
  · cases hv
    obtain ⟨k1, k2, k3⟩ := vx_keep h0 e1 hS hA hf hL hF
    obtain ⟨t2, a1, b1⟩ := kk u t T'.heap (locs ++ L) e1.symm (by rw [← e2]; exact X'.warmed.alike) hp hb k1 k2 k3 T' rfl X'
    exact ⟨t2, st t2 a1, b1⟩
  · obtain ⟨k1, k2, k3⟩ := vx_keep h0 e1 hS hAX hf hL hF
    obtain ⟨t2, a1, b1⟩ := kx E ce q u t T'.heap (locs ++ L) e1.symm (by rw [← e2]; exact X'.warmed.alike) hp hb k1 k2 k3 (by rw [e1]; exact hce) hcv hcl T' rfl X'
    exact ⟨t2, st.trans a1, b1⟩
/-- caught by the row x of this method's table; the rows ahead don't take it -/
theorem vx_catch {own name : String} {E : String} {ce : Cell} {q : Addr} (hown : s.vm.findClass own = some m.cls) (pre : List ExceptionTableEntry) (x : ExceptionTableEntry) (suf : List ExceptionTableEntry) (hsplit : c.exceptionTable.toList = pre ++ x :: suf)
    (hpass : ∀ z ∈ pre, covers z pc = false ∨ (z.catchType ≠ 0 ∧ ∃ nm : String, (Cond.classLink own z.catchType nm).before args s = true ∧ va_Nc E nm s)) (hx : covers x pc = true) (h0 : x.catchType ≠ 0)
    (hlink : (Cond.classLink own x.catchType name).before args s = true) (hcast : (Cond.castable E name).before args s = true) (hcell : H[q]? = some ce) (hv : ce.vm = .none) (hcl : s.vm.findClass E = some ce.cls)
    (kk : W p l e R s m args below meth c H locs cells slots Q (F0 m x.handlerPc ls [.ref q])) : vx_W p l e R s m args below meth c H locs cells slots Q (F0 m pc ls rest) q := by
  intro T hT X
  have hpl : e.platform.magicAccessors = ({} : Platform).magicAccessors := by rw [X.admits.platform]
  obtain ⟨c3, c4, hc3, hc4, hasg⟩ := Cond.castable_spec hcast
  cases Option.some.inj (hc3.symm.trans hcl)
  obtain ⟨c5, hc5, hcl5⟩ := Cond.classLink_spec hown hlink e.platform hpl
  cases Option.some.inj (hc4.symm.trans hc5)
  obtain ⟨vm', X', st⟩ := X.thenCaughtThrough q (g := F0 m pc ls rest) rfl (Steps.refl _) (by rw [hT]; exact hcell) (by rw [hv]; rfl) (by obtain ⟨k9, h9, -⟩ := Vm.findClass_spec hcl; exact ⟨k9, h9⟩) pre x suf hsplit
    (fun z hz => by
      rcases hpass z hz with h | ⟨hz0, nm, hl1, hn1⟩
      · exact Or.inl h
      · obtain ⟨c6, hc6, hcl6⟩ := Cond.classLink_spec hown hl1 e.platform hpl
        obtain ⟨a8, b8, h1, h2, h3⟩ := hn1
        cases Option.some.inj (h1.symm.trans hcl)
        cases Option.some.inj (h2.symm.trans hc6)
        exact Or.inr ⟨hz0, _, hcl6, h3⟩) hx (Or.inr ⟨h0, c4, hcl5, hasg⟩)
  obtain ⟨t, a1, b1⟩ := kk (T.setVm vm') hT X'
  exact ⟨t, st.trans a1, b1⟩
end Rows
section Ends
variable {p : Program} {l : Launch} {e : Env} {R : Room} {s : State} {m : MethodId} {args : Array Value} {below : List Frame} {meth : Method} {c : Code} {H : Heap} {locs : List Loc} {cells slots : Nat} {Q : State → Prop}
variable {mc ms : Nat} {free : Addr → Prop} {A0 A1 : Nat → Prop} {H0 : Heap} {a : Array Value} {ls : Array Slot} {st0 rest : List Value}
variable {Qc : Array Value → State → Outcome → State → Prop} {XC : String → State → State → Prop}
/-- what a body that may throw owes at its end -/
def vx_MQ (below : List Frame) (Qc : Array Value → State → Outcome → State → Prop) (XC : String → State → State → Prop) (a : Array Value) (s : State) (mc ms : Nat) (free : Addr → Prop) : State → Prop := fun t =>
  ∃ o, t.status = .running ∧ Ended t below o ∧ vx_Q Qc XC mc ms free a s o t
theorem vx_ret {g : JFrame} {mc ms : Nat} (k : W p l e R s m args below meth c H locs cells slots (MQ below Qc args s mc ms free) g) : W p l e R s m args below meth c H locs cells slots (vx_MQ below Qc XC args s mc ms free) g := by
  intro T hT X
  obtain ⟨t, a1, o, b1, b2, b3, b4⟩ := k T hT X
  exact ⟨t, a1, o, b1, b2, Or.inl ⟨b3, b4⟩⟩
/-- not caught here: it goes on to the caller -/
theorem vx_widen {g : JFrame} {q : Addr} {k n : Nat} (h1 : cells ≤ k) (h2 : slots ≤ n) (kk : vx_W p l e R s m args below meth c H locs k n Q g q) : vx_W p l e R s m args below meth c H locs cells slots Q g q := fun T hT X => kk T hT (stand_widen X h1 h2)
theorem vx_out {pc : Nat} {E : String} {ce : Cell} {q : Addr} {mc ms : Nat} (hout : ∀ x ∈ c.exceptionTable.toList, covers x pc = false) (hlocks : meth.locks = false) (hcell : H[q]? = some ce) (hv : ce.vm = .none) (hcl : s.vm.findClass E = some ce.cls)
    (hx : ∀ t : State, t.heap = H → s.vm.Alike t.vm → XC E s t) (hf : ∀ z ∈ locs, free z.base) (hc : cells ≤ mc) (hs : slots ≤ ms) :
    vx_W p l e R s m args below meth c H locs cells slots (vx_MQ below Qc XC args s mc ms free) (F0 m pc ls rest) q := by
  intro T hT X
  obtain ⟨st1, hrun, hend, hW, hsm⟩ := X.leaveThrown q (g := F0 m pc ls rest) rfl rfl rfl hout hlocks
  have hcell9 : (T.setFrames (.throwing q :: below)).heap[q]? = some ce := by
    show T.heap[q]? = some ce
    rw [hT]; exact hcell
  exact ⟨_, st1, .threw q, hrun, hend, Or.inr ⟨q, rfl, E, ce, locs, hx _ hT hW.alike, hcell9, hv, hcl, hW, hsm.mono hc hs, hf⟩⟩
theorem vx_frame {U : State} {k n : Nat} (h : s.sameButNew ({ U with vm := s.vm } : State) locs k n) : s.heap.size ≤ U.heap.size ∧ ∀ q : Nat, q < s.heap.size → (∀ z ∈ locs, z.base ≠ q) → U.heap[q]? = s.heap[q]? := by
  obtain ⟨-, h2, -, -, -, h6⟩ := h
  refine ⟨h2, fun q hq hz => ?_⟩
  obtain ⟨c9, e1, e2, e3, e4⟩ := h6 q _ (Array.getElem?_eq_getElem hq)
  have hs : c9.slots = (s.heap[q]).slots := Array.ext_getElem? fun i => e4 i fun hm => hz _ hm rfl
  have h9 : c9 = s.heap[q] := by
    rw [hs] at e2
    exact e2
  have e5 : U.heap[q]? = some c9 := e1
  rw [e5, h9, Array.getElem?_eq_getElem hq]
/-- the words of a throw but the four that speak of the heap -/
def vx_no (w : Cond) : Bool := decide (w ≠ .isRef (.static Bundle.tN "UNASSIGNED_STACK" Bundle.steD)) && decide (w ≠ .isRef (.static Bundle.tN "SUPPRESSED_SENTINEL" Bundle.listD)) && decide (w ≠ .laysStatic Bundle.tN "UNASSIGNED_STACK" Bundle.steD) && decide (w ≠ .laysStatic Bundle.tN "SUPPRESSED_SENTINEL" Bundle.listD)
def vx_at0 (own : String) (ic : Nat) (X : String) (names : List String) : List Cond := (Bundle.ownAtoms0 own ic X names).filter vx_no
def vx_atS (own : String) (ic : Nat) (X : String) (names : List String) : List Cond := (Bundle.ownAtoms own ic X names).filter vx_no
/-- a word that the tables alone decide, or a good one -/
def vx_ot (w : Cond) : Bool := w.onTables || goodWord w
theorem vx_ot_at {args a' : Array Value} {s U : State} {w : Cond} (hW : s.WarmedH U.vm) (hvm : s.vm = U.vm) (hg : vx_ot w = true) (h : w.before args s = true) : w.before a' U = true := by
  simp only [vx_ot, Bool.or_eq_true] at hg
  rcases hg with hg | hg
  · exact va_tabs hg hvm h
  · exact word_at hW (good_of_word hg) h
/-- a list's words: the good ones out of the method's own list, the others by premises of their own -/
theorem vx_hat {args : Array Value} {s : State} {L B : List Cond} (h1 : ∀ w ∈ L.filter goodWord, w.before args s = true) (h2 : ∀ w ∈ L.filter (fun w => !goodWord w), w ∈ B) (h3 : ∀ w ∈ B, w.before args s = true) : ∀ w ∈ L, w.before args s = true := by
  intro w hw
  by_cases g : goodWord w = true
  · exact h1 w (List.mem_filter.mpr ⟨hw, g⟩)
  · refine h3 w (h2 w (List.mem_filter.mpr ⟨hw, ?_⟩))
    show (!goodWord w) = true
    cases hgw : goodWord w
    · rfl
    · exact absurd hgw g
theorem vx_c {args : Array Value} {s : State} {w : Cond} {B : List Cond} (h : w.before args s = true) (t : ∀ w ∈ B, w.before args s = true) : ∀ w' ∈ w :: B, w'.before args s = true := fun w' h' => (List.mem_cons.mp h').elim (fun e => by rw [e]; exact h) (t w')
theorem vx_n {args : Array Value} {s : State} : ∀ w ∈ ([] : List Cond), w.before args s = true := fun _ h => nomatch h
theorem vx_own {args : Array Value} {s : State} {L : List Cond} (h1 : ∀ w ∈ L.filter vx_no, w.before args s = true)
    (hU : (Cond.isRef (.static Bundle.tN "UNASSIGNED_STACK" Bundle.steD)).before args s = true) (hN : (Cond.isRef (.static Bundle.tN "SUPPRESSED_SENTINEL" Bundle.listD)).before args s = true)
    (lU : (Cond.laysStatic Bundle.tN "UNASSIGNED_STACK" Bundle.steD).before args s = true) (lN : (Cond.laysStatic Bundle.tN "SUPPRESSED_SENTINEL" Bundle.listD).before args s = true) : ∀ w ∈ L, w.before args s = true := by
  intro w hw
  by_cases e1 : w = .isRef (.static Bundle.tN "UNASSIGNED_STACK" Bundle.steD)
  · rw [e1]; exact hU
  · by_cases e2 : w = .isRef (.static Bundle.tN "SUPPRESSED_SENTINEL" Bundle.listD)
    · rw [e2]; exact hN
    · by_cases e3 : w = .laysStatic Bundle.tN "UNASSIGNED_STACK" Bundle.steD
      · rw [e3]; exact lU
      · by_cases e4 : w = .laysStatic Bundle.tN "SUPPRESSED_SENTINEL" Bundle.listD
        · rw [e4]; exact lN
        · exact h1 w (List.mem_filter.mpr ⟨hw, by unfold vx_no; rw [decide_eq_true e1, decide_eq_true e2, decide_eq_true e3, decide_eq_true e4]; rfl⟩)
/-- where a static field lies, its class's statics cell in H -/
def vx_L (C n d : String) (A : Nat → Prop) (U : State) (H : Heap) : Prop := ∃ (c : ClassId) (k : Class) (i : Nat) (f : Field) (a : Nat) (cell : Cell), U.vm.findClass C = some c ∧ U.fieldFound? C n d = some (c, k, i, f) ∧ f.isStatic = true ∧ k.statics = some a ∧ H[a]? = some cell ∧ cell.vm.isStatics = true ∧ cell.cls = c ∧ f.slot < cell.slots.size ∧ k.staticTypes[f.slot]? = some f.type ∧ ¬ A a
theorem vx_L.moved {C n d : String} {A : Nat → Prop} {u U : State} {H : Heap} (hvm : u.vm.Alike U.vm) (h : vx_L C n d A u H) : vx_L C n d A U H := by
  obtain ⟨c, k, i, f, a, cell, h1, h2, h3, h4, h5, h6, h7, h8, h9, h10⟩ := h
  obtain ⟨k', hi', he⟩ := State.fieldFound?_setVm hvm h2
  exact ⟨c, k', i, f, a, cell, by rw [hvm.findClass]; exact h1, hi', h3, by rw [he]; exact h4, h5, h6, h7, h8, by rw [he]; exact h9, h10⟩
theorem vx_L.kept {C n d : String} {A : Nat → Prop} {U : State} {H H1 : Heap} (h : vx_L C n d A U H) (hq : ∀ a : Nat, a < H.size → ¬ A a → H1[a]? = H[a]?) : vx_L C n d A U H1 := by
  obtain ⟨c, k, i, f, a, cell, h1, h2, h3, h4, h5, h6, h7, h8, h9, h10⟩ := h
  exact ⟨c, k, i, f, a, cell, h1, h2, h3, h4, by rw [hq a (Array.getElem?_eq_some_iff.mp h5).1 h10]; exact h5, h6, h7, h8, h9, h10⟩
theorem vx_L.narrow {C n d : String} {A B : Nat → Prop} {U : State} {H : Heap} (h : vx_L C n d A U H) (hAB : ∀ q, B q → A q) : vx_L C n d B U H := by
  obtain ⟨c, k, i, f, a, cell, h1, h2, h3, h4, h5, h6, h7, h8, h9, h10⟩ := h
  exact ⟨c, k, i, f, a, cell, h1, h2, h3, h4, h5, h6, h7, h8, h9, fun z => h10 (hAB _ z)⟩
theorem vx_L.word {C n d : String} {A : Nat → Prop} {s : State} {args : Array Value} (h : vx_L C n d A s s.heap) : (Cond.laysStatic C n d).before args s = true := by
  obtain ⟨c, k, i, f, a, cell, h1, h2, h3, h4, h5, h6, h7, h8, h9, -⟩ := h
  show (Cond.laysStatic C n d).holds args s none s [] = true
  exact Cond.laysStatic_of h1 h2 h3 h4 h5 h6 h7 h8 h9
/-- .. and what it holds: null or some reference -/
def vx_Zq (C n d : String) (A : Nat → Prop) (U : State) (H : Heap) : Prop := va_Zq C n d A U H ∧ vx_L C n d A U H
theorem vx_Zq.moved {C n d : String} {A : Nat → Prop} {u U : State} {H : Heap} (hvm : u.vm.Alike U.vm) (h : vx_Zq C n d A u H) : vx_Zq C n d A U H := ⟨va_Zq.moved hvm h.1, vx_L.moved hvm h.2⟩
theorem vx_Zq.kept {C n d : String} {A : Nat → Prop} {U : State} {H H1 : Heap} (h : vx_Zq C n d A U H) (hq : ∀ a : Nat, a < H.size → ¬ A a → H1[a]? = H[a]?) : vx_Zq C n d A U H1 := ⟨va_Zq.kept h.1 hq, vx_L.kept h.2 hq⟩
theorem vx_Zq.narrow {C n d : String} {A B : Nat → Prop} {U : State} {H : Heap} (h : vx_Zq C n d A U H) (hAB : ∀ q, B q → A q) : vx_Zq C n d B U H := ⟨va_Zq.narrow h.1 hAB, vx_L.narrow h.2 hAB⟩
theorem vx_Zqof {args : Array Value} {s : State} {C n d : String} {A : Nat → Prop} (hl : (Cond.laysStatic C n d).before args s = true) (hini : (Cond.initialized C).before args s = true) (h : (Cond.isRef (.static C n d)).before args s = true) (hA : ∀ a : Nat, a < s.heap.size → ¬ A a) : vx_Zq C n d A s s.heap := by
  refine ⟨va_Zqof hl hini h hA, ?_⟩
  obtain ⟨c, k, i, f, a, cell, h1, h2, h3, h4, h5, h6, h7, h8, h9⟩ := Cond.laysStatic_spec hl
  exact ⟨c, k, i, f, a, cell, h1, h2, h3, h4, h5, h6, h7, h8, h9, hA a (Array.getElem?_eq_some_iff.mp h5).1⟩
theorem vx_isRef {C n d : String} {v : Value} {A : Nat → Prop} {s : State} {args : Array Value} (h : va_Z C n d v A s s.heap) (hv : v.isRef = true) : (Cond.isRef (.static C n d)).before args s = true := by
  obtain ⟨cf, kf, fi, f, a, cell, h1, h2, h3, h4, h5, h6, h7, -⟩ := h
  have he : (Term.static C n d).eval args s none [] s = some v := by
    simp [Term.eval, State.fieldNamed?, h1, h2, h4, h5, h6, h7]
  simp only [Cond.before, Cond.holds, Cond.value, he]
  cases v <;> simp_all [Value.isRef]
theorem vx_isRefq {C n d : String} {A : Nat → Prop} {s : State} {args : Array Value} (h : va_Zq C n d A s s.heap) : (Cond.isRef (.static C n d)).before args s = true := by
  rcases h with h | ⟨t, h⟩
  · exact vx_isRef h rfl
  · exact vx_isRef h rfl
/-- the same frame, seen from here: as if the method were called anew in this heap -/
theorem vx_rebase {T : State} (X : Stand p l e R s m args below meth c T locs cells slots) {R' : Room} (hf : R'.frames ≤ R.frames) (hl : R'.locals ≤ R.locals) (hc : cells + R'.cells ≤ R.cells) (hs : slots + R'.slots ≤ R.slots) :
    Stand p l e R' ((T.setVm s.vm).setFrames (.invoking m args :: below)) m args below meth c T [] 0 0 := by
  have htop : (T.setVm s.vm).topJava?.isSome := X.here.top
  have hF : ((T.setVm s.vm).setFrames (.invoking m args :: below)).frames = .invoking m args :: below := State.frames_setFrames _ (State.cur_lt_of_top htop)
  obtain ⟨g₀, hg0⟩ := Option.isSome_iff_exists.mp htop
  obtain ⟨r, hr⟩ := State.topJava?_eq_some.mp hg0
  have hl9 : e.platform.stackLimits (T.setVm s.vm).me = e.platform.stackLimits s.me := X.limits
  have hb9 : (T.setVm s.vm).me.stackBytes = s.me.stackBytes := X.bytes
  refine ⟨X.admits, X.cas, X.clock, hF, ?_, X.hears, X.method, X.code, X.here, X.tail, X.warmed, ?_, ?_, ?_⟩
  · have h := X.room
    have hU : ((T.setVm s.vm).setFrames (.invoking m args :: below)).localsInUse = s.localsInUse := by
      rw [State.localsInUse_invoking hF (meth := meth) (c := c) X.method X.code, State.localsInUse_invoking X.frames X.method X.code]
    simp only [State.hasRoom, Bool.and_eq_true, decide_eq_true_eq] at h ⊢
    obtain ⟨⟨⟨⟨h1, h2, h3, h4, h5, h6⟩, h7⟩, h8⟩, h9⟩ := h
    rw [X.frames, List.length_cons] at h2 h3
    have q1 := X.heapSize
    have q2 := X.used
    simp only [hF, hU, List.length_cons, State.stackLimits_setFrames, State.stackBytes_setFrames, hl9, hb9]
    refine ⟨⟨⟨⟨by omega, by omega, by omega, by omega, by omega, h6⟩, ?_⟩, ?_⟩, X.book⟩
    · show T.heap.size + R'.cells ≤ e.platform.maxCells
      omega
    · show T.slotsUsed + R'.slots ≤ e.platform.maxSlots
      omega
  · rw [State.stackLimits_setFrames]; rfl
  · rw [State.stackBytes_setFrames]; rfl
  · refine ⟨?_, Nat.le_refl _, Nat.le_refl _, ?_, ?_, fun a c9 h9 => ⟨c9, h9, rfl, rfl, fun _ _ => rfl⟩⟩
    · obtain ⟨t, ht, -⟩ := State.frames_cons hr
      show T.setVm s.vm = { ((T.setVm s.vm).setFrames (.invoking m args :: below)).setFrames (T.setVm s.vm).frames with heap := T.heap, slotsUsed := T.slotsUsed }
      rw [State.setFrames_setFrames, State.setFrames_self ht]
      rfl
    · show T.slotsUsed = T.slotsUsed + ((T.heap.toList.drop T.heap.size).map (·.slots.size)).sum
      rw [List.drop_eq_nil_of_le (Nat.le_of_eq Array.length_toList)]
      rfl
    · show ((T.heap.toList.drop T.heap.size).map (·.slots.size)).sum ≤ 0
      rw [List.drop_eq_nil_of_le (Nat.le_of_eq Array.length_toList)]
      exact Nat.le_refl _
/-- 'throw new E()': new; dup; invokespecial; athrow -/
theorem vx_throw0 {cc : ByteArray} {pc : Nat} (hexec : p.tables.exec = Jvm.exec) (hb : c.code = cc) (hl : l.stackTraces = false) {own cls : String} {names : List String} {ik ic mc ms : Nat} {A : Nat → Prop}
    (hown : s.vm.findClass own = some m.cls) (hcls : Bundle.fit cls = true) (hnames : ∀ n ∈ names, Bundle.fit n = true)
    (hk : (Cond.classLink own ik cls).before args s = true) (hini : (Cond.initialized cls).before args s = true) (hat : ∀ w ∈ vx_at0 own ic cls names, w.before args s = true)
    (hgood : ∀ w ∈ Cond.classLink own ik cls :: Cond.initialized cls :: vx_at0 own ic cls names, vx_ot w = true)
    (hU : vx_Zq Bundle.tN "UNASSIGNED_STACK" Bundle.steD A s s.heap) (hN : vx_Zq Bundle.tN "SUPPRESSED_SENTINEL" Bundle.listD A s s.heap) (hS : va_S A s.heap H locs) (hsize : ls.size = c.maxLocals)
    (d0 : decode cc pc = .ok (.new ik, 3)) (d3 : decode cc (pc + 3) = .ok (.dup, 1)) (d4 : decode cc (pc + 4) = .ok (.invokespecial ic, 3)) (d7 : decode cc (pc + 7) = .ok (.athrow, 1))
    (hout : ∀ x ∈ c.exceptionTable.toList, covers x (pc + 7) = false)
    (hRframes : names.length + 3 < R.frames) (hRlocals : (rest.map fun v => v.category).sum + (13 * (names.length + 1) + 42) ≤ R.locals) (hRcells : cells + 1 ≤ R.cells) (hRslots : slots + 6 ≤ R.slots) (hlocks : meth.locks = false)
    (hx : ∀ t : State, s.vm.Alike t.vm → H.size ≤ t.heap.size → (∀ q : Nat, q < H.size → t.heap[q]? = H[q]?) → XC cls s t)
    (hf : ∀ z ∈ locs, free z.base) (hc : cells + 1 ≤ mc) (hs : slots + 6 ≤ ms) :
    W p l e R s m args below meth c H locs cells slots (vx_MQ below Qc XC args s mc ms free) (F0 m pc ls rest) := by
  intro T hT X
  have htr : e.platform.stackTraces = false := (show e.platform.stackTraces = l.stackTraces by rw [X.admits.platform]).trans hl
  have Y := vx_rebase X (R' := { frames := R.frames, locals := R.locals, cells := 1, slots := 6 }) (Nat.le_refl _) (Nat.le_refl _) hRcells hRslots
  obtain ⟨s', hA⟩ : ∃ z, z = (T.setVm s.vm).setFrames (.invoking m args :: below) := ⟨_, rfl⟩
  rw [← hA] at Y
  have hvm : s'.vm = s.vm := by rw [hA]; rfl
  have hhp : s'.heap = H := by rw [hA]; exact hT
  have hW0 : s.WarmedH s'.vm := by rw [hvm]; exact State.WarmedH.refl s
  have hat' : ∀ w ∈ vx_at0 own ic cls names, w.before args s' = true := fun w hw => vx_ot_at hW0 hvm.symm (hgood w (List.mem_cons_of_mem _ (List.mem_cons_of_mem _ hw))) (hat w hw)
  have hk' : (Cond.classLink own ik cls).before args s' = true := vx_ot_at hW0 hvm.symm (hgood _ List.mem_cons_self) hk
  have hini' : (Cond.initialized cls).before args s' = true := vx_ot_at hW0 hvm.symm (hgood _ (List.mem_cons_of_mem _ List.mem_cons_self)) hini
  have hU' : vx_Zq Bundle.tN "UNASSIGNED_STACK" Bundle.steD A s' s'.heap := by rw [hhp]; exact vx_Zq.moved hW0.alike (hU.kept hS.2.1)
  have hN' : vx_Zq Bundle.tN "SUPPRESSED_SENTINEL" Bundle.listD A s' s'.heap := by rw [hhp]; exact vx_Zq.moved hW0.alike (hN.kept hS.2.1)
  have h : ∀ w ∈ Bundle.ownAtoms0 own ic cls names, w.before args s' = true := vx_own hat' (vx_isRefq hU'.1) (vx_isRefq hN'.1) hU'.2.word hN'.2.word
  have hown' : s'.vm.findClass own = some m.cls := by rw [hvm]; exact hown
  have hins : (Cond.instantiable cls 6).before args s' = true := h _ (by simp [Bundle.ownAtoms0])
  obtain ⟨vm₁, cX, kX, hfX, hkX, -, -, X₁, st1⟩ := Y.newCold hexec (own := own) (C := cls) (index := ik) (n := 6) hown' hk' hins hini'
    (g := F0 m pc ls rest) rfl (by rw [hb]; exact d0) (Nat.le_refl _) (Nat.le_refl _)
  generalize hT1 : (T.setVm vm₁).pushCell { cls := cX, slots := kX.instanceTypes.map defaultValue, vm := .none } = T1 at X₁ st1
  have hcat : (Value.ref T.heap.size).category = 1 := rfl
  have hcellA : T1.heap[T.heap.size]? = some (freshCell cX kX) := by rw [← hT1]; exact State.heap_pushCell_size _ _
  have d3' : decode c.code (pc + 3) = .ok (.dup, 1) := by rw [hb]; exact d3
  obtain ⟨U, hsteps, hrun, hend, hW, hsame, ce, hce, hO⟩ := X₁.ctorThrow0 hexec htr (own := own) (cls := cls) (names := names) (ic := ic) hown' hcls hnames h (fun x hx => nomatch hx) hfX hkX hcellA (by rw [hhp, hT]; exact Nat.le_refl _)
    (g := { method := m, pc := pc + 4, locals := ls, stack := .ref T.heap.size :: .ref T.heap.size :: rest, locked := none }) rfl hsize rfl rfl (rest := rest) rfl
    (by rw [hb]; exact d4) (by rw [hb]; exact d7) hout hRframes (by simp only [List.map_cons, List.sum_cons, hcat]; omega) hlocks
  obtain ⟨f1, f2⟩ := vx_frame hsame
  rw [hhp] at f1 f2
  have hWs : s.WarmedH U.vm := State.WarmedH.trans hW0 hW
  have hcl : s.vm.findClass cls = some ce.cls := by
    have h9 := hO.cls
    rw [hvm] at h9
    exact h9
  have hall : s.sameButNew ({ U with vm := s.vm } : State) locs mc ms := by
    subst hA
    obtain ⟨e1, e2⟩ := hsame
    rw [State.setFrames_setFrames] at e1
    have h2 : (T.setVm s.vm).sameButNew ({ U with vm := s.vm } : State) [] (0 + 1) (0 + 6) := ⟨e1, e2⟩
    have h3 := X.same.trans h2
    rw [List.append_nil] at h3
    exact h3.mono hc hs
  refine ⟨U, ?_, .threw T.heap.size, hrun, hend, Or.inr ⟨T.heap.size, rfl, cls, ce, locs, hx U hWs.alike f1 (fun q hq => f2 q hq (fun z hz => nomatch hz)), hce, hO.vm, hcl, hWs, hall, hf⟩⟩
  refine st1 _ ?_
  show Steps p.tables e below (T1.setTop { method := m, pc := pc + 3, locals := ls, stack := .ref T.heap.size :: rest, locked := none }) _
  jvm_step X₁.here [X₁.here.top, hexec, d3', Value.category]
  exact hsteps
/-- 'throw new E("text")': new; dup; ldc; invokespecial; athrow -/
theorem vx_throwS {cc : ByteArray} {pc : Nat} (hexec : p.tables.exec = Jvm.exec) (hb : c.code = cc) (hl : l.stackTraces = false) {own cls text : String} {names : List String} {ik is ic mc ms sa : Nat} {A : Nat → Prop}
    (hown : s.vm.findClass own = some m.cls) (hcls : Bundle.fit cls = true) (hnames : ∀ n ∈ names, Bundle.fit n = true)
    (hk : (Cond.classLink own ik cls).before args s = true) (hini : (Cond.initialized cls).before args s = true) (hstr : vk_R own is text sa s) (hat : ∀ w ∈ vx_atS own ic cls names, w.before args s = true)
    (hgood : ∀ w ∈ Cond.classLink own ik cls :: Cond.initialized cls :: vx_atS own ic cls names, vx_ot w = true)
    (hU : vx_Zq Bundle.tN "UNASSIGNED_STACK" Bundle.steD A s s.heap) (hN : vx_Zq Bundle.tN "SUPPRESSED_SENTINEL" Bundle.listD A s s.heap) (hS : va_S A s.heap H locs) (hsize : ls.size = c.maxLocals)
    (d0 : decode cc pc = .ok (.new ik, 3)) (d3 : decode cc (pc + 3) = .ok (.dup, 1)) (d4 : decode cc (pc + 4) = .ok (.ldc is, 2)) (d6 : decode cc (pc + 6) = .ok (.invokespecial ic, 3)) (d9 : decode cc (pc + 9) = .ok (.athrow, 1))
    (hout : ∀ x ∈ c.exceptionTable.toList, covers x (pc + 9) = false)
    (hRframes : names.length + 3 < R.frames) (hRlocals : (rest.map fun v => v.category).sum + (13 * (names.length + 1) + 43) ≤ R.locals) (hRcells : cells + 1 ≤ R.cells) (hRslots : slots + 6 ≤ R.slots) (hlocks : meth.locks = false)
    (hx : ∀ t : State, s.vm.Alike t.vm → H.size ≤ t.heap.size → (∀ q : Nat, q < H.size → t.heap[q]? = H[q]?) → XC cls s t)
    (hf : ∀ z ∈ locs, free z.base) (hc : cells + 1 ≤ mc) (hs : slots + 6 ≤ ms) :
    W p l e R s m args below meth c H locs cells slots (vx_MQ below Qc XC args s mc ms free) (F0 m pc ls rest) := by
  intro T hT X
  have htr : e.platform.stackTraces = false := (show e.platform.stackTraces = l.stackTraces by rw [X.admits.platform]).trans hl
  have Y := vx_rebase X (R' := { frames := R.frames, locals := R.locals, cells := 1, slots := 6 }) (Nat.le_refl _) (Nat.le_refl _) hRcells hRslots
  obtain ⟨s', hA⟩ : ∃ z, z = (T.setVm s.vm).setFrames (.invoking m args :: below) := ⟨_, rfl⟩
  rw [← hA] at Y
  have hvm : s'.vm = s.vm := by rw [hA]; rfl
  have hhp : s'.heap = H := by rw [hA]; exact hT
  have hW0 : s.WarmedH s'.vm := by rw [hvm]; exact State.WarmedH.refl s
  have hat' : ∀ w ∈ vx_atS own ic cls names, w.before args s' = true := fun w hw => vx_ot_at hW0 hvm.symm (hgood w (List.mem_cons_of_mem _ (List.mem_cons_of_mem _ hw))) (hat w hw)
  have hk' : (Cond.classLink own ik cls).before args s' = true := vx_ot_at hW0 hvm.symm (hgood _ List.mem_cons_self) hk
  have hini' : (Cond.initialized cls).before args s' = true := vx_ot_at hW0 hvm.symm (hgood _ (List.mem_cons_of_mem _ List.mem_cons_self)) hini
  have hU' : vx_Zq Bundle.tN "UNASSIGNED_STACK" Bundle.steD A s' s'.heap := by rw [hhp]; exact vx_Zq.moved hW0.alike (hU.kept hS.2.1)
  have hN' : vx_Zq Bundle.tN "SUPPRESSED_SENTINEL" Bundle.listD A s' s'.heap := by rw [hhp]; exact vx_Zq.moved hW0.alike (hN.kept hS.2.1)
  have h : ∀ w ∈ Bundle.ownAtoms own ic cls names, w.before args s' = true := vx_own hat' (vx_isRefq hU'.1) (vx_isRefq hN'.1) hU'.2.word hN'.2.word
  have hown' : s'.vm.findClass own = some m.cls := by rw [hvm]; exact hown
  have hins : (Cond.instantiable cls 6).before args s' = true := h _ (by simp [Bundle.ownAtoms])
  obtain ⟨vm₁, cX, kX, hfX, hkX, -, -, X₁, st1⟩ := Y.newCold hexec (own := own) (C := cls) (index := ik) (n := 6) hown' hk' hins hini'
    (g := F0 m pc ls rest) rfl (by rw [hb]; exact d0) (Nat.le_refl _) (Nat.le_refl _)
  generalize hT1 : (T.setVm vm₁).pushCell { cls := cX, slots := kX.instanceTypes.map defaultValue, vm := .none } = T1 at X₁ st1
  have hcat : (Value.ref T.heap.size).category = 1 := rfl
  have hcellA : T1.heap[T.heap.size]? = some (freshCell cX kX) := by rw [← hT1]; exact State.heap_pushCell_size _ _
  have d3' : decode c.code (pc + 3) = .ok (.dup, 1) := by rw [hb]; exact d3
  have d4' : decode c.code (pc + 4) = .ok (.ldc is, 2) := by rw [hb]; exact d4
  have hstr' : vk_R own is text sa s' := vk_R.warm hW0 hstr
  obtain ⟨U, hsteps, hrun, hend, hW, hsame, ce, hce, hO⟩ := X₁.ctorThrowS hexec htr (own := own) (cls := cls) (names := names) (ic := ic) hown' hcls hnames h (fun x hx => nomatch hx) hfX hkX hcellA (by rw [hhp, hT]; exact Nat.le_refl _) (msg := .ref sa) rfl
    (g := { method := m, pc := pc + 6, locals := ls, stack := .ref sa :: .ref T.heap.size :: .ref T.heap.size :: rest, locked := none }) rfl hsize rfl rfl (rest := rest) rfl
    (by rw [hb]; exact d6) (by rw [hb]; exact d9) hout hRframes (by simp only [List.map_cons, List.sum_cons, hcat]; omega) hlocks
  obtain ⟨f1, f2⟩ := vx_frame hsame
  rw [hhp] at f1 f2
  have hWs : s.WarmedH U.vm := State.WarmedH.trans hW0 hW
  have hcl : s.vm.findClass cls = some ce.cls := by
    have h9 := hO.cls
    rw [hvm] at h9
    exact h9
  have hall : s.sameButNew ({ U with vm := s.vm } : State) locs mc ms := by
    subst hA
    obtain ⟨e1, e2⟩ := hsame
    rw [State.setFrames_setFrames] at e1
    have h2 : (T.setVm s.vm).sameButNew ({ U with vm := s.vm } : State) [] (0 + 1) (0 + 6) := ⟨e1, e2⟩
    have h3 := X.same.trans h2
    rw [List.append_nil] at h3
    exact h3.mono hc hs
  refine ⟨U, ?_, .threw T.heap.size, hrun, hend, Or.inr ⟨T.heap.size, rfl, cls, ce, locs, hx U hWs.alike f1 (fun q hq => f2 q hq (fun z hz => nomatch hz)), hce, hO.vm, hcl, hWs, hall, hf⟩⟩
  refine st1 _ ?_
  show Steps p.tables e below (T1.setTop { method := m, pc := pc + 3, locals := ls, stack := .ref T.heap.size :: rest, locked := none }) _
  jvm_step X₁.here [X₁.here.top, hexec, d3', Value.category]
  exact X₁.ldcString hexec (own := own) (text := text) (index := is) (a := sa) hown' hstr'.1 hstr'.2
    (g := { method := m, pc := pc + 4, locals := ls, stack := .ref T.heap.size :: .ref T.heap.size :: rest, locked := none }) rfl d4' _ hsteps
/-- 'throw new E("text")', the text by a wide index -/
theorem vx_throwSW {cc : ByteArray} {pc : Nat} (hexec : p.tables.exec = Jvm.exec) (hb : c.code = cc) (hl : l.stackTraces = false) {own cls text : String} {names : List String} {ik is ic mc ms sa : Nat} {A : Nat → Prop}
    (hown : s.vm.findClass own = some m.cls) (hcls : Bundle.fit cls = true) (hnames : ∀ n ∈ names, Bundle.fit n = true)
    (hk : (Cond.classLink own ik cls).before args s = true) (hini : (Cond.initialized cls).before args s = true) (hstr : vk_R own is text sa s) (hat : ∀ w ∈ vx_atS own ic cls names, w.before args s = true)
    (hgood : ∀ w ∈ Cond.classLink own ik cls :: Cond.initialized cls :: vx_atS own ic cls names, vx_ot w = true)
    (hU : vx_Zq Bundle.tN "UNASSIGNED_STACK" Bundle.steD A s s.heap) (hN : vx_Zq Bundle.tN "SUPPRESSED_SENTINEL" Bundle.listD A s s.heap) (hS : va_S A s.heap H locs) (hsize : ls.size = c.maxLocals)
    (d0 : decode cc pc = .ok (.new ik, 3)) (d3 : decode cc (pc + 3) = .ok (.dup, 1)) (d4 : decode cc (pc + 4) = .ok (.ldc_w is, 3)) (d7 : decode cc (pc + 7) = .ok (.invokespecial ic, 3)) (d10 : decode cc (pc + 10) = .ok (.athrow, 1))
    (hout : ∀ x ∈ c.exceptionTable.toList, covers x (pc + 10) = false)
    (hRframes : names.length + 3 < R.frames) (hRlocals : (rest.map fun v => v.category).sum + (13 * (names.length + 1) + 43) ≤ R.locals) (hRcells : cells + 1 ≤ R.cells) (hRslots : slots + 6 ≤ R.slots) (hlocks : meth.locks = false)
    (hx : ∀ t : State, s.vm.Alike t.vm → H.size ≤ t.heap.size → (∀ q : Nat, q < H.size → t.heap[q]? = H[q]?) → XC cls s t)
    (hf : ∀ z ∈ locs, free z.base) (hc : cells + 1 ≤ mc) (hs : slots + 6 ≤ ms) :
    W p l e R s m args below meth c H locs cells slots (vx_MQ below Qc XC args s mc ms free) (F0 m pc ls rest) := by
  intro T hT X
  have htr : e.platform.stackTraces = false := (show e.platform.stackTraces = l.stackTraces by rw [X.admits.platform]).trans hl
  have Y := vx_rebase X (R' := { frames := R.frames, locals := R.locals, cells := 1, slots := 6 }) (Nat.le_refl _) (Nat.le_refl _) hRcells hRslots
  obtain ⟨s', hA⟩ : ∃ z, z = (T.setVm s.vm).setFrames (.invoking m args :: below) := ⟨_, rfl⟩
  rw [← hA] at Y
  have hvm : s'.vm = s.vm := by rw [hA]; rfl
  have hhp : s'.heap = H := by rw [hA]; exact hT
  have hW0 : s.WarmedH s'.vm := by rw [hvm]; exact State.WarmedH.refl s
  have hat' : ∀ w ∈ vx_atS own ic cls names, w.before args s' = true := fun w hw => vx_ot_at hW0 hvm.symm (hgood w (List.mem_cons_of_mem _ (List.mem_cons_of_mem _ hw))) (hat w hw)
  have hk' : (Cond.classLink own ik cls).before args s' = true := vx_ot_at hW0 hvm.symm (hgood _ List.mem_cons_self) hk
  have hini' : (Cond.initialized cls).before args s' = true := vx_ot_at hW0 hvm.symm (hgood _ (List.mem_cons_of_mem _ List.mem_cons_self)) hini
  have hU' : vx_Zq Bundle.tN "UNASSIGNED_STACK" Bundle.steD A s' s'.heap := by rw [hhp]; exact vx_Zq.moved hW0.alike (hU.kept hS.2.1)
  have hN' : vx_Zq Bundle.tN "SUPPRESSED_SENTINEL" Bundle.listD A s' s'.heap := by rw [hhp]; exact vx_Zq.moved hW0.alike (hN.kept hS.2.1)
  have h : ∀ w ∈ Bundle.ownAtoms own ic cls names, w.before args s' = true := vx_own hat' (vx_isRefq hU'.1) (vx_isRefq hN'.1) hU'.2.word hN'.2.word
  have hown' : s'.vm.findClass own = some m.cls := by rw [hvm]; exact hown
  have hins : (Cond.instantiable cls 6).before args s' = true := h _ (by simp [Bundle.ownAtoms])
  obtain ⟨vm₁, cX, kX, hfX, hkX, -, -, X₁, st1⟩ := Y.newCold hexec (own := own) (C := cls) (index := ik) (n := 6) hown' hk' hins hini'
    (g := F0 m pc ls rest) rfl (by rw [hb]; exact d0) (Nat.le_refl _) (Nat.le_refl _)
  generalize hT1 : (T.setVm vm₁).pushCell { cls := cX, slots := kX.instanceTypes.map defaultValue, vm := .none } = T1 at X₁ st1
  have hcat : (Value.ref T.heap.size).category = 1 := rfl
  have hcellA : T1.heap[T.heap.size]? = some (freshCell cX kX) := by rw [← hT1]; exact State.heap_pushCell_size _ _
  have d3' : decode c.code (pc + 3) = .ok (.dup, 1) := by rw [hb]; exact d3
  have d4' : decode c.code (pc + 4) = .ok (.ldc_w is, 3) := by rw [hb]; exact d4
  have hstr' : vk_R own is text sa s' := vk_R.warm hW0 hstr
  obtain ⟨U, hsteps, hrun, hend, hW, hsame, ce, hce, hO⟩ := X₁.ctorThrowS hexec htr (own := own) (cls := cls) (names := names) (ic := ic) hown' hcls hnames h (fun x hx => nomatch hx) hfX hkX hcellA (by rw [hhp, hT]; exact Nat.le_refl _) (msg := .ref sa) rfl
    (g := { method := m, pc := pc + 7, locals := ls, stack := .ref sa :: .ref T.heap.size :: .ref T.heap.size :: rest, locked := none }) rfl hsize rfl rfl (rest := rest) rfl
    (by rw [hb]; exact d7) (by rw [hb]; exact d10) hout hRframes (by simp only [List.map_cons, List.sum_cons, hcat]; omega) hlocks
  obtain ⟨f1, f2⟩ := vx_frame hsame
  rw [hhp] at f1 f2
  have hWs : s.WarmedH U.vm := State.WarmedH.trans hW0 hW
  have hcl : s.vm.findClass cls = some ce.cls := by
    have h9 := hO.cls
    rw [hvm] at h9
    exact h9
  have hall : s.sameButNew ({ U with vm := s.vm } : State) locs mc ms := by
    subst hA
    obtain ⟨e1, e2⟩ := hsame
    rw [State.setFrames_setFrames] at e1
    have h2 : (T.setVm s.vm).sameButNew ({ U with vm := s.vm } : State) [] (0 + 1) (0 + 6) := ⟨e1, e2⟩
    have h3 := X.same.trans h2
    rw [List.append_nil] at h3
    exact h3.mono hc hs
  refine ⟨U, ?_, .threw T.heap.size, hrun, hend, Or.inr ⟨T.heap.size, rfl, cls, ce, locs, hx U hWs.alike f1 (fun q hq => f2 q hq (fun z hz => nomatch hz)), hce, hO.vm, hcl, hWs, hall, hf⟩⟩
  refine st1 _ ?_
  show Steps p.tables e below (T1.setTop { method := m, pc := pc + 3, locals := ls, stack := .ref T.heap.size :: rest, locked := none }) _
  jvm_step X₁.here [X₁.here.top, hexec, d3', Value.category]
  exact X₁.ldcStringW hexec (own := own) (text := text) (index := is) (a := sa) hown' hstr'.1 hstr'.2
    (g := { method := m, pc := pc + 4, locals := ls, stack := .ref T.heap.size :: .ref T.heap.size :: rest, locked := none }) rfl d4' _ hsteps
end Ends
section Bodies
variable {l : Launch}
theorem vx_ofW {y : MethodName} {ws ws' : List Cond} {rm : Room} {Pc : Array Value → State → Prop} {Qc : Array Value → State → Outcome → State → Prop} {XC : String → State → State → Prop} {mc ms : Nat} {free : Addr → Prop} {cc : ByteArray} {maxL : Nat} {ret : Option FieldType}
    (hy : plainName y.cls = true) (hw : ws = Cond.code y cc maxL ret :: ws')
    (body : ∀ p e s m args below meth c s₁, BodyLoose p l y (headSpec ws rm) cc maxL ret e s m args below meth c s₁ → c.maxLocals = maxL → (∀ x ∈ c.exceptionTable.toList, False) → Pc args s →
      W p l e (headSpec ws rm).room s m args below meth c s.heap [] 0 0 (vx_MQ below Qc XC args s mc ms free) (entryFrame m args maxL)) : vx_Met l y ws rm Pc Qc XC mc ms free := by
  refine MetFree.of_bodyS (code := cc) (maxLocals := maxL) (ret := ret) hy ?_ ?_
  · intro args s m h hn
    obtain ⟨meth, c, h1, h2, h3, h4, h5, h6, -, -⟩ := Cond.code_spec hn (atoms_spec (ws := ws) h _ (by rw [hw]; exact List.mem_cons_self))
    exact ⟨meth, c, h1, h2, h3, h4, h5, h6⟩
  · intro p e s m args below meth c s₁ B hml hP _
    have hh0 : s₁.heap = s.heap := by rw [B.state]; rfl
    have ht : ∀ x ∈ c.exceptionTable.toList, False := by
      obtain ⟨meth9, c9, h1, h2, -, -, -, -, h7, -⟩ := Cond.code_spec B.named (atoms_spec (ws := ws) B.pre _ (by rw [hw]; exact List.mem_cons_self))
      cases Option.some.inj (h1.symm.trans B.method)
      cases Option.some.inj (h2.symm.trans (Stand.of_body B).code)
      intro x hx
      rw [Array.isEmpty_iff.mp h7] at hx
      cases hx
    obtain ⟨t, a1, o, b1, b2, b3⟩ := body p e s m args below meth c s₁ B hml ht hP s₁ hh0 (Stand.of_body B)
    exact ⟨t, o, a1, b1, b2, b3⟩
/-- the table of a body with handlers -/
theorem vx_table {p : Program} {x y : MethodName} {S : Spec} {cc bytes : ByteArray} {maxL maxL' : Nat} {ret ret' : Option FieldType} {e : Env} {s s₁ : State} {m : MethodId} {args : Array Value} {below : List Frame} {meth : Method} {c : Code} {hh : List (Nat × Nat × Nat × Nat)}
    (B : BodyLoose p l y S cc maxL ret e s m args below meth c s₁) (h : (Cond.codeWith y bytes maxL' ret' hh).before args s = true) : c.exceptionTable.toList = tableOf hh := by
  obtain ⟨m9, meth9, c9, hn9, h1, h2, -, -, h6, -⟩ := Cond.codeWith_spec h
  cases Option.some.inj (hn9.symm.trans B.named)
  cases Option.some.inj (h1.symm.trans B.method)
  cases Option.some.inj (h2.symm.trans (Stand.of_body B).code)
  rw [← h6, table_eq]
end Bodies
end VXA
/-! ===== END ===== -/
/-! ===== BEGIN a static call of a method with an exception table ===== -/
section VXS
variable {p : Program} {l : Launch} {e : Env} {R : Room} {s : State} {m : MethodId} {args : Array Value} {below : List Frame} {meth : Method} {c : Code} {T : State} {H : Heap} {locs : List Loc} {cells slots : Nat}
abbrev vx_CSW (R : Room) (s : State) (args : Array Value) (own : String) (index : Nat) (y : MethodName) (bytes : ByteArray) (maxL : Nat) (ret : Option FieldType) (hh : List (Nat × Nat × Nat × Nat)) (ws : List Cond) (rm : Room) (mc ms n : Nat) : Prop :=
  (rm.cells = mc ∧ rm.slots = ms ∧ rm.frames + 1 ≤ R.frames ∧ 8 + (maxL + 11) + rm.locals ≤ R.locals ∧ (∀ w ∈ ws, ∀ (a' : Array Value) (U : State), s.WarmedH U.vm → w.before a' U = true) ∧ Cond.codeWith y bytes maxL ret hh ∈ ws) ∧
  (Cond.codeWith y bytes maxL ret hh).before args s = true ∧ (Cond.initialized y.cls).before args s = true ∧ (y.cls ≠ "java/lang/invoke/MethodHandle" ∧ y.cls ≠ "java/lang/invoke/VarHandle") ∧
  (∀ sig, parseMethodDescriptor y.desc = some sig → n = sig.parameters.length) ∧ (Cond.methodLink own index y).before args s = true ∧ (Cond.static y).before args s = true
theorem vx_cwSW {own : String} {index maxL mc ms : Nat} {y : MethodName} {bytes : ByteArray} {ret : Option FieldType} {hh : List (Nat × Nat × Nat × Nat)} {Ts ws ws' : List Cond} {rm : Room} (n : Nat) (ht : ∀ w ∈ Ts, w.before args s = true) (hT : GoodIn Ts (va_wsS own index y ws)) (hw : ws = Cond.codeWith y bytes maxL ret hh :: ws') (hrc : rm.cells = mc) (hrs : rm.slots = ms)
    (hd : y.cls ≠ "java/lang/invoke/MethodHandle" ∧ y.cls ≠ "java/lang/invoke/VarHandle" ∧ (parseMethodDescriptor y.desc).map (fun d => d.parameters.length) = some n) (hR : rm.frames + 1 ≤ R.frames ∧ 8 + (maxL + 11) + rm.locals ≤ R.locals) :
    vx_CSW R s args own index y bytes maxL ret hh ws rm mc ms n := by
  have ok : ∀ w ∈ va_wsS own index y ws, w.before args s = true := fun w h => ht w (hT w h).1
  have hG : GoodIn Ts ws := fun w h => hT w (by unfold va_wsS; exact List.mem_append_right _ h)
  have hc : Cond.codeWith y bytes maxL ret hh ∈ ws := by rw [hw]; exact List.mem_cons_self
  refine ⟨⟨hrc, hrs, hR.1, hR.2, pay_in ht hG, hc⟩, ht _ (hG _ hc).1, ok _ (by simp [va_wsS]), ⟨hd.1, hd.2.1⟩, fun sig h => ?_, ok _ (by simp [va_wsS]), ok _ (by simp [va_wsS])⟩
  have h2 := hd.2.2
  rw [h] at h2
  exact (Option.some.inj h2).symm
theorem vx_callSW (X : Stand p l e R s m args below meth c T locs cells slots) (hexec : p.tables.exec = Jvm.exec) {own : String} {index : Nat} {y : MethodName} {bytes : ByteArray} {maxL : Nat} {ret : Option FieldType} {hh : List (Nat × Nat × Nat × Nat)}
    (hown : s.vm.findClass own = some m.cls) (hlink : (Cond.methodLink own index y).before args s = true) (hstat : (Cond.static y).before args s = true) (hinit : (Cond.initialized y.cls).before args s = true)
    (hcode : (Cond.codeWith y bytes maxL ret hh).before args s = true) (hy : y.cls ≠ "java/lang/invoke/MethodHandle" ∧ y.cls ≠ "java/lang/invoke/VarHandle")
    {W9 : Nat} {Pre : Pt → Array Value → Prop} {Post : Pt → Array Value → Option Value → Pt → Prop} (hK : Back l R p e below s args y 3 W9 Pre Post)
    {g : JFrame} (hg : g.method = m) (hsize : g.locals.size = c.maxLocals) {argsL rest : List Value} (hlen : ∀ sig, parseMethodDescriptor y.desc = some sig → argsL.length = sig.parameters.length)
    (hstack : g.stack = argsL.reverse ++ rest) (hW : 2 * g.monitorRoom + (rest.map fun v => v.category).sum ≤ W9) (hdg : decode c.code g.pc = .ok (.invokestatic index, 3))
    (hpre : ∀ vm₁, s.WarmedH vm₁ → Pre ⟨T.setVm vm₁, locs, cells, slots⟩ argsL.toArray) :
    ∃ (v : Option Value) (vm₁ : Vm) (B : Pt), s.WarmedH vm₁ ∧ Stand p l e R s m args below meth c B.U B.locs B.cells B.slots ∧ Post ⟨T.setVm vm₁, locs, cells, slots⟩ argsL.toArray v B ∧
      ∀ target, Steps p.tables e below (B.U.setTop { g with pc := g.pc + 3, stack := v.toList ++ rest }) target → Steps p.tables e below (T.setTop g) target := by
  obtain ⟨mk, methM, cM, hnamed, hmethM, -, -, -, -, -, -, hsigM⟩ := Cond.codeWith_spec hcode
  have hstatic : methM.isStatic = true := Cond.static_spec hnamed hmethM hstat
  obtain ⟨kP, hkP, -⟩ := className_of_methodNamed hnamed
  have hinitP : kP.init = .initialized := Cond.initialized_spec (findClass_of_methodNamed hnamed) hkP hinit
  obtain ⟨vm₁, X₁, hstep₁⟩ := X.invokestatic hexec hown hlink hnamed hmethM hstatic hkP hinitP hy (g := g) hg (argsL := argsL) (rest := rest) (hlen _ hsigM) hstack hdg
  obtain ⟨v, B, X', hpost, hsteps⟩ := hK m meth c ⟨T.setVm vm₁, locs, cells, slots⟩ { g with stack := rest } (.invokestatic index) mk argsL.toArray X₁ hg hsize hdg hW (X₁.named hnamed) (hpre vm₁ X₁.warmed)
  exact ⟨v, vm₁, B, X₁.warmed, X', hpost, fun target h => hstep₁ _ fun acts => by rw [doInvoke_state]; exact hsteps.trans h⟩
theorem vx_runSW {y : MethodName} {bytes cc : ByteArray} {maxL nL mc ms n index : Nat} {ret : Option FieldType} {hh : List (Nat × Nat × Nat × Nat)} {ws : List Cond} {rm : Room} {Pc : Array Value → State → Prop} {Qc : Array Value → State → Outcome → State → Prop} {free : Addr → Prop} {Ts : List Cond} {own : String} {As rest : List Value} {g : JFrame}
    (S : CallFix p m c cc nL s args Ts own) (hM : Met l y ws rm Pc Qc mc ms free) (cw : vx_CSW R s args own index y bytes maxL ret hh ws rm mc ms n) (hp : PreS s H Pc As)
    (hg : g.method = m) (hn : As.length = n) (hsize : g.locals.size = nL) (hstack : g.stack = As.reverse ++ rest) (hW : 2 * g.monitorRoom + (rest.map fun v => v.category).sum ≤ 8) (hdg : decode cc g.pc = .ok (.invokestatic index, 3)) (hf : cells + mc ≤ R.cells ∧ slots + ms ≤ R.slots) :
    va_Run p l e R s m args below meth c H locs cells slots mc ms g rest (Qc As.toArray) (free) := by
  obtain ⟨⟨hrc, hrs, hfr, hlo, hws, hcw⟩, hcode, hini, hy, hlen, hl, hstt⟩ := cw
  have hK : Back l R p e below s args y 3 8 (PreOf R mc ms Pc) (PostOf Qc mc ms free) := va_backW (hh := hh) (bytes := bytes) (maxL := maxL) (ret := ret) hM hp.1 hrc hrs hfr hlo hws hcw (fun a' U hW => word_at hW (Or.inl (by first | rfl | simp [Cond.onTables, Cond.keeps, Cond.steady])) hini)
  obtain ⟨hx, hb, hml, ho, -⟩ := S
  intro T hT X
  obtain ⟨v, vm₁, ⟨U', l2, c2, s2⟩, hW₁, X', ⟨g', mk, t, L, e1, e2, hq, h1, hL, h2, h3⟩, st⟩ := vx_callSW X hx (hh := hh) (bytes := bytes) (maxL := maxL) (ret := ret) ho hl hstt hini hcode hy hK hg (hsize.trans hml.symm) (argsL := As) (rest := rest) (fun sig h => hn.trans (hlen sig h)) hstack hW (by rw [hb]; exact hdg)
    (fun vm₁ hW₁ => ⟨hf.1, hf.2, hp.2 (T.setVm vm₁) hT hW₁⟩)
  dsimp only [Pt.U, Pt.locs, Pt.cells, Pt.slots] at X' e1 e2 h1 h2 h3 st
  subst h1; subst h2; subst h3
  exact ⟨v, (T.setVm vm₁).calling g' mk As.toArray, t, U', L, hT, X', hL, e1, e2, hq, st⟩
/-- not caught here, past rows that name other classes: it goes on to the caller -/
theorem vx_outP {p : Program} {l : Launch} {e : Env} {R : Room} {s : State} {m : MethodId} {args : Array Value} {below : List Frame} {meth : Method} {c : Code} {H : Heap} {locs : List Loc} {cells slots : Nat} {free : Addr → Prop} {ls : Array Slot} {rest : List Value} {Qc : Array Value → State → Outcome → State → Prop} {XC : String → State → State → Prop}
    {pc : Nat} {own E : String} {ce : Cell} {q : Addr} {mc ms : Nat} (hown : s.vm.findClass own = some m.cls) (hlocks : meth.locks = false)
    (hpass : ∀ z ∈ c.exceptionTable.toList, covers z pc = false ∨ (z.catchType ≠ 0 ∧ ∃ nm : String, (Cond.classLink own z.catchType nm).before args s = true ∧ va_Nc E nm s)) (hcell : H[q]? = some ce) (hv : ce.vm = .none) (hcl : s.vm.findClass E = some ce.cls)
    (hx : ∀ t : State, t.heap = H → s.vm.Alike t.vm → XC E s t) (hf : ∀ z ∈ locs, free z.base) (hc : cells ≤ mc) (hs : slots ≤ ms) :
    vx_W p l e R s m args below meth c H locs cells slots (vx_MQ below Qc XC args s mc ms free) (F0 m pc ls rest) q := by
  intro T hT X
  have hpl : e.platform.magicAccessors = ({} : Platform).magicAccessors := by rw [X.admits.platform]
  obtain ⟨vm', hW', X', st⟩ := X.outThrough hlocks q (g := F0 m pc ls rest) rfl rfl rfl (cell := ce) (by rw [hT]; exact hcell) (by rw [hv]; rfl)
    (by obtain ⟨k9, h9, -⟩ := Vm.findClass_spec hcl; exact ⟨k9, h9⟩) (fun z hz => by
      rcases hpass z hz with h | ⟨hz0, nm, hl1, hn1⟩
      · exact Or.inl h
      · obtain ⟨c6, hc6, hcl6⟩ := Cond.classLink_spec hown hl1 e.platform hpl
        obtain ⟨a8, b8, h1, h2, h3⟩ := hn1
        cases Option.some.inj (h1.symm.trans hcl)
        cases Option.some.inj (h2.symm.trans hc6)
        exact Or.inr ⟨hz0, _, hcl6, h3⟩)
  obtain ⟨g₀, hfr⟩ := X'.frames_eq
  have hcell9 : ((T.setVm vm').setFrames (.throwing q :: below)).heap[q]? = some ce := by
    show T.heap[q]? = some ce
    rw [hT]; exact hcell
  have hend : Ended ((T.setVm vm').setFrames (.throwing q :: below)) below (.threw q) := State.frames_setFrames _ (State.cur_lt_of_frames hfr)
  refine ⟨(T.setVm vm').setFrames (.throwing q :: below), ?_, .threw q, X'.here.running, hend, Or.inr ⟨q, rfl, E, ce, locs, hx _ hT (X'.ends _).1.alike, hcell9, hv, hcl, (X'.ends _).1, (X'.ends _).2.mono hc hs, hf⟩⟩
  rw [X.pushThrowing_eq]
  exact st
/-- a thing of a world lies in the heap -/
theorem vx_lt {D : va_G} {cl : List vw_C} {ws : va_W} {H1 : Heap} (h : va_P D cl ws H1) {k : Nat} {q : Nat × va_E} (hk : ws[k]? = some q) : q.1 < H1.size := (h k q hk).lt
end VXS
/-! ===== END ===== -/
/-! ===== BEGIN methods with a table of their own: called by a name, returning or throwing ===== -/
section VXH
/-! vx_backW, vx_callVX, vx_callSX, vx_callVW, vx_runVW, vx_runVX, vx_runSX, vx_ofWH follow the same proofs as their sisters above (Free/Laws.lean, Shelf42/LK1.lean); vx_outP calls Shelf42/NT130.lean (outThrough). -/
section
variable {l : Launch} {R : Room} {p : Program} {e : Env} {below : List Frame} {s : State} {sargs : Array Value} {y : MethodName} {len W9 : Nat}
theorem vx_backW {ws : List Cond} {rm : Room} {Pc : Array Value → State → Prop} {Qc : Array Value → State → Outcome → State → Prop} {XC : String → State → State → Prop} {mc ms : Nat} {free : Addr → Prop} {bytes : ByteArray} {maxL : Nat} {ret : Option FieldType} {hh : List (Nat × Nat × Nat × Nat)}
    (hM : vx_Met l y ws rm Pc Qc XC mc ms free) (hblind : FrameBlind Pc) (hrc : rm.cells = mc) (hrs : rm.slots = ms)
    (hframes : rm.frames + 1 ≤ R.frames) (hlocals : W9 + (maxL + 11) + rm.locals ≤ R.locals)
    (hws : ∀ w ∈ ws, ∀ a' U, s.WarmedH U.vm → w.before a' U = true) (hcode : Cond.codeWith y bytes maxL ret hh ∈ ws) (hinit : ∀ a' U, s.WarmedH U.vm → (Cond.initialized y.cls).before a' U = true) :
    vx_Back l R p e below s sargs y len W9 (PreOf R mc ms Pc) (PostOf Qc mc ms free) (vx_Post XC mc ms free) := by
  intro m meth c A g ig mk a X hg hsize hdg hW hn hp
  have h1 : (headSpec ws rm).pre.before a A.U = true := atoms_intro fun w hw => hws w hw _ _ X.warmed
  have h2 : (Cond.codeWith y bytes maxL ret hh).before a A.U = true := hws _ hcode _ _ X.warmed
  have h3 : (Cond.initialized y.cls).before a A.U = true := hinit _ _ X.warmed
  have h4 : A.cells + (headSpec ws rm).room.cells ≤ R.cells := by rw [show (headSpec ws rm).room.cells = mc from hrc]; exact hp.1
  have h5 : A.slots + (headSpec ws rm).room.slots ≤ R.slots := by rw [show (headSpec ws rm).room.slots = ms from hrs]; exact hp.2.1
  have hPc : Pc a (A.U.calling g mk a) := hblind _ _ _ _ hp.2.2
  obtain ⟨U, Ls, c0, s0⟩ := A
  dsimp only [Pt.U, Pt.locs, Pt.cells, Pt.slots] at h1 h2 h3 h4 h5 X hn hPc ⊢
  obtain ⟨m9, methY, cY, hn9, hmY, hcY, -, hlY, -⟩ := Cond.codeWith_spec h2
  cases Option.some.inj (hn9.symm.trans hn)
  obtain ⟨kY, hkY, -⟩ := className_of_methodNamed hn
  have hinitY : kY.init = .initialized := Cond.initialized_spec (findClass_of_methodNamed hn) hkY h3
  have h : At U g.method c below := by rw [hg]; exact X.here
  have hlocals9 : W9 + (maxL + 11) + (headSpec ws rm).room.locals ≤ R.locals := hlocals
  have happ : (headSpec ws rm).appliesLoose y e.platform (U.calling g mk a) = true :=
    Spec.appliesLoose_calling (g := g) h hdg hn hkY hinitY
      (X.room_calling (g := g) (R' := (headSpec ws rm).room) hsize hmY hcY hframes (by rw [hlY]; omega) h4 h5) h1
  obtain ⟨mid, hmid⟩ := h.above
  have hfr : (U.setTop g).frames = (.java g :: mid) ++ below := by rw [State.frames_setTop' g h.top, hmid]; rfl
  obtain ⟨o, s₂, hsteps, -, hend, hq⟩ := Steps.callFree hM p X.admits X.cas X.clock (acts := []) hfr happ hPc trivial
  have hq' : vx_Q Qc XC mc ms free a (U.calling g mk a) o s₂ := hq
  rw [State.frames_setTop' g h.top] at hend
  obtain ⟨g₀, hg0⟩ := Option.isSome_iff_exists.mp h.top
  obtain ⟨r, hr⟩ := State.topJava?_eq_some.mp hg0
  have hr' : (({ U with heap := s₂.heap, slotsUsed := s₂.slotsUsed } : State).setVm s₂.vm).frames = .java g₀ :: r := hr
  rcases hq' with ⟨hqc, L, hfe, hL⟩ | ⟨q, rfl, E, ce, L, hx, hce, hcv, hcl, hW₂, hsm, hL⟩
  · obtain ⟨⟨v, rfl⟩, hW₂, e2, q2, q3, q4, q5, q6⟩ := id hfe
    have e3 : s₂ = ({ (U.calling g mk a).setFrames s₂.frames with heap := s₂.heap, slotsUsed := s₂.slotsUsed } : State).setVm s₂.vm := by
      have : s₂ = ({ s₂ with vm := (U.calling g mk a).vm } : State).setVm s₂.vm := rfl
      rw [e2] at this
      exact this
    obtain ⟨c₂, i₂, len₂, hc₂, hd₂, hf₂⟩ := hend
    have hW' : U.WarmedH s₂.vm := hW₂
    have hcc : c₂ = c := by
      have h1 : s₂.code? g.method = U.code? g.method := by
        rw [State.code?_eq, State.code?_eq, hW'.alike.method?]
      exact Option.some.inj (hc₂.symm.trans (h1.trans h.code))
    subst hcc
    have hlen : len₂ = len := by rw [hdg] at hd₂; cases hd₂; rfl
    subst hlen
    have hs₂ : s₂ = (({ U with heap := s₂.heap, slotsUsed := s₂.slotsUsed } : State).setVm s₂.vm).setTop { g with pc := g.pc + len₂, stack := v.toList ++ g.stack } := by
      refine e3.trans ?_
      rw [hf₂, State.calling_eq h.top, State.setFrames_setFrames, State.setTop_of_frames _ hr', hr]
      rfl
    have hsame : U.sameButNew ({ U with heap := s₂.heap, slotsUsed := s₂.slotsUsed } : State) L mc ms := by
      refine ⟨?_, q2, q3, q4, q5, q6⟩
      obtain ⟨t, ht, -⟩ := State.frames_cons hr
      show ({ U with heap := s₂.heap, slotsUsed := s₂.slotsUsed } : State) = { U.setFrames U.frames with heap := s₂.heap, slotsUsed := s₂.slotsUsed }
      rw [State.setFrames_self ht]
    subst hg
    refine Or.inl ⟨v, ⟨(({ U with heap := s₂.heap, slotsUsed := s₂.slotsUsed } : State).setVm s₂.vm), Ls ++ L, c0 + mc, s0 + ms⟩,
      ⟨X.admits, X.cas, X.clock, X.frames, X.room, X.hears, X.method, X.code, (X.here.setHeapUsed s₂.heap s₂.slotsUsed).setVm hW'.alike, X.tail, State.WarmedH.trans X.warmed hW', X.limits, X.bytes, X.same.trans (hsame.setVm s.vm)⟩,
      ⟨g, mk, s₂, L, rfl, rfl, hqc, rfl, hL, rfl, rfl⟩, ?_⟩
    show Steps p.tables e below _ ((({ U with heap := s₂.heap, slotsUsed := s₂.slotsUsed } : State).setVm s₂.vm).setTop { g with pc := g.pc + len₂, stack := v.toList ++ g.stack })
    rw [← hs₂]
    exact hsteps
  · obtain ⟨e2, q2, q3, q4, q5, q6⟩ := id hsm
    have e3 : s₂ = ({ (U.calling g mk a).setFrames s₂.frames with heap := s₂.heap, slotsUsed := s₂.slotsUsed } : State).setVm s₂.vm := by
      have : s₂ = ({ s₂ with vm := (U.calling g mk a).vm } : State).setVm s₂.vm := rfl
      rw [e2] at this
      exact this
    have hf₂ : s₂.frames = .throwing q :: .java g :: U.frames.tail := hend
    have hW' : U.WarmedH s₂.vm := hW₂
    have hs₂ : s₂ = ((({ U with heap := s₂.heap, slotsUsed := s₂.slotsUsed } : State).setVm s₂.vm).setTop g).pushFrame (.throwing q) := by
      refine e3.trans ?_
      rw [hf₂, State.calling_eq h.top, State.setFrames_setFrames, State.pushFrame, State.frames_setTop _ hr', State.setTop_of_frames _ hr', State.setFrames_setFrames, hr]
      rfl
    have hsame : U.sameButNew ({ U with heap := s₂.heap, slotsUsed := s₂.slotsUsed } : State) L mc ms := by
      refine ⟨?_, q2, q3, q4, q5, q6⟩
      obtain ⟨t, ht, -⟩ := State.frames_cons hr
      show ({ U with heap := s₂.heap, slotsUsed := s₂.slotsUsed } : State) = { U.setFrames U.frames with heap := s₂.heap, slotsUsed := s₂.slotsUsed }
      rw [State.setFrames_self ht]
    subst hg
    refine Or.inr ⟨q, ⟨(({ U with heap := s₂.heap, slotsUsed := s₂.slotsUsed } : State).setVm s₂.vm), Ls ++ L, c0 + mc, s0 + ms⟩,
      ⟨X.admits, X.cas, X.clock, X.frames, X.room, X.hears, X.method, X.code, (X.here.setHeapUsed s₂.heap s₂.slotsUsed).setVm hW'.alike, X.tail, State.WarmedH.trans X.warmed hW', X.limits, X.bytes, X.same.trans (hsame.setVm s.vm)⟩,
      ⟨g, mk, s₂, L, E, ce, rfl, rfl, hx, hce, hcv, hcl, rfl, hL, rfl, rfl⟩, ?_⟩
    show Steps p.tables e below _ (((({ U with heap := s₂.heap, slotsUsed := s₂.slotsUsed } : State).setVm s₂.vm).setTop g).pushFrame (.throwing q))
    rw [← hs₂]
    exact hsteps
end
variable {p : Program} {l : Launch} {e : Env} {R : Room} {s : State} {m : MethodId} {args : Array Value} {below : List Frame} {meth : Method} {c : Code} {T : State} {H : Heap} {locs : List Loc} {cells slots : Nat}
theorem vx_callVX (X : Stand p l e R s m args below meth c T locs cells slots) (hexec : p.tables.exec = Jvm.exec) {own C : String} {index : Nat} {y : MethodName} {bytes : ByteArray} {maxL : Nat} {ret : Option FieldType} {hh : List (Nat × Nat × Nat × Nat)}
    (hown : s.vm.findClass own = some m.cls) (hlink : (Cond.methodLink own index y).before args s = true) (hinst : (Cond.instanceMethod y).before args s = true) (hsel : (Cond.selects C y y).before args s = true)
    (hcode : (Cond.codeWith y bytes maxL ret hh).before args s = true) (hy : y.cls ≠ "java/lang/invoke/MethodHandle" ∧ y.cls ≠ "java/lang/invoke/VarHandle")
    {W9 : Nat} {Pre : Pt → Array Value → Prop} {Post : Pt → Array Value → Option Value → Pt → Prop} {PostX : Pt → Array Value → Addr → Pt → Prop} (hK : vx_Back l R p e below s args y 3 W9 Pre Post PostX)
    {b : Addr} {cellB : Cell} (hcell : T.heap[b]? = some cellB) (hobj : cellB.vm.isStatics = false) (hcls : s.vm.findClass C = some cellB.cls)
    {g : JFrame} (hg : g.method = m) (hsize : g.locals.size = c.maxLocals) {argsL rest : List Value} (hlen : ∀ sig, parseMethodDescriptor y.desc = some sig → argsL.length = sig.parameters.length)
    (hstack : g.stack = argsL.reverse ++ .ref b :: rest) (hW : 2 * g.monitorRoom + (rest.map fun v => v.category).sum ≤ W9) (hdg : decode c.code g.pc = .ok (.invokevirtual index, 3))
    (hpre : ∀ vm₁, s.WarmedH vm₁ → Pre ⟨T.setVm vm₁, locs, cells, slots⟩ (Value.ref b :: argsL).toArray) :
    (∃ (v : Option Value) (vm₁ : Vm) (B : Pt), s.WarmedH vm₁ ∧ Stand p l e R s m args below meth c B.U B.locs B.cells B.slots ∧ Post ⟨T.setVm vm₁, locs, cells, slots⟩ (Value.ref b :: argsL).toArray v B ∧
      ∀ target, Steps p.tables e below (B.U.setTop { g with pc := g.pc + 3, stack := v.toList ++ rest }) target → Steps p.tables e below (T.setTop g) target) ∨
    (∃ (q : Addr) (vm₁ : Vm) (B : Pt), s.WarmedH vm₁ ∧ Stand p l e R s m args below meth c B.U B.locs B.cells B.slots ∧ PostX ⟨T.setVm vm₁, locs, cells, slots⟩ (Value.ref b :: argsL).toArray q B ∧
      Steps p.tables e below (T.setTop g) ((B.U.setTop { g with stack := rest }).pushFrame (.throwing q))) := by
  obtain ⟨mk, methM, hnamed, hmethM, hstM, habM⟩ := Cond.instanceMethod_spec hinst
  obtain ⟨m8, methM', cM, hn8, hmethM', -, -, -, -, -, -, hsigM⟩ := Cond.codeWith_spec hcode
  cases Option.some.inj (hn8.symm.trans hnamed)
  cases hmethM.symm.trans hmethM'
  obtain ⟨c2, r2, m2, q1, q2, q3, q4, kP, hkP, hkPi⟩ := Cond.selects_spec hsel
  cases hcls.symm.trans q1
  cases (State.methodFound?_of_named hnamed hy).symm.trans q2
  cases hnamed.symm.trans q3
  have hselP : selectMethod e.platform s.vm cellB.cls mk = .method mk := by rw [Launch.admits_selectMethod X.admits]; exact q4
  obtain ⟨vm₁, X₁, hstep₁⟩ := X.invokevirtual hexec hown hlink hnamed hmethM hstM hkP hkPi hy (a := b) (cell := cellB) hcell
    (fun z h => by rw [h] at hobj; cases hobj) hselP hmethM habM hkP hkPi (g := g) hg (argsL := argsL) (rest := rest) (hlen _ hsigM) hstack hdg
  rcases hK m meth c ⟨T.setVm vm₁, locs, cells, slots⟩ { g with stack := rest } (.invokevirtual index) mk (Value.ref b :: argsL).toArray X₁ hg hsize hdg hW (X₁.named hnamed) (hpre vm₁ X₁.warmed) with ⟨v, B, X', hpost, hsteps⟩ | ⟨q, B, X', hpost, hsteps⟩
  · exact Or.inl ⟨v, vm₁, B, X₁.warmed, X', hpost, fun target h => hstep₁ _ fun acts => by rw [doInvoke_state]; exact hsteps.trans h⟩
  · exact Or.inr ⟨q, vm₁, B, X₁.warmed, X', hpost, hstep₁ _ fun acts => by rw [doInvoke_state]; exact hsteps⟩
theorem vx_callSX (X : Stand p l e R s m args below meth c T locs cells slots) (hexec : p.tables.exec = Jvm.exec) {own : String} {index : Nat} {y : MethodName} {bytes : ByteArray} {maxL : Nat} {ret : Option FieldType} {hh : List (Nat × Nat × Nat × Nat)}
    (hown : s.vm.findClass own = some m.cls) (hlink : (Cond.methodLink own index y).before args s = true) (hstat : (Cond.static y).before args s = true) (hinit : (Cond.initialized y.cls).before args s = true)
    (hcode : (Cond.codeWith y bytes maxL ret hh).before args s = true) (hy : y.cls ≠ "java/lang/invoke/MethodHandle" ∧ y.cls ≠ "java/lang/invoke/VarHandle")
    {W9 : Nat} {Pre : Pt → Array Value → Prop} {Post : Pt → Array Value → Option Value → Pt → Prop} {PostX : Pt → Array Value → Addr → Pt → Prop} (hK : vx_Back l R p e below s args y 3 W9 Pre Post PostX)
    {g : JFrame} (hg : g.method = m) (hsize : g.locals.size = c.maxLocals) {argsL rest : List Value} (hlen : ∀ sig, parseMethodDescriptor y.desc = some sig → argsL.length = sig.parameters.length)
    (hstack : g.stack = argsL.reverse ++ rest) (hW : 2 * g.monitorRoom + (rest.map fun v => v.category).sum ≤ W9) (hdg : decode c.code g.pc = .ok (.invokestatic index, 3))
    (hpre : ∀ vm₁, s.WarmedH vm₁ → Pre ⟨T.setVm vm₁, locs, cells, slots⟩ argsL.toArray) :
    (∃ (v : Option Value) (vm₁ : Vm) (B : Pt), s.WarmedH vm₁ ∧ Stand p l e R s m args below meth c B.U B.locs B.cells B.slots ∧ Post ⟨T.setVm vm₁, locs, cells, slots⟩ argsL.toArray v B ∧
      ∀ target, Steps p.tables e below (B.U.setTop { g with pc := g.pc + 3, stack := v.toList ++ rest }) target → Steps p.tables e below (T.setTop g) target) ∨
    (∃ (q : Addr) (vm₁ : Vm) (B : Pt), s.WarmedH vm₁ ∧ Stand p l e R s m args below meth c B.U B.locs B.cells B.slots ∧ PostX ⟨T.setVm vm₁, locs, cells, slots⟩ argsL.toArray q B ∧
      Steps p.tables e below (T.setTop g) ((B.U.setTop { g with stack := rest }).pushFrame (.throwing q))) := by
  obtain ⟨mk, methM, cM, hnamed, hmethM, -, -, -, -, -, -, hsigM⟩ := Cond.codeWith_spec hcode
  have hstatic : methM.isStatic = true := Cond.static_spec hnamed hmethM hstat
  obtain ⟨kP, hkP, -⟩ := className_of_methodNamed hnamed
  have hinitP : kP.init = .initialized := Cond.initialized_spec (findClass_of_methodNamed hnamed) hkP hinit
  obtain ⟨vm₁, X₁, hstep₁⟩ := X.invokestatic hexec hown hlink hnamed hmethM hstatic hkP hinitP hy (g := g) hg (argsL := argsL) (rest := rest) (hlen _ hsigM) hstack hdg
  rcases hK m meth c ⟨T.setVm vm₁, locs, cells, slots⟩ { g with stack := rest } (.invokestatic index) mk argsL.toArray X₁ hg hsize hdg hW (X₁.named hnamed) (hpre vm₁ X₁.warmed) with ⟨v, B, X', hpost, hsteps⟩ | ⟨q, B, X', hpost, hsteps⟩
  · exact Or.inl ⟨v, vm₁, B, X₁.warmed, X', hpost, fun target h => hstep₁ _ fun acts => by rw [doInvoke_state]; exact hsteps.trans h⟩
  · exact Or.inr ⟨q, vm₁, B, X₁.warmed, X', hpost, hstep₁ _ fun acts => by rw [doInvoke_state]; exact hsteps⟩
theorem vx_callVW (X : Stand p l e R s m args below meth c T locs cells slots) (hexec : p.tables.exec = Jvm.exec) {own C : String} {index : Nat} {y : MethodName} {bytes : ByteArray} {maxL : Nat} {ret : Option FieldType} {hh : List (Nat × Nat × Nat × Nat)}
    (hown : s.vm.findClass own = some m.cls) (hlink : (Cond.methodLink own index y).before args s = true) (hinst : (Cond.instanceMethod y).before args s = true) (hsel : (Cond.selects C y y).before args s = true)
    (hcode : (Cond.codeWith y bytes maxL ret hh).before args s = true) (hy : y.cls ≠ "java/lang/invoke/MethodHandle" ∧ y.cls ≠ "java/lang/invoke/VarHandle")
    {W9 : Nat} {Pre : Pt → Array Value → Prop} {Post : Pt → Array Value → Option Value → Pt → Prop} (hK : Back l R p e below s args y 3 W9 Pre Post)
    {b : Addr} {cellB : Cell} (hcell : T.heap[b]? = some cellB) (hobj : cellB.vm.isStatics = false) (hcls : s.vm.findClass C = some cellB.cls)
    {g : JFrame} (hg : g.method = m) (hsize : g.locals.size = c.maxLocals) {argsL rest : List Value} (hlen : ∀ sig, parseMethodDescriptor y.desc = some sig → argsL.length = sig.parameters.length)
    (hstack : g.stack = argsL.reverse ++ .ref b :: rest) (hW : 2 * g.monitorRoom + (rest.map fun v => v.category).sum ≤ W9) (hdg : decode c.code g.pc = .ok (.invokevirtual index, 3))
    (hpre : ∀ vm₁, s.WarmedH vm₁ → Pre ⟨T.setVm vm₁, locs, cells, slots⟩ (Value.ref b :: argsL).toArray) :
    ∃ (v : Option Value) (vm₁ : Vm) (B : Pt), s.WarmedH vm₁ ∧ Stand p l e R s m args below meth c B.U B.locs B.cells B.slots ∧ Post ⟨T.setVm vm₁, locs, cells, slots⟩ (Value.ref b :: argsL).toArray v B ∧
      ∀ target, Steps p.tables e below (B.U.setTop { g with pc := g.pc + 3, stack := v.toList ++ rest }) target → Steps p.tables e below (T.setTop g) target := by
  obtain ⟨mk, methM, hnamed, hmethM, hstM, habM⟩ := Cond.instanceMethod_spec hinst
  obtain ⟨m8, methM', cM, hn8, hmethM', -, -, -, -, -, -, hsigM⟩ := Cond.codeWith_spec hcode
  cases Option.some.inj (hn8.symm.trans hnamed)
  cases hmethM.symm.trans hmethM'
  obtain ⟨c2, r2, m2, q1, q2, q3, q4, kP, hkP, hkPi⟩ := Cond.selects_spec hsel
  cases hcls.symm.trans q1
  cases (State.methodFound?_of_named hnamed hy).symm.trans q2
  cases hnamed.symm.trans q3
  have hselP : selectMethod e.platform s.vm cellB.cls mk = .method mk := by rw [Launch.admits_selectMethod X.admits]; exact q4
  obtain ⟨vm₁, X₁, hstep₁⟩ := X.invokevirtual hexec hown hlink hnamed hmethM hstM hkP hkPi hy (a := b) (cell := cellB) hcell
    (fun z h => by rw [h] at hobj; cases hobj) hselP hmethM habM hkP hkPi (g := g) hg (argsL := argsL) (rest := rest) (hlen _ hsigM) hstack hdg
  obtain ⟨v, B, X', hpost, hsteps⟩ := hK m meth c ⟨T.setVm vm₁, locs, cells, slots⟩ { g with stack := rest } (.invokevirtual index) mk (Value.ref b :: argsL).toArray X₁ hg hsize hdg hW (X₁.named hnamed) (hpre vm₁ X₁.warmed)
  exact ⟨v, vm₁, B, X₁.warmed, X', hpost, fun target h => hstep₁ _ fun acts => by rw [doInvoke_state]; exact hsteps.trans h⟩
abbrev vx_CVW (R : Room) (s : State) (args : Array Value) (own C : String) (index : Nat) (y : MethodName) (bytes : ByteArray) (maxL : Nat) (ret : Option FieldType) (hh : List (Nat × Nat × Nat × Nat)) (ws : List Cond) (rm : Room) (mc ms n : Nat) : Prop :=
  (rm.cells = mc ∧ rm.slots = ms ∧ rm.frames + 1 ≤ R.frames ∧ 8 + (maxL + 11) + rm.locals ≤ R.locals ∧ (∀ w ∈ ws, ∀ (a' : Array Value) (U : State), s.WarmedH U.vm → w.before a' U = true) ∧ Cond.codeWith y bytes maxL ret hh ∈ ws) ∧
  (Cond.codeWith y bytes maxL ret hh).before args s = true ∧ (Cond.initialized y.cls).before args s = true ∧ (y.cls ≠ "java/lang/invoke/MethodHandle" ∧ y.cls ≠ "java/lang/invoke/VarHandle") ∧
  (∀ sig, parseMethodDescriptor y.desc = some sig → n = sig.parameters.length) ∧ (Cond.methodLink own index y).before args s = true ∧ (Cond.instanceMethod y).before args s = true ∧ (Cond.selects C y y).before args s = true
theorem vx_cwVW {own C : String} {index maxL mc ms : Nat} {y : MethodName} {bytes : ByteArray} {ret : Option FieldType} {hh : List (Nat × Nat × Nat × Nat)} {Ts ws ws' : List Cond} {rm : Room} (n : Nat) (ht : ∀ w ∈ Ts, w.before args s = true) (hT : GoodIn Ts (wsV own index C y ws)) (hw : ws = Cond.codeWith y bytes maxL ret hh :: ws') (hrc : rm.cells = mc) (hrs : rm.slots = ms)
    (hd : y.cls = C ∧ y.cls ≠ "java/lang/invoke/MethodHandle" ∧ y.cls ≠ "java/lang/invoke/VarHandle" ∧ (parseMethodDescriptor y.desc).map (fun d => d.parameters.length) = some n) (hR : rm.frames + 1 ≤ R.frames ∧ 8 + (maxL + 11) + rm.locals ≤ R.locals) :
    vx_CVW R s args own C index y bytes maxL ret hh ws rm mc ms n := by
  obtain ⟨hC, hd⟩ := hd
  subst hC
  have ok : ∀ w ∈ wsV own index y.cls y ws, w.before args s = true := fun w h => ht w (hT w h).1
  have hG : GoodIn Ts ws := fun w h => hT w (by unfold wsV; exact List.mem_append_right _ h)
  have hc : Cond.codeWith y bytes maxL ret hh ∈ ws := by rw [hw]; exact List.mem_cons_self
  refine ⟨⟨hrc, hrs, hR.1, hR.2, pay_in ht hG, hc⟩, ht _ (hG _ hc).1, ok _ (by simp [wsV]), ⟨hd.1, hd.2.1⟩, fun sig h => ?_, ok _ (by simp [wsV]), ok _ (by simp [wsV]), ok _ (by simp [wsV])⟩
  have h2 := hd.2.2
  rw [h] at h2
  exact (Option.some.inj h2).symm
theorem vx_runVW {y : MethodName} {bytes cc : ByteArray} {maxL nL mc ms n index : Nat} {ret : Option FieldType} {hh : List (Nat × Nat × Nat × Nat)} {ws : List Cond} {rm : Room} {Pc : Array Value → State → Prop} {Qc : Array Value → State → Outcome → State → Prop} {free : Addr → Prop} {Ts : List Cond} {own C : String} {b : Addr} {As rest : List Value} {g : JFrame}
    (S : CallFix p m c cc nL s args Ts own) (hM : Met l y ws rm Pc Qc mc ms free) (cw : vx_CVW R s args own C index y bytes maxL ret hh ws rm mc ms n) (hp : PreV s H C b Pc As)
    (hg : g.method = m) (hn : As.length = n) (hsize : g.locals.size = nL) (hstack : g.stack = As.reverse ++ .ref b :: rest) (hW : 2 * g.monitorRoom + (rest.map fun v => v.category).sum ≤ 8) (hdg : decode cc g.pc = .ok (.invokevirtual index, 3)) (hf : cells + mc ≤ R.cells ∧ slots + ms ≤ R.slots) :
    va_Run p l e R s m args below meth c H locs cells slots mc ms g rest (Qc (Value.ref b :: As).toArray) free := by
  obtain ⟨⟨hrc, hrs, hfr, hlo, hws, hcw⟩, hcode, hini, hy, hlen, hl, hin, hse⟩ := cw
  have hK : Back l R p e below s args y 3 8 (PreOf R mc ms Pc) (PostOf Qc mc ms free) := va_backW (hh := hh) (bytes := bytes) (maxL := maxL) (ret := ret) hM hp.1 hrc hrs hfr hlo hws hcw (fun a' U hW => word_at hW (Or.inl (by first | rfl | simp [Cond.onTables, Cond.keeps, Cond.steady])) hini)
  obtain ⟨hx, hb, hml, ho, -⟩ := S
  obtain ⟨-, ⟨cellB, hcB, hoB, hclB⟩, hPc⟩ := hp
  intro T hT X
  obtain ⟨v, vm₁, ⟨U', l2, c2, s2⟩, hW₁, X', ⟨g', mk, t, L, e1, e2, hq, h1, hL, h2, h3⟩, st⟩ := vx_callVW X hx (C := C) (hh := hh) (bytes := bytes) (maxL := maxL) (ret := ret) ho hl hin hse hcode hy hK (by rw [hT]; exact hcB) hoB hclB hg (hsize.trans hml.symm) (argsL := As) (rest := rest) (fun sig h => hn.trans (hlen sig h)) hstack hW (by rw [hb]; exact hdg)
    (fun vm₁ hW₁ => ⟨hf.1, hf.2, hPc (T.setVm vm₁) hT hW₁⟩)
  dsimp only [Pt.U, Pt.locs, Pt.cells, Pt.slots] at X' e1 e2 h1 h2 h3 st
  subst h1; subst h2; subst h3
  exact ⟨v, (T.setVm vm₁).calling g' mk (Value.ref b :: As).toArray, t, U', L, hT, X', hL, e1, e2, hq, st⟩
section
variable {y : MethodName} {bytes cc : ByteArray} {maxL nL mc ms n index : Nat} {ret : Option FieldType} {ws : List Cond} {rm : Room} {Pc : Array Value → State → Prop} {Qc : Array Value → State → Outcome → State → Prop} {XC : String → State → State → Prop} {free : Addr → Prop} {Ts : List Cond} {own C : String} {b : Addr} {As rest : List Value} {g : JFrame}
theorem vx_runVX {hh : List (Nat × Nat × Nat × Nat)} (S : CallFix p m c cc nL s args Ts own) (hM : vx_Met l y ws rm Pc Qc XC mc ms free) (cw : vx_CVW R s args own C index y bytes maxL ret hh ws rm mc ms n) (hp : PreV s H C b Pc As)
    (hg : g.method = m) (hn : As.length = n) (hsize : g.locals.size = nL) (hstack : g.stack = As.reverse ++ .ref b :: rest) (hW : 2 * g.monitorRoom + (rest.map fun v => v.category).sum ≤ 8) (hdg : decode cc g.pc = .ok (.invokevirtual index, 3)) (hf : cells + mc ≤ R.cells ∧ slots + ms ≤ R.slots) :
    vx_Run p l e R s m args below meth c H locs cells slots mc ms g rest (Qc (Value.ref b :: As).toArray) XC free := by
  obtain ⟨⟨hrc, hrs, hfr, hlo, hws, hcw⟩, hcode, hini, hy, hlen, hl, hin, hse⟩ := cw
  have hK : vx_Back l R p e below s args y 3 8 (PreOf R mc ms Pc) (PostOf Qc mc ms free) (vx_Post XC mc ms free) := vx_backW (hh := hh) (bytes := bytes) (maxL := maxL) (ret := ret) hM hp.1 hrc hrs hfr hlo hws hcw (fun a' U hW => word_at hW (Or.inl (by first | rfl | simp [Cond.onTables, Cond.keeps, Cond.steady])) hini)
  obtain ⟨hx, hb, hml, ho, -⟩ := S
  obtain ⟨-, ⟨cellB, hcB, hoB, hclB⟩, hPc⟩ := hp
  intro T hT X
  rcases vx_callVX X hx (C := C) (hh := hh) (bytes := bytes) (maxL := maxL) (ret := ret) ho hl hin hse hcode hy hK (by rw [hT]; exact hcB) hoB hclB hg (hsize.trans hml.symm) (argsL := As) (rest := rest) (fun sig h => hn.trans (hlen sig h)) hstack hW (by rw [hb]; exact hdg)
    (fun vm₁ hW₁ => ⟨hf.1, hf.2, hPc (T.setVm vm₁) hT hW₁⟩) with ⟨v, vm₁, ⟨U', l2, c2, s2⟩, hW₁, X', ⟨g', mk, t, L, e1, e2, hq, h1, hL, h2, h3⟩, st⟩ | ⟨q, vm₁, ⟨U', l2, c2, s2⟩, hW₁, X', ⟨g', mk, t, L, E, ce, e1, e2, hq, hce, hcv, hcl, h1, hL, h2, h3⟩, st⟩
  · dsimp only [Pt.U, Pt.locs, Pt.cells, Pt.slots] at X' e1 e2 h1 h2 h3 st
    subst h1; subst h2; subst h3
    exact Or.inl ⟨v, (T.setVm vm₁).calling g' mk (Value.ref b :: As).toArray, t, U', L, hT, X', hL, e1, e2, hq, st⟩
  · dsimp only [Pt.U, Pt.locs, Pt.cells, Pt.slots] at X' e1 e2 h1 h2 h3 st hcl
    subst h1; subst h2; subst h3
    exact Or.inr ⟨q, (T.setVm vm₁).calling g' mk (Value.ref b :: As).toArray, t, U', L, E, ce, hT, X', hL, e1, e2, hq, hce, hcv, vx_cls hW₁ hcl, st⟩
theorem vx_runSX {hh : List (Nat × Nat × Nat × Nat)} (S : CallFix p m c cc nL s args Ts own) (hM : vx_Met l y ws rm Pc Qc XC mc ms free) (cw : vx_CSW R s args own index y bytes maxL ret hh ws rm mc ms n) (hp : PreS s H Pc As)
    (hg : g.method = m) (hn : As.length = n) (hsize : g.locals.size = nL) (hstack : g.stack = As.reverse ++ rest) (hW : 2 * g.monitorRoom + (rest.map fun v => v.category).sum ≤ 8) (hdg : decode cc g.pc = .ok (.invokestatic index, 3)) (hf : cells + mc ≤ R.cells ∧ slots + ms ≤ R.slots) :
    vx_Run p l e R s m args below meth c H locs cells slots mc ms g rest (Qc As.toArray) XC free := by
  obtain ⟨⟨hrc, hrs, hfr, hlo, hws, hcw⟩, hcode, hini, hy, hlen, hl, hstt⟩ := cw
  have hK : vx_Back l R p e below s args y 3 8 (PreOf R mc ms Pc) (PostOf Qc mc ms free) (vx_Post XC mc ms free) := vx_backW (hh := hh) (bytes := bytes) (maxL := maxL) (ret := ret) hM hp.1 hrc hrs hfr hlo hws hcw (fun a' U hW => word_at hW (Or.inl (by first | rfl | simp [Cond.onTables, Cond.keeps, Cond.steady])) hini)
  obtain ⟨hx, hb, hml, ho, -⟩ := S
  intro T hT X
  rcases vx_callSX X hx (hh := hh) (bytes := bytes) (maxL := maxL) (ret := ret) ho hl hstt hini hcode hy hK hg (hsize.trans hml.symm) (argsL := As) (rest := rest) (fun sig h => hn.trans (hlen sig h)) hstack hW (by rw [hb]; exact hdg)
    (fun vm₁ hW₁ => ⟨hf.1, hf.2, hp.2 (T.setVm vm₁) hT hW₁⟩) with ⟨v, vm₁, ⟨U', l2, c2, s2⟩, hW₁, X', ⟨g', mk, t, L, e1, e2, hq, h1, hL, h2, h3⟩, st⟩ | ⟨q, vm₁, ⟨U', l2, c2, s2⟩, hW₁, X', ⟨g', mk, t, L, E, ce, e1, e2, hq, hce, hcv, hcl, h1, hL, h2, h3⟩, st⟩
  · dsimp only [Pt.U, Pt.locs, Pt.cells, Pt.slots] at X' e1 e2 h1 h2 h3 st
    subst h1; subst h2; subst h3
    exact Or.inl ⟨v, (T.setVm vm₁).calling g' mk As.toArray, t, U', L, hT, X', hL, e1, e2, hq, st⟩
  · dsimp only [Pt.U, Pt.locs, Pt.cells, Pt.slots] at X' e1 e2 h1 h2 h3 st hcl
    subst h1; subst h2; subst h3
    exact Or.inr ⟨q, (T.setVm vm₁).calling g' mk As.toArray, t, U', L, E, ce, hT, X', hL, e1, e2, hq, hce, hcv, vx_cls hW₁ hcl, st⟩
end
end VXH
theorem vx_ofWH {l : Launch} {y : MethodName} {ws ws' : List Cond} {rm : Room} {Pc : Array Value → State → Prop} {Qc : Array Value → State → Outcome → State → Prop} {XC : String → State → State → Prop} {mc ms : Nat} {free : Addr → Prop} {cc : ByteArray} {maxL : Nat} {ret : Option FieldType} {hh : List (Nat × Nat × Nat × Nat)}
    (hy : plainName y.cls = true) (hw : ws = Cond.codeWith y cc maxL ret hh :: ws')
    (body : ∀ p e s m args below meth c s₁, BodyLoose p l y (headSpec ws rm) cc maxL ret e s m args below meth c s₁ → c.maxLocals = maxL → Pc args s →
      W p l e (headSpec ws rm).room s m args below meth c s.heap [] 0 0 (vx_MQ below Qc XC args s mc ms free) (entryFrame m args maxL)) : vx_Met l y ws rm Pc Qc XC mc ms free := by
  refine MetFree.of_bodyS (code := cc) (maxLocals := maxL) (ret := ret) hy ?_ ?_
  · intro args s m h hn
    obtain ⟨m9, meth, c, hn9, h1, h2, h3, h4, -, h5, h6, -⟩ := Cond.codeWith_spec (atoms_spec (ws := ws) h _ (by rw [hw]; exact List.mem_cons_self))
    cases hn.symm.trans hn9
    exact ⟨meth, c, h1, h2, h3, h4, h5, h6⟩
  · intro p e s m args below meth c s₁ B hml hP _
    have hh0 : s₁.heap = s.heap := by rw [B.state]; rfl
    obtain ⟨t, a1, o, b1, b2, b3⟩ := body p e s m args below meth c s₁ B hml hP s₁ hh0 (Stand.of_body B)
    exact ⟨t, o, a1, b1, b2, b3⟩
/-! ===== END ===== -/

/-! ===== BEGIN printed: names, fields, word lists, decode rows ===== -/
end
section
def RX0 : String := "VineWall$Wall"
def TX0 : u_T := fun k => match k with
  | 0 => ("VineWall$Wall", "leafRows", "[I", true)
  | _ => ("VineWall$Wall", "cutRows", "[I", true)
def tyX0 : Nat → FieldType := fun k => match k with
  | 0 => .array .int
  | _ => .array .int
abbrev wsX00 : List Cond := u_ws RX0 TX0 2
theorem nmX0 : ∀ a, a < 2 → ∀ b, b < 2 → a ≠ b → (TX0 a).2.1 ≠ (TX0 b).2.1 := by decide +kernel
theorem tyX0_ok : ∀ k, k < 2 → parseFieldDescriptor (TX0 k).2.2.1 = some (tyX0 k) := by decide +kernel
abbrev cX0_init : ByteArray := prog_2_method_1_code
def yX0_init : MethodName := ⟨RX0, "<init>", "()V"⟩
abbrev cX0_hasLeafAt : ByteArray := prog_2_method_2_code
def yX0_hasLeafAt : MethodName := ⟨RX0, "hasLeafAt", "(II)Z"⟩
abbrev cX0_isBareAt : ByteArray := prog_2_method_3_code
def yX0_isBareAt : MethodName := ⟨RX0, "isBareAt", "(II)Z"⟩
abbrev cX0_hasCuts : ByteArray := prog_2_method_4_code
def yX0_hasCuts : MethodName := ⟨RX0, "hasCuts", "()Z"⟩
abbrev cX0_putLeaf : ByteArray := prog_2_method_5_code
def yX0_putLeaf : MethodName := ⟨RX0, "putLeaf", "(II)V"⟩
abbrev cX0_cutLeaf : ByteArray := prog_2_method_6_code
def yX0_cutLeaf : MethodName := ⟨RX0, "cutLeaf", "(II)V"⟩
abbrev cX0_copyFrom : ByteArray := prog_2_method_8_code
def yX0_copyFrom : MethodName := ⟨RX0, "copyFrom", "(LVineWall$Wall;)V"⟩
abbrev cX0_shadeAt : ByteArray := prog_2_method_9_code
def yX0_shadeAt : MethodName := ⟨RX0, "shadeAt", "(II)I"⟩
abbrev cX0_holdersAt : ByteArray := prog_2_method_10_code
def yX0_holdersAt : MethodName := ⟨RX0, "holdersAt", "(III)I"⟩
abbrev cX0_neighboursAt : ByteArray := prog_2_method_11_code
def yX0_neighboursAt : MethodName := ⟨RX0, "neighboursAt", "(III)I"⟩
abbrev cX0_countInColumn : ByteArray := prog_2_method_12_code
def yX0_countInColumn : MethodName := ⟨RX0, "countInColumn", "(I)I"⟩
abbrev cX0_countLeaves : ByteArray := prog_2_method_13_code
def yX0_countLeaves : MethodName := ⟨RX0, "countLeaves", "()I"⟩
abbrev cX0_countLit : ByteArray := prog_2_method_14_code
def yX0_countLit : MethodName := ⟨RX0, "countLit", "()I"⟩
abbrev cX0_leavesOfHalf : ByteArray := prog_2_method_15_code
def yX0_leavesOfHalf : MethodName := ⟨RX0, "leavesOfHalf", "(I)J"⟩
abbrev cX0_becomeNextOf : ByteArray := prog_2_method_16_code
def yX0_becomeNextOf : MethodName := ⟨RX0, "becomeNextOf", "(LVineWall$Wall;I[I)I"⟩
abbrev cX0_leafRowNext : ByteArray := prog_2_method_17_code
def yX0_leafRowNext : MethodName := ⟨RX0, "leafRowNext", "(II)I"⟩
abbrev cX0_bearsLeafNext : ByteArray := prog_2_method_18_code
def yX0_bearsLeafNext : MethodName := ⟨RX0, "bearsLeafNext", "(IIII)Z"⟩
abbrev cX0_takeTopmost : ByteArray := prog_2_method_19_code
def yX0_takeTopmost : MethodName := ⟨RX0, "takeTopmost", "(II)I"⟩
abbrev cX0_takeLeaf : ByteArray := prog_2_method_20_code
def yX0_takeLeaf : MethodName := ⟨RX0, "takeLeaf", "(II)V"⟩
abbrev cX0_hasCutAt : ByteArray := prog_2_method_21_code
def yX0_hasCutAt : MethodName := ⟨RX0, "hasCutAt", "(II)Z"⟩
abbrev cX0_leafRow : ByteArray := prog_2_method_22_code
def yX0_leafRow : MethodName := ⟨RX0, "leafRow", "(I)I"⟩
abbrev cX0_countHolders : ByteArray := prog_2_method_23_code
def yX0_countHolders : MethodName := ⟨RX0, "countHolders", "(I)I"⟩
abbrev cX0_countNeighbours : ByteArray := prog_2_method_24_code
def yX0_countNeighbours : MethodName := ⟨RX0, "countNeighbours", "(III)I"⟩
abbrev cX0_leafRowAsSeen : ByteArray := prog_2_method_25_code
def yX0_leafRowAsSeen : MethodName := ⟨RX0, "leafRowAsSeen", "(II)I"⟩
def RX1 : String := "VineWall"
def TX1 : u_T := fun k => match k with
  | 0 => ("VineWall", "wall", "LVineWall$Wall;", true)
  | 1 => ("VineWall", "trial", "LVineWall$Wall;", true)
  | 2 => ("VineWall", "behind", "LVineWall$Wall;", true)
  | 3 => ("VineWall", "lowerHalves", "[J", true)
  | 4 => ("VineWall", "upperHalves", "[J", true)
  | 5 => ("VineWall", "bearings", "[I", true)
  | 6 => ("VineWall", "beyond", "I", false)
  | 7 => ("VineWall", "planted", "I", false)
  | 8 => ("VineWall", "cutsDone", "I", false)
  | 9 => ("VineWall", "generationsGone", "I", false)
  | _ => ("VineWall", "fallen", "I", false)
def tyX1 : Nat → FieldType := fun k => match k with
  | 0 => .object "VineWall$Wall"
  | 1 => .object "VineWall$Wall"
  | 2 => .object "VineWall$Wall"
  | 3 => .array .long
  | 4 => .array .long
  | 5 => .array .int
  | 6 => .int
  | 7 => .int
  | 8 => .int
  | 9 => .int
  | _ => .int
abbrev wsX10 : List Cond := u_ws RX1 TX1 11
theorem nmX1 : ∀ a, a < 11 → ∀ b, b < 11 → a ≠ b → (TX1 a).2.1 ≠ (TX1 b).2.1 := by decide +kernel
theorem tyX1_ok : ∀ k, k < 11 → parseFieldDescriptor (TX1 k).2.2.1 = some (tyX1 k) := by decide +kernel
abbrev cX1_init : ByteArray := prog_1_method_1_code
def yX1_init : MethodName := ⟨RX1, "<init>", "()V"⟩
abbrev cX1_sides : ByteArray := prog_1_method_2_code
def yX1_sides : MethodName := ⟨RX1, "sides", "(I)V"⟩
abbrev cX1_plant : ByteArray := prog_1_method_3_code
def yX1_plant : MethodName := ⟨RX1, "plant", "(I)V"⟩
abbrev cX1_trellis : ByteArray := prog_1_method_4_code
def yX1_trellis : MethodName := ⟨RX1, "trellis", "(II)I"⟩
abbrev cX1_cut : ByteArray := prog_1_method_5_code
def yX1_cut : MethodName := ⟨RX1, "cut", "(II)I"⟩
abbrev cX1_grow : ByteArray := prog_1_method_6_code
def yX1_grow : MethodName := ⟨RX1, "grow", "()I"⟩
abbrev cX1_look : ByteArray := prog_1_method_7_code
def yX1_look : MethodName := ⟨RX1, "look", "(II)C"⟩
abbrev cX1_shadeOf : ByteArray := prog_1_method_8_code
def yX1_shadeOf : MethodName := ⟨RX1, "shadeOf", "(II)I"⟩
abbrev cX1_holdersOf : ByteArray := prog_1_method_9_code
def yX1_holdersOf : MethodName := ⟨RX1, "holdersOf", "(II)I"⟩
abbrev cX1_neighboursOf : ByteArray := prog_1_method_10_code
def yX1_neighboursOf : MethodName := ⟨RX1, "neighboursOf", "(II)I"⟩
abbrev cX1_leavesIn : ByteArray := prog_1_method_11_code
def yX1_leavesIn : MethodName := ⟨RX1, "leavesIn", "(I)I"⟩
abbrev cX1_leaves : ByteArray := prog_1_method_12_code
def yX1_leaves : MethodName := ⟨RX1, "leaves", "()I"⟩
abbrev cX1_lit : ByteArray := prog_1_method_13_code
def yX1_lit : MethodName := ⟨RX1, "lit", "()I"⟩
abbrev cX1_generation : ByteArray := prog_1_method_14_code
def yX1_generation : MethodName := ⟨RX1, "generation", "()I"⟩
abbrev cX1_cutsLeft : ByteArray := prog_1_method_15_code
def yX1_cutsLeft : MethodName := ⟨RX1, "cutsLeft", "()I"⟩
abbrev cX1_broken : ByteArray := prog_1_method_16_code
def yX1_broken : MethodName := ⟨RX1, "broken", "()I"⟩
abbrev cX1_leavesNext : ByteArray := prog_1_method_17_code
def yX1_leavesNext : MethodName := ⟨RX1, "leavesNext", "()I"⟩
abbrev cX1_repeatsIn : ByteArray := prog_1_method_18_code
def yX1_repeatsIn : MethodName := ⟨RX1, "repeatsIn", "()I"⟩
abbrev cX1_bestCut : ByteArray := prog_1_method_19_code
def yX1_bestCut : MethodName := ⟨RX1, "bestCut", "()I"⟩
abbrev cX1_litBehindCut : ByteArray := prog_1_method_21_code
def yX1_litBehindCut : MethodName := ⟨RX1, "litBehindCut", "(II)I"⟩
abbrev cX1_remember : ByteArray := prog_1_method_22_code
def yX1_remember : MethodName := ⟨RX1, "remember", "(I)V"⟩
abbrev cX1_looksAsBefore : ByteArray := prog_1_method_23_code
def yX1_looksAsBefore : MethodName := ⟨RX1, "looksAsBefore", "(II)Z"⟩
abbrev cX1_requireColumn : ByteArray := prog_1_method_24_code
def yX1_requireColumn : MethodName := ⟨RX1, "requireColumn", "(I)V"⟩
abbrev cX1_requireCell : ByteArray := prog_1_method_25_code
def yX1_requireCell : MethodName := ⟨RX1, "requireCell", "(II)V"⟩
abbrev cX1_isCell : ByteArray := prog_1_method_26_code
def yX1_isCell : MethodName := ⟨RX1, "isCell", "(II)Z"⟩
def RX2 : String := "VineWallModel"
def TX2 : u_T := fun k => match k with
  | _ => ("", "", "", false)
def tyX2 : Nat → FieldType := fun k => match k with
  | _ => .int
abbrev wsX20 : List Cond := u_ws RX2 TX2 0
theorem nmX2 : ∀ a, a < 0 → ∀ b, b < 0 → a ≠ b → (TX2 a).2.1 ≠ (TX2 b).2.1 := by decide +kernel
theorem tyX2_ok : ∀ k, k < 0 → parseFieldDescriptor (TX2 k).2.2.1 = some (tyX2 k) := by decide +kernel
def RJ6 : String := "java/lang/Integer"
def TJ6 : u_T := fun k => match k with
  | _ => ("", "", "", false)
def tyJ6 : Nat → FieldType := fun k => match k with
  | _ => .int
abbrev wsJ60 : List Cond := u_ws RJ6 TJ6 0
theorem nmJ6 : ∀ a, a < 0 → ∀ b, b < 0 → a ≠ b → (TJ6 a).2.1 ≠ (TJ6 b).2.1 := by decide +kernel
theorem tyJ6_ok : ∀ k, k < 0 → parseFieldDescriptor (TJ6 k).2.2.1 = some (tyJ6 k) := by decide +kernel
abbrev cJ6_bitCount_0f7a4 : ByteArray := prog_9_method_49_code
def yJ6_bitCount_0f7a4 : MethodName := ⟨RJ6, "bitCount", "(I)I"⟩
def RJ0 : String := "java/lang/String"
def TJ0 : u_T := fun k => match k with
  | _ => ("", "", "", false)
def tyJ0 : Nat → FieldType := fun k => match k with
  | _ => .int
abbrev wsJ00 : List Cond := u_ws RJ0 TJ0 0
theorem nmJ0 : ∀ a, a < 0 → ∀ b, b < 0 → a ≠ b → (TJ0 a).2.1 ≠ (TJ0 b).2.1 := by decide +kernel
theorem tyJ0_ok : ∀ k, k < 0 → parseFieldDescriptor (TJ0 k).2.2.1 = some (tyJ0 k) := by decide +kernel
def RL : String := "VineWallLaw"
abbrev cL_drawn : ByteArray := method_2_code
def yL_drawn : MethodName := ⟨RL, "drawn", "([III)I"⟩
abbrev cL_cutsAfter : ByteArray := method_3_code
def yL_cutsAfter : MethodName := ⟨RL, "cutsAfter", "(LVineWall;II)I"⟩
abbrev cL_grownBy : ByteArray := method_4_code
def yL_grownBy : MethodName := ⟨RL, "grownBy", "(LVineWall;)I"⟩
abbrev cL_areMirrored : ByteArray := method_5_code
def yL_areMirrored : MethodName := ⟨RL, "areMirrored", "(LVineWall;LVineWall;)Z"⟩
abbrev cL_isGrownRight : ByteArray := method_6_code
def yL_isGrownRight : MethodName := ⟨RL, "isGrownRight", "(LVineWall;[I)Z"⟩
abbrev cL_law : ByteArray := code
def yL_law : MethodName := ⟨RL, "law", "([I)Z"⟩
def wsX0_init : List Cond := .code yX0_init cX0_init 1 none :: ([.methodLink RX0 3 objectInit, .instanceMethod objectInit, .code objectInit ⟨#[0xb1]⟩ 1 none, .arrayClass .int, .fieldLink RX0 9 "VineWall$Wall" "leafRows" "[I", .fieldLink RX0 15 "VineWall$Wall" "cutRows" "[I"] ++ wsX00)
def wsX0_leafRow : List Cond := .code yX0_leafRow cX0_leafRow 2 (some .int) :: ([.fieldLink RX0 9 "VineWall$Wall" "leafRows" "[I"] ++ wsX00)
def wsX0_hasLeafAt : List Cond := .code yX0_hasLeafAt cX0_hasLeafAt 3 (some .boolean) :: ([.methodLink RX0 18 yX0_leafRow, .instanceMethod yX0_leafRow, .selects RX0 yX0_leafRow yX0_leafRow, .initialized RX0, .code yX0_leafRow cX0_leafRow 2 (some .int), .fieldLink RX0 9 "VineWall$Wall" "leafRows" "[I"] ++ wsX00)
def wsX0_hasCutAt : List Cond := .code yX0_hasCutAt cX0_hasCutAt 3 (some .boolean) :: ([.fieldLink RX0 15 "VineWall$Wall" "cutRows" "[I"] ++ wsX00)
def wsX0_isBareAt : List Cond := .code yX0_isBareAt cX0_isBareAt 3 (some .boolean) :: ([.methodLink RX0 22 yX0_hasLeafAt, .instanceMethod yX0_hasLeafAt, .selects RX0 yX0_hasLeafAt yX0_hasLeafAt, .initialized RX0, .code yX0_hasLeafAt cX0_hasLeafAt 3 (some .boolean), .methodLink RX0 18 yX0_leafRow, .instanceMethod yX0_leafRow, .selects RX0 yX0_leafRow yX0_leafRow, .code yX0_leafRow cX0_leafRow 2 (some .int), .fieldLink RX0 9 "VineWall$Wall" "leafRows" "[I", .methodLink RX0 26 yX0_hasCutAt, .instanceMethod yX0_hasCutAt, .selects RX0 yX0_hasCutAt yX0_hasCutAt, .code yX0_hasCutAt cX0_hasCutAt 3 (some .boolean), .fieldLink RX0 15 "VineWall$Wall" "cutRows" "[I"] ++ wsX00)
def wsX0_hasCuts : List Cond := .code yX0_hasCuts cX0_hasCuts 3 (some .boolean) :: ([.fieldLink RX0 15 "VineWall$Wall" "cutRows" "[I"] ++ wsX00)
def wsX1_isCell : List Cond := .code yX1_isCell cX1_isCell 2 (some .boolean) :: ([])
def wsX0_putLeaf : List Cond := .code yX0_putLeaf cX0_putLeaf 3 none :: ([.fieldLink RX0 9 "VineWall$Wall" "leafRows" "[I", .static yX1_isCell, .initialized RX1, .code yX1_isCell cX1_isCell 2 (some .boolean)] ++ wsX00)
def wsX0_takeLeaf : List Cond := .code yX0_takeLeaf cX0_takeLeaf 3 none :: ([.fieldLink RX0 9 "VineWall$Wall" "leafRows" "[I", .static yX1_isCell, .initialized RX1, .code yX1_isCell cX1_isCell 2 (some .boolean)] ++ wsX00)
def wsX0_cutLeaf : List Cond := .code yX0_cutLeaf cX0_cutLeaf 3 none :: ([.fieldLink RX0 15 "VineWall$Wall" "cutRows" "[I", .methodLink RX0 32 yX0_takeLeaf, .instanceMethod yX0_takeLeaf, .selects RX0 yX0_takeLeaf yX0_takeLeaf, .initialized RX0, .code yX0_takeLeaf cX0_takeLeaf 3 none, .fieldLink RX0 9 "VineWall$Wall" "leafRows" "[I", .static yX1_isCell, .initialized RX1, .code yX1_isCell cX1_isCell 2 (some .boolean)] ++ wsX00)
def wsX0_copyFrom : List Cond := .code yX0_copyFrom cX0_copyFrom 3 none :: ([.fieldLink RX0 9 "VineWall$Wall" "leafRows" "[I", .fieldLink RX0 15 "VineWall$Wall" "cutRows" "[I"] ++ wsX00)
def wsX0_shadeAt : List Cond := .code yX0_shadeAt cX0_shadeAt 5 (some .int) :: ([.methodLink RX0 18 yX0_leafRow, .instanceMethod yX0_leafRow, .selects RX0 yX0_leafRow yX0_leafRow, .initialized RX0, .code yX0_leafRow cX0_leafRow 2 (some .int), .fieldLink RX0 9 "VineWall$Wall" "leafRows" "[I"] ++ wsX00)
def wsX0_leafRowAsSeen : List Cond := .code yX0_leafRowAsSeen cX0_leafRowAsSeen 7 (some .int) :: ([.methodLink RX0 18 yX0_leafRow, .instanceMethod yX0_leafRow, .selects RX0 yX0_leafRow yX0_leafRow, .initialized RX0, .code yX0_leafRow cX0_leafRow 2 (some .int), .fieldLink RX0 9 "VineWall$Wall" "leafRows" "[I"] ++ wsX00)
def wsJ6_bitCount_0f7a4 : List Cond := .code yJ6_bitCount_0f7a4 cJ6_bitCount_0f7a4 1 (some .int) :: ([.constant RJ6 265 (1431655765), .constant RJ6 266 (858993459), .constant RJ6 267 (252645135)])
def wsX0_countHolders : List Cond := .code yX0_countHolders cX0_countHolders 1 (some .int) :: ([.methodLink RX0 50 yJ6_bitCount_0f7a4, .static yJ6_bitCount_0f7a4, .initialized RJ6, .code yJ6_bitCount_0f7a4 cJ6_bitCount_0f7a4 1 (some .int), .constant RJ6 265 (1431655765), .constant RJ6 266 (858993459), .constant RJ6 267 (252645135)])
def wsX0_holdersAt : List Cond := .code yX0_holdersAt cX0_holdersAt 4 (some .int) :: ([.methodLink RX0 36 yX0_leafRowAsSeen, .instanceMethod yX0_leafRowAsSeen, .selects RX0 yX0_leafRowAsSeen yX0_leafRowAsSeen, .initialized RX0, .code yX0_leafRowAsSeen cX0_leafRowAsSeen 7 (some .int), .methodLink RX0 18 yX0_leafRow, .instanceMethod yX0_leafRow, .selects RX0 yX0_leafRow yX0_leafRow, .code yX0_leafRow cX0_leafRow 2 (some .int), .fieldLink RX0 9 "VineWall$Wall" "leafRows" "[I", .methodLink RX0 40 yX0_countHolders, .static yX0_countHolders, .code yX0_countHolders cX0_countHolders 1 (some .int), .methodLink RX0 50 yJ6_bitCount_0f7a4, .static yJ6_bitCount_0f7a4, .initialized RJ6, .code yJ6_bitCount_0f7a4 cJ6_bitCount_0f7a4 1 (some .int), .constant RJ6 265 (1431655765), .constant RJ6 266 (858993459), .constant RJ6 267 (252645135)] ++ wsX00)
def wsX0_countNeighbours : List Cond := .code yX0_countNeighbours cX0_countNeighbours 3 (some .int) :: ([.methodLink RX0 50 yJ6_bitCount_0f7a4, .static yJ6_bitCount_0f7a4, .initialized RJ6, .code yJ6_bitCount_0f7a4 cJ6_bitCount_0f7a4 1 (some .int), .constant RJ6 265 (1431655765), .constant RJ6 266 (858993459), .constant RJ6 267 (252645135)])
def wsX0_neighboursAt : List Cond := .code yX0_neighboursAt cX0_neighboursAt 4 (some .int) :: ([.methodLink RX0 36 yX0_leafRowAsSeen, .instanceMethod yX0_leafRowAsSeen, .selects RX0 yX0_leafRowAsSeen yX0_leafRowAsSeen, .initialized RX0, .code yX0_leafRowAsSeen cX0_leafRowAsSeen 7 (some .int), .methodLink RX0 18 yX0_leafRow, .instanceMethod yX0_leafRow, .selects RX0 yX0_leafRow yX0_leafRow, .code yX0_leafRow cX0_leafRow 2 (some .int), .fieldLink RX0 9 "VineWall$Wall" "leafRows" "[I", .methodLink RX0 43 yX0_countNeighbours, .static yX0_countNeighbours, .code yX0_countNeighbours cX0_countNeighbours 3 (some .int), .methodLink RX0 50 yJ6_bitCount_0f7a4, .static yJ6_bitCount_0f7a4, .initialized RJ6, .code yJ6_bitCount_0f7a4 cJ6_bitCount_0f7a4 1 (some .int), .constant RJ6 265 (1431655765), .constant RJ6 266 (858993459), .constant RJ6 267 (252645135)] ++ wsX00)
def wsX0_countInColumn : List Cond := .code yX0_countInColumn cX0_countInColumn 2 (some .int) :: ([.methodLink RX0 47 yX0_shadeAt, .instanceMethod yX0_shadeAt, .selects RX0 yX0_shadeAt yX0_shadeAt, .initialized RX0, .code yX0_shadeAt cX0_shadeAt 5 (some .int), .methodLink RX0 18 yX0_leafRow, .instanceMethod yX0_leafRow, .selects RX0 yX0_leafRow yX0_leafRow, .code yX0_leafRow cX0_leafRow 2 (some .int), .fieldLink RX0 9 "VineWall$Wall" "leafRows" "[I"] ++ wsX00)
def wsX0_countLeaves : List Cond := .code yX0_countLeaves cX0_countLeaves 3 (some .int) :: ([.fieldLink RX0 9 "VineWall$Wall" "leafRows" "[I", .methodLink RX0 50 yJ6_bitCount_0f7a4, .static yJ6_bitCount_0f7a4, .initialized RJ6, .code yJ6_bitCount_0f7a4 cJ6_bitCount_0f7a4 1 (some .int), .constant RJ6 265 (1431655765), .constant RJ6 266 (858993459), .constant RJ6 267 (252645135)] ++ wsX00)
def wsX0_countLit : List Cond := .code yX0_countLit cX0_countLit 3 (some .int) :: ([.fieldLink RX0 9 "VineWall$Wall" "leafRows" "[I", .methodLink RX0 50 yJ6_bitCount_0f7a4, .static yJ6_bitCount_0f7a4, .initialized RJ6, .code yJ6_bitCount_0f7a4 cJ6_bitCount_0f7a4 1 (some .int), .constant RJ6 265 (1431655765), .constant RJ6 266 (858993459), .constant RJ6 267 (252645135)] ++ wsX00)
def wsX0_leavesOfHalf : List Cond := .code yX0_leavesOfHalf cX0_leavesOfHalf 5 (some .long) :: ([.methodLink RX0 18 yX0_leafRow, .instanceMethod yX0_leafRow, .selects RX0 yX0_leafRow yX0_leafRow, .initialized RX0, .code yX0_leafRow cX0_leafRow 2 (some .int), .fieldLink RX0 9 "VineWall$Wall" "leafRows" "[I"] ++ wsX00)
def wsX0_bearsLeafNext : List Cond := .code yX0_bearsLeafNext cX0_bearsLeafNext 6 (some .boolean) :: ([.methodLink RX0 26 yX0_hasCutAt, .instanceMethod yX0_hasCutAt, .selects RX0 yX0_hasCutAt yX0_hasCutAt, .initialized RX0, .code yX0_hasCutAt cX0_hasCutAt 3 (some .boolean), .fieldLink RX0 15 "VineWall$Wall" "cutRows" "[I", .methodLink RX0 47 yX0_shadeAt, .instanceMethod yX0_shadeAt, .selects RX0 yX0_shadeAt yX0_shadeAt, .code yX0_shadeAt cX0_shadeAt 5 (some .int), .methodLink RX0 18 yX0_leafRow, .instanceMethod yX0_leafRow, .selects RX0 yX0_leafRow yX0_leafRow, .code yX0_leafRow cX0_leafRow 2 (some .int), .fieldLink RX0 9 "VineWall$Wall" "leafRows" "[I", .methodLink RX0 22 yX0_hasLeafAt, .instanceMethod yX0_hasLeafAt, .selects RX0 yX0_hasLeafAt yX0_hasLeafAt, .code yX0_hasLeafAt cX0_hasLeafAt 3 (some .boolean)] ++ wsX00)
def wsX0_leafRowNext_r1 : List Cond := [Cond.methodLink RX0 18 yX0_leafRow, Cond.instanceMethod yX0_leafRow, Cond.selects RX0 yX0_leafRow yX0_leafRow, Cond.initialized RX0, Cond.code yX0_leafRow cX0_leafRow 2 (some .int), Cond.fieldLink RX0 9 "VineWall$Wall" "leafRows" "[I", Cond.methodLink RX0 36 yX0_leafRowAsSeen, Cond.instanceMethod yX0_leafRowAsSeen, Cond.selects RX0 yX0_leafRowAsSeen yX0_leafRowAsSeen, Cond.code yX0_leafRowAsSeen cX0_leafRowAsSeen 7 (some .int), Cond.methodLink RX0 40 yX0_countHolders, Cond.static yX0_countHolders, Cond.code yX0_countHolders cX0_countHolders 1 (some .int), Cond.methodLink RX0 50 yJ6_bitCount_0f7a4, Cond.static yJ6_bitCount_0f7a4, Cond.initialized RJ6, Cond.code yJ6_bitCount_0f7a4 cJ6_bitCount_0f7a4 1 (some .int), Cond.constant RJ6 265 (1431655765), Cond.constant RJ6 266 (858993459), Cond.constant RJ6 267 (252645135), Cond.methodLink RX0 43 yX0_countNeighbours, Cond.static yX0_countNeighbours, Cond.code yX0_countNeighbours cX0_countNeighbours 3 (some .int), Cond.methodLink RX0 64 yX0_bearsLeafNext]
def wsX0_leafRowNext_r2 : List Cond := [Cond.instanceMethod yX0_bearsLeafNext, Cond.selects RX0 yX0_bearsLeafNext yX0_bearsLeafNext, Cond.code yX0_bearsLeafNext cX0_bearsLeafNext 6 (some .boolean), Cond.methodLink RX0 26 yX0_hasCutAt, Cond.instanceMethod yX0_hasCutAt, Cond.selects RX0 yX0_hasCutAt yX0_hasCutAt, Cond.code yX0_hasCutAt cX0_hasCutAt 3 (some .boolean), Cond.fieldLink RX0 15 "VineWall$Wall" "cutRows" "[I", Cond.methodLink RX0 47 yX0_shadeAt, Cond.instanceMethod yX0_shadeAt, Cond.selects RX0 yX0_shadeAt yX0_shadeAt, Cond.code yX0_shadeAt cX0_shadeAt 5 (some .int), Cond.methodLink RX0 22 yX0_hasLeafAt, Cond.instanceMethod yX0_hasLeafAt, Cond.selects RX0 yX0_hasLeafAt yX0_hasLeafAt, Cond.code yX0_hasLeafAt cX0_hasLeafAt 3 (some .boolean)]
def wsX0_leafRowNext : List Cond := .code yX0_leafRowNext cX0_leafRowNext 10 (some .int) :: ((wsX0_leafRowNext_r1 ++ wsX0_leafRowNext_r2) ++ wsX00)
def wsX0_takeTopmost : List Cond := .code yX0_takeTopmost cX0_takeTopmost 5 (some .int) :: ([.methodLink RX0 22 yX0_hasLeafAt, .instanceMethod yX0_hasLeafAt, .selects RX0 yX0_hasLeafAt yX0_hasLeafAt, .initialized RX0, .code yX0_hasLeafAt cX0_hasLeafAt 3 (some .boolean), .methodLink RX0 18 yX0_leafRow, .instanceMethod yX0_leafRow, .selects RX0 yX0_leafRow yX0_leafRow, .code yX0_leafRow cX0_leafRow 2 (some .int), .fieldLink RX0 9 "VineWall$Wall" "leafRows" "[I", .methodLink RX0 32 yX0_takeLeaf, .instanceMethod yX0_takeLeaf, .selects RX0 yX0_takeLeaf yX0_takeLeaf, .code yX0_takeLeaf cX0_takeLeaf 3 none, .static yX1_isCell, .initialized RX1, .code yX1_isCell cX1_isCell 2 (some .boolean)] ++ wsX00)
def wsX0_becomeNextOf_r1 : List Cond := [Cond.fieldLink RX0 9 "VineWall$Wall" "leafRows" "[I", Cond.fieldLink RX0 15 "VineWall$Wall" "cutRows" "[I", Cond.methodLink RX0 55 yX0_leafRowNext, Cond.instanceMethod yX0_leafRowNext, Cond.selects RX0 yX0_leafRowNext yX0_leafRowNext, Cond.initialized RX0, Cond.code yX0_leafRowNext cX0_leafRowNext 10 (some .int), Cond.methodLink RX0 18 yX0_leafRow, Cond.instanceMethod yX0_leafRow, Cond.selects RX0 yX0_leafRow yX0_leafRow, Cond.code yX0_leafRow cX0_leafRow 2 (some .int), Cond.methodLink RX0 36 yX0_leafRowAsSeen, Cond.instanceMethod yX0_leafRowAsSeen, Cond.selects RX0 yX0_leafRowAsSeen yX0_leafRowAsSeen, Cond.code yX0_leafRowAsSeen cX0_leafRowAsSeen 7 (some .int), Cond.methodLink RX0 40 yX0_countHolders, Cond.static yX0_countHolders, Cond.code yX0_countHolders cX0_countHolders 1 (some .int), Cond.methodLink RX0 50 yJ6_bitCount_0f7a4, Cond.static yJ6_bitCount_0f7a4, Cond.initialized RJ6, Cond.code yJ6_bitCount_0f7a4 cJ6_bitCount_0f7a4 1 (some .int), Cond.constant RJ6 265 (1431655765), Cond.constant RJ6 266 (858993459)]
def wsX0_becomeNextOf_r2 : List Cond := [Cond.constant RJ6 267 (252645135), Cond.methodLink RX0 43 yX0_countNeighbours, Cond.static yX0_countNeighbours, Cond.code yX0_countNeighbours cX0_countNeighbours 3 (some .int), Cond.methodLink RX0 64 yX0_bearsLeafNext, Cond.instanceMethod yX0_bearsLeafNext, Cond.selects RX0 yX0_bearsLeafNext yX0_bearsLeafNext, Cond.code yX0_bearsLeafNext cX0_bearsLeafNext 6 (some .boolean), Cond.methodLink RX0 26 yX0_hasCutAt, Cond.instanceMethod yX0_hasCutAt, Cond.selects RX0 yX0_hasCutAt yX0_hasCutAt, Cond.code yX0_hasCutAt cX0_hasCutAt 3 (some .boolean), Cond.methodLink RX0 47 yX0_shadeAt, Cond.instanceMethod yX0_shadeAt, Cond.selects RX0 yX0_shadeAt yX0_shadeAt, Cond.code yX0_shadeAt cX0_shadeAt 5 (some .int), Cond.methodLink RX0 22 yX0_hasLeafAt, Cond.instanceMethod yX0_hasLeafAt, Cond.selects RX0 yX0_hasLeafAt yX0_hasLeafAt, Cond.code yX0_hasLeafAt cX0_hasLeafAt 3 (some .boolean), Cond.methodLink RX0 58 yX0_countInColumn, Cond.instanceMethod yX0_countInColumn, Cond.selects RX0 yX0_countInColumn yX0_countInColumn, Cond.code yX0_countInColumn cX0_countInColumn 2 (some .int)]
def wsX0_becomeNextOf_r3 : List Cond := [Cond.methodLink RX0 61 yX0_takeTopmost, Cond.instanceMethod yX0_takeTopmost, Cond.selects RX0 yX0_takeTopmost yX0_takeTopmost, Cond.code yX0_takeTopmost cX0_takeTopmost 5 (some .int), Cond.methodLink RX0 32 yX0_takeLeaf, Cond.instanceMethod yX0_takeLeaf, Cond.selects RX0 yX0_takeLeaf yX0_takeLeaf, Cond.code yX0_takeLeaf cX0_takeLeaf 3 none, Cond.static yX1_isCell, Cond.initialized RX1, Cond.code yX1_isCell cX1_isCell 2 (some .boolean)]
def wsX0_becomeNextOf : List Cond := .code yX0_becomeNextOf cX0_becomeNextOf 6 (some .int) :: ((wsX0_becomeNextOf_r1 ++ (wsX0_becomeNextOf_r2 ++ wsX0_becomeNextOf_r3)) ++ wsX00)
def wsX1_init : List Cond := .code yX1_init cX1_init 2 none :: ([.methodLink RX1 1 objectInit, .instanceMethod objectInit, .code objectInit ⟨#[0xb1]⟩ 1 none, .classLink RX1 7 RX0, .instantiable RX0 2, .initialized RX0, .fieldLink RX1 10 "VineWall" "wall" "LVineWall$Wall;", .fieldLink RX1 16 "VineWall" "trial" "LVineWall$Wall;", .fieldLink RX1 19 "VineWall" "behind" "LVineWall$Wall;", .arrayClass .long, .fieldLink RX1 22 "VineWall" "lowerHalves" "[J", .fieldLink RX1 26 "VineWall" "upperHalves" "[J", .arrayClass .int, .fieldLink RX1 29 "VineWall" "bearings" "[I", .fieldLink RX1 33 "VineWall" "beyond" "I", .fieldLink RX1 37 "VineWall" "planted" "I", .fieldLink RX1 40 "VineWall" "cutsDone" "I", .fieldLink RX1 43 "VineWall" "generationsGone" "I", .fieldLink RX1 46 "VineWall" "fallen" "I", .instanceMethod yX0_init, .code yX0_init cX0_init 1 none, .methodLink RX0 3 objectInit, .fieldLink RX0 9 "VineWall$Wall" "leafRows" "[I", .fieldLink RX0 15 "VineWall$Wall" "cutRows" "[I"] ++ wsX00 ++ wsX10)
def wsX1_sides : List Cond := .code yX1_sides cX1_sides 2 none :: ([.classLink RX1 49 "java/lang/IllegalArgumentException", .initialized "java/lang/IllegalArgumentException", .classLink RX1 56 "java/lang/IllegalStateException", .initialized "java/lang/IllegalStateException", .fieldLink RX1 43 "VineWall" "generationsGone" "I", .fieldLink RX1 33 "VineWall" "beyond" "I"] ++ wsX10 ++ (vx_atS RX1 53 "java/lang/IllegalArgumentException" ["java/lang/RuntimeException", "java/lang/Exception"]).filter goodWord ++ (vx_atS RX1 60 "java/lang/IllegalStateException" ["java/lang/RuntimeException", "java/lang/Exception"]).filter goodWord)
def wsX1_requireColumn : List Cond := .code yX1_requireColumn cX1_requireColumn 1 none :: ([.classLink RX1 150 "java/lang/IndexOutOfBoundsException", .initialized "java/lang/IndexOutOfBoundsException"] ++ (vx_atS RX1 154 "java/lang/IndexOutOfBoundsException" ["java/lang/RuntimeException", "java/lang/Exception"]).filter goodWord)
def wsX1_plant_r1 : List Cond := [Cond.classLink RX1 56 "java/lang/IllegalStateException", Cond.initialized "java/lang/IllegalStateException", Cond.fieldLink RX1 10 "VineWall" "wall" "LVineWall$Wall;", Cond.fieldLink RX1 37 "VineWall" "planted" "I", Cond.methodLink RX1 61 yX1_requireColumn, Cond.static yX1_requireColumn, Cond.initialized RX1, Cond.code yX1_requireColumn cX1_requireColumn 1 none, Cond.classLink RX1 150 "java/lang/IndexOutOfBoundsException", Cond.initialized "java/lang/IndexOutOfBoundsException", Cond.methodLink RX1 65 yX0_isBareAt, Cond.instanceMethod yX0_isBareAt, Cond.selects RX0 yX0_isBareAt yX0_isBareAt, Cond.initialized RX0, Cond.code yX0_isBareAt cX0_isBareAt 3 (some .boolean), Cond.methodLink RX0 22 yX0_hasLeafAt, Cond.instanceMethod yX0_hasLeafAt, Cond.selects RX0 yX0_hasLeafAt yX0_hasLeafAt, Cond.code yX0_hasLeafAt cX0_hasLeafAt 3 (some .boolean), Cond.methodLink RX0 18 yX0_leafRow, Cond.instanceMethod yX0_leafRow, Cond.selects RX0 yX0_leafRow yX0_leafRow, Cond.code yX0_leafRow cX0_leafRow 2 (some .int), Cond.fieldLink RX0 9 "VineWall$Wall" "leafRows" "[I"]
def wsX1_plant_r2 : List Cond := [Cond.methodLink RX0 26 yX0_hasCutAt, Cond.instanceMethod yX0_hasCutAt, Cond.selects RX0 yX0_hasCutAt yX0_hasCutAt, Cond.code yX0_hasCutAt cX0_hasCutAt 3 (some .boolean), Cond.fieldLink RX0 15 "VineWall$Wall" "cutRows" "[I", Cond.methodLink RX1 73 yX0_putLeaf, Cond.instanceMethod yX0_putLeaf, Cond.selects RX0 yX0_putLeaf yX0_putLeaf, Cond.code yX0_putLeaf cX0_putLeaf 3 none, Cond.static yX1_isCell, Cond.code yX1_isCell cX1_isCell 2 (some .boolean)]
def wsX1_plant : List Cond := .code yX1_plant cX1_plant 2 none :: ((wsX1_plant_r1 ++ wsX1_plant_r2) ++ wsX10 ++ wsX00 ++ (vx_atS RX1 60 "java/lang/IllegalStateException" ["java/lang/RuntimeException", "java/lang/Exception"]).filter goodWord ++ (vx_atS RX1 154 "java/lang/IndexOutOfBoundsException" ["java/lang/RuntimeException", "java/lang/Exception"]).filter goodWord)
def wsX1_trellis : List Cond := .code yX1_trellis cX1_trellis 4 (some .int) :: ([.classLink RX1 49 "java/lang/IllegalArgumentException", .initialized "java/lang/IllegalArgumentException", .fieldLink RX1 29 "VineWall" "bearings" "[I", .methodLink RX1 61 yX1_requireColumn, .static yX1_requireColumn, .initialized RX1, .code yX1_requireColumn cX1_requireColumn 1 none, .classLink RX1 150 "java/lang/IndexOutOfBoundsException", .initialized "java/lang/IndexOutOfBoundsException"] ++ wsX10 ++ (vx_atS RX1 53 "java/lang/IllegalArgumentException" ["java/lang/RuntimeException", "java/lang/Exception"]).filter goodWord ++ (vx_atS RX1 154 "java/lang/IndexOutOfBoundsException" ["java/lang/RuntimeException", "java/lang/Exception"]).filter goodWord)
def wsX1_requireCell : List Cond := .code yX1_requireCell cX1_requireCell 2 none :: ([.classLink RX1 150 "java/lang/IndexOutOfBoundsException", .initialized "java/lang/IndexOutOfBoundsException", .methodLink RX1 155 yX1_isCell, .static yX1_isCell, .initialized RX1, .code yX1_isCell cX1_isCell 2 (some .boolean)] ++ (vx_atS RX1 154 "java/lang/IndexOutOfBoundsException" ["java/lang/RuntimeException", "java/lang/Exception"]).filter goodWord)
def wsX1_cutsLeft : List Cond := .code yX1_cutsLeft cX1_cutsLeft 1 (some .int) :: ([.fieldLink RX1 40 "VineWall" "cutsDone" "I"] ++ wsX10)
def wsX1_cut_r1 : List Cond := [Cond.classLink RX1 56 "java/lang/IllegalStateException", Cond.initialized "java/lang/IllegalStateException", Cond.fieldLink RX1 10 "VineWall" "wall" "LVineWall$Wall;", Cond.fieldLink RX1 40 "VineWall" "cutsDone" "I", Cond.methodLink RX1 79 yX1_requireCell, Cond.static yX1_requireCell, Cond.initialized RX1, Cond.code yX1_requireCell cX1_requireCell 2 none, Cond.classLink RX1 150 "java/lang/IndexOutOfBoundsException", Cond.initialized "java/lang/IndexOutOfBoundsException", Cond.methodLink RX1 155 yX1_isCell, Cond.static yX1_isCell, Cond.code yX1_isCell cX1_isCell 2 (some .boolean), Cond.methodLink RX1 82 yX0_hasLeafAt, Cond.instanceMethod yX0_hasLeafAt, Cond.selects RX0 yX0_hasLeafAt yX0_hasLeafAt, Cond.initialized RX0, Cond.code yX0_hasLeafAt cX0_hasLeafAt 3 (some .boolean), Cond.methodLink RX0 18 yX0_leafRow, Cond.instanceMethod yX0_leafRow, Cond.selects RX0 yX0_leafRow yX0_leafRow, Cond.code yX0_leafRow cX0_leafRow 2 (some .int), Cond.fieldLink RX0 9 "VineWall$Wall" "leafRows" "[I", Cond.methodLink RX1 87 yX1_cutsLeft]
def wsX1_cut_r2 : List Cond := [Cond.instanceMethod yX1_cutsLeft, Cond.selects RX1 yX1_cutsLeft yX1_cutsLeft, Cond.code yX1_cutsLeft cX1_cutsLeft 1 (some .int), Cond.methodLink RX1 93 yX0_cutLeaf, Cond.instanceMethod yX0_cutLeaf, Cond.selects RX0 yX0_cutLeaf yX0_cutLeaf, Cond.code yX0_cutLeaf cX0_cutLeaf 3 none, Cond.fieldLink RX0 15 "VineWall$Wall" "cutRows" "[I", Cond.methodLink RX0 32 yX0_takeLeaf, Cond.instanceMethod yX0_takeLeaf, Cond.selects RX0 yX0_takeLeaf yX0_takeLeaf, Cond.code yX0_takeLeaf cX0_takeLeaf 3 none]
def wsX1_cut : List Cond := .code yX1_cut cX1_cut 3 (some .int) :: ((wsX1_cut_r1 ++ wsX1_cut_r2) ++ wsX10 ++ wsX00 ++ (vx_atS RX1 60 "java/lang/IllegalStateException" ["java/lang/RuntimeException", "java/lang/Exception"]).filter goodWord ++ (vx_atS RX1 154 "java/lang/IndexOutOfBoundsException" ["java/lang/RuntimeException", "java/lang/Exception"]).filter goodWord)
def wsX1_leaves : List Cond := .code yX1_leaves cX1_leaves 1 (some .int) :: ([.fieldLink RX1 10 "VineWall" "wall" "LVineWall$Wall;", .methodLink RX1 124 yX0_countLeaves, .instanceMethod yX0_countLeaves, .selects RX0 yX0_countLeaves yX0_countLeaves, .initialized RX0, .code yX0_countLeaves cX0_countLeaves 3 (some .int), .fieldLink RX0 9 "VineWall$Wall" "leafRows" "[I", .methodLink RX0 50 yJ6_bitCount_0f7a4, .static yJ6_bitCount_0f7a4, .initialized RJ6, .code yJ6_bitCount_0f7a4 cJ6_bitCount_0f7a4 1 (some .int), .constant RJ6 265 (1431655765), .constant RJ6 266 (858993459), .constant RJ6 267 (252645135)] ++ wsX10 ++ wsX00)
def wsX1_grow_r1 : List Cond := [Cond.classLink RX1 56 "java/lang/IllegalStateException", Cond.initialized "java/lang/IllegalStateException", Cond.fieldLink RX1 43 "VineWall" "generationsGone" "I", Cond.fieldLink RX1 46 "VineWall" "fallen" "I", Cond.fieldLink RX1 19 "VineWall" "behind" "LVineWall$Wall;", Cond.fieldLink RX1 10 "VineWall" "wall" "LVineWall$Wall;", Cond.fieldLink RX1 33 "VineWall" "beyond" "I", Cond.fieldLink RX1 29 "VineWall" "bearings" "[I", Cond.fieldLink RX1 40 "VineWall" "cutsDone" "I", Cond.methodLink RX1 98 yX1_leaves, Cond.instanceMethod yX1_leaves, Cond.selects RX1 yX1_leaves yX1_leaves, Cond.initialized RX1, Cond.code yX1_leaves cX1_leaves 1 (some .int), Cond.methodLink RX1 124 yX0_countLeaves, Cond.instanceMethod yX0_countLeaves, Cond.selects RX0 yX0_countLeaves yX0_countLeaves, Cond.initialized RX0, Cond.code yX0_countLeaves cX0_countLeaves 3 (some .int), Cond.fieldLink RX0 9 "VineWall$Wall" "leafRows" "[I", Cond.methodLink RX0 50 yJ6_bitCount_0f7a4, Cond.static yJ6_bitCount_0f7a4, Cond.initialized RJ6, Cond.code yJ6_bitCount_0f7a4 cJ6_bitCount_0f7a4 1 (some .int)]
def wsX1_grow_r2 : List Cond := [Cond.constant RJ6 265 (1431655765), Cond.constant RJ6 266 (858993459), Cond.constant RJ6 267 (252645135), Cond.methodLink RX1 101 yX0_becomeNextOf, Cond.instanceMethod yX0_becomeNextOf, Cond.selects RX0 yX0_becomeNextOf yX0_becomeNextOf, Cond.code yX0_becomeNextOf cX0_becomeNextOf 6 (some .int), Cond.fieldLink RX0 15 "VineWall$Wall" "cutRows" "[I", Cond.methodLink RX0 55 yX0_leafRowNext, Cond.instanceMethod yX0_leafRowNext, Cond.selects RX0 yX0_leafRowNext yX0_leafRowNext, Cond.code yX0_leafRowNext cX0_leafRowNext 10 (some .int), Cond.methodLink RX0 18 yX0_leafRow, Cond.instanceMethod yX0_leafRow, Cond.selects RX0 yX0_leafRow yX0_leafRow, Cond.code yX0_leafRow cX0_leafRow 2 (some .int), Cond.methodLink RX0 36 yX0_leafRowAsSeen, Cond.instanceMethod yX0_leafRowAsSeen, Cond.selects RX0 yX0_leafRowAsSeen yX0_leafRowAsSeen, Cond.code yX0_leafRowAsSeen cX0_leafRowAsSeen 7 (some .int), Cond.methodLink RX0 40 yX0_countHolders, Cond.static yX0_countHolders, Cond.code yX0_countHolders cX0_countHolders 1 (some .int), Cond.methodLink RX0 43 yX0_countNeighbours]
def wsX1_grow_r3 : List Cond := [Cond.static yX0_countNeighbours, Cond.code yX0_countNeighbours cX0_countNeighbours 3 (some .int), Cond.methodLink RX0 64 yX0_bearsLeafNext, Cond.instanceMethod yX0_bearsLeafNext, Cond.selects RX0 yX0_bearsLeafNext yX0_bearsLeafNext, Cond.code yX0_bearsLeafNext cX0_bearsLeafNext 6 (some .boolean), Cond.methodLink RX0 26 yX0_hasCutAt, Cond.instanceMethod yX0_hasCutAt, Cond.selects RX0 yX0_hasCutAt yX0_hasCutAt, Cond.code yX0_hasCutAt cX0_hasCutAt 3 (some .boolean), Cond.methodLink RX0 47 yX0_shadeAt, Cond.instanceMethod yX0_shadeAt, Cond.selects RX0 yX0_shadeAt yX0_shadeAt, Cond.code yX0_shadeAt cX0_shadeAt 5 (some .int), Cond.methodLink RX0 22 yX0_hasLeafAt, Cond.instanceMethod yX0_hasLeafAt, Cond.selects RX0 yX0_hasLeafAt yX0_hasLeafAt, Cond.code yX0_hasLeafAt cX0_hasLeafAt 3 (some .boolean), Cond.methodLink RX0 58 yX0_countInColumn, Cond.instanceMethod yX0_countInColumn, Cond.selects RX0 yX0_countInColumn yX0_countInColumn, Cond.code yX0_countInColumn cX0_countInColumn 2 (some .int), Cond.methodLink RX0 61 yX0_takeTopmost, Cond.instanceMethod yX0_takeTopmost]
def wsX1_grow_r4 : List Cond := [Cond.selects RX0 yX0_takeTopmost yX0_takeTopmost, Cond.code yX0_takeTopmost cX0_takeTopmost 5 (some .int), Cond.methodLink RX0 32 yX0_takeLeaf, Cond.instanceMethod yX0_takeLeaf, Cond.selects RX0 yX0_takeLeaf yX0_takeLeaf, Cond.code yX0_takeLeaf cX0_takeLeaf 3 none, Cond.static yX1_isCell, Cond.code yX1_isCell cX1_isCell 2 (some .boolean), Cond.methodLink RX1 105 yX0_copyFrom, Cond.instanceMethod yX0_copyFrom, Cond.selects RX0 yX0_copyFrom yX0_copyFrom, Cond.code yX0_copyFrom cX0_copyFrom 3 none]
def wsX1_grow : List Cond := .code yX1_grow cX1_grow 2 (some .int) :: ((wsX1_grow_r1 ++ (wsX1_grow_r2 ++ (wsX1_grow_r3 ++ wsX1_grow_r4))) ++ wsX10 ++ wsX00 ++ (vx_atS RX1 60 "java/lang/IllegalStateException" ["java/lang/RuntimeException", "java/lang/Exception"]).filter goodWord)
def wsX1_look_r1 : List Cond := [Cond.fieldLink RX1 10 "VineWall" "wall" "LVineWall$Wall;", Cond.methodLink RX1 79 yX1_requireCell, Cond.static yX1_requireCell, Cond.initialized RX1, Cond.code yX1_requireCell cX1_requireCell 2 none, Cond.classLink RX1 150 "java/lang/IndexOutOfBoundsException", Cond.initialized "java/lang/IndexOutOfBoundsException", Cond.methodLink RX1 155 yX1_isCell, Cond.static yX1_isCell, Cond.code yX1_isCell cX1_isCell 2 (some .boolean), Cond.methodLink RX1 82 yX0_hasLeafAt, Cond.instanceMethod yX0_hasLeafAt, Cond.selects RX0 yX0_hasLeafAt yX0_hasLeafAt, Cond.initialized RX0, Cond.code yX0_hasLeafAt cX0_hasLeafAt 3 (some .boolean), Cond.methodLink RX0 18 yX0_leafRow, Cond.instanceMethod yX0_leafRow, Cond.selects RX0 yX0_leafRow yX0_leafRow, Cond.code yX0_leafRow cX0_leafRow 2 (some .int), Cond.fieldLink RX0 9 "VineWall$Wall" "leafRows" "[I", Cond.methodLink RX1 65 yX0_isBareAt, Cond.instanceMethod yX0_isBareAt, Cond.selects RX0 yX0_isBareAt yX0_isBareAt, Cond.code yX0_isBareAt cX0_isBareAt 3 (some .boolean)]
def wsX1_look_r2 : List Cond := [Cond.methodLink RX0 22 yX0_hasLeafAt, Cond.methodLink RX0 26 yX0_hasCutAt, Cond.instanceMethod yX0_hasCutAt, Cond.selects RX0 yX0_hasCutAt yX0_hasCutAt, Cond.code yX0_hasCutAt cX0_hasCutAt 3 (some .boolean), Cond.fieldLink RX0 15 "VineWall$Wall" "cutRows" "[I"]
def wsX1_look : List Cond := .code yX1_look cX1_look 3 (some .char) :: ((wsX1_look_r1 ++ wsX1_look_r2) ++ wsX10 ++ wsX00 ++ (vx_atS RX1 154 "java/lang/IndexOutOfBoundsException" ["java/lang/RuntimeException", "java/lang/Exception"]).filter goodWord)
def wsX1_shadeOf : List Cond := .code yX1_shadeOf cX1_shadeOf 3 (some .int) :: ([.fieldLink RX1 10 "VineWall" "wall" "LVineWall$Wall;", .methodLink RX1 79 yX1_requireCell, .static yX1_requireCell, .initialized RX1, .code yX1_requireCell cX1_requireCell 2 none, .classLink RX1 150 "java/lang/IndexOutOfBoundsException", .initialized "java/lang/IndexOutOfBoundsException", .methodLink RX1 155 yX1_isCell, .static yX1_isCell, .code yX1_isCell cX1_isCell 2 (some .boolean), .methodLink RX1 109 yX0_shadeAt, .instanceMethod yX0_shadeAt, .selects RX0 yX0_shadeAt yX0_shadeAt, .initialized RX0, .code yX0_shadeAt cX0_shadeAt 5 (some .int), .methodLink RX0 18 yX0_leafRow, .instanceMethod yX0_leafRow, .selects RX0 yX0_leafRow yX0_leafRow, .code yX0_leafRow cX0_leafRow 2 (some .int), .fieldLink RX0 9 "VineWall$Wall" "leafRows" "[I"] ++ wsX10 ++ wsX00 ++ (vx_atS RX1 154 "java/lang/IndexOutOfBoundsException" ["java/lang/RuntimeException", "java/lang/Exception"]).filter goodWord)
def wsX1_holdersOf_r1 : List Cond := [Cond.fieldLink RX1 10 "VineWall" "wall" "LVineWall$Wall;", Cond.fieldLink RX1 33 "VineWall" "beyond" "I", Cond.methodLink RX1 79 yX1_requireCell, Cond.static yX1_requireCell, Cond.initialized RX1, Cond.code yX1_requireCell cX1_requireCell 2 none, Cond.classLink RX1 150 "java/lang/IndexOutOfBoundsException", Cond.initialized "java/lang/IndexOutOfBoundsException", Cond.methodLink RX1 155 yX1_isCell, Cond.static yX1_isCell, Cond.code yX1_isCell cX1_isCell 2 (some .boolean), Cond.methodLink RX1 113 yX0_holdersAt, Cond.instanceMethod yX0_holdersAt, Cond.selects RX0 yX0_holdersAt yX0_holdersAt, Cond.initialized RX0, Cond.code yX0_holdersAt cX0_holdersAt 4 (some .int), Cond.methodLink RX0 36 yX0_leafRowAsSeen, Cond.instanceMethod yX0_leafRowAsSeen, Cond.selects RX0 yX0_leafRowAsSeen yX0_leafRowAsSeen, Cond.code yX0_leafRowAsSeen cX0_leafRowAsSeen 7 (some .int), Cond.methodLink RX0 18 yX0_leafRow, Cond.instanceMethod yX0_leafRow, Cond.selects RX0 yX0_leafRow yX0_leafRow, Cond.code yX0_leafRow cX0_leafRow 2 (some .int)]
def wsX1_holdersOf_r2 : List Cond := [Cond.fieldLink RX0 9 "VineWall$Wall" "leafRows" "[I", Cond.methodLink RX0 40 yX0_countHolders, Cond.static yX0_countHolders, Cond.code yX0_countHolders cX0_countHolders 1 (some .int), Cond.methodLink RX0 50 yJ6_bitCount_0f7a4, Cond.static yJ6_bitCount_0f7a4, Cond.initialized RJ6, Cond.code yJ6_bitCount_0f7a4 cJ6_bitCount_0f7a4 1 (some .int), Cond.constant RJ6 265 (1431655765), Cond.constant RJ6 266 (858993459), Cond.constant RJ6 267 (252645135)]
def wsX1_holdersOf : List Cond := .code yX1_holdersOf cX1_holdersOf 3 (some .int) :: ((wsX1_holdersOf_r1 ++ wsX1_holdersOf_r2) ++ wsX10 ++ wsX00 ++ (vx_atS RX1 154 "java/lang/IndexOutOfBoundsException" ["java/lang/RuntimeException", "java/lang/Exception"]).filter goodWord)
def wsX1_neighboursOf_r1 : List Cond := [Cond.fieldLink RX1 10 "VineWall" "wall" "LVineWall$Wall;", Cond.fieldLink RX1 33 "VineWall" "beyond" "I", Cond.methodLink RX1 79 yX1_requireCell, Cond.static yX1_requireCell, Cond.initialized RX1, Cond.code yX1_requireCell cX1_requireCell 2 none, Cond.classLink RX1 150 "java/lang/IndexOutOfBoundsException", Cond.initialized "java/lang/IndexOutOfBoundsException", Cond.methodLink RX1 155 yX1_isCell, Cond.static yX1_isCell, Cond.code yX1_isCell cX1_isCell 2 (some .boolean), Cond.methodLink RX1 117 yX0_neighboursAt, Cond.instanceMethod yX0_neighboursAt, Cond.selects RX0 yX0_neighboursAt yX0_neighboursAt, Cond.initialized RX0, Cond.code yX0_neighboursAt cX0_neighboursAt 4 (some .int), Cond.methodLink RX0 36 yX0_leafRowAsSeen, Cond.instanceMethod yX0_leafRowAsSeen, Cond.selects RX0 yX0_leafRowAsSeen yX0_leafRowAsSeen, Cond.code yX0_leafRowAsSeen cX0_leafRowAsSeen 7 (some .int), Cond.methodLink RX0 18 yX0_leafRow, Cond.instanceMethod yX0_leafRow, Cond.selects RX0 yX0_leafRow yX0_leafRow, Cond.code yX0_leafRow cX0_leafRow 2 (some .int)]
def wsX1_neighboursOf_r2 : List Cond := [Cond.fieldLink RX0 9 "VineWall$Wall" "leafRows" "[I", Cond.methodLink RX0 43 yX0_countNeighbours, Cond.static yX0_countNeighbours, Cond.code yX0_countNeighbours cX0_countNeighbours 3 (some .int), Cond.methodLink RX0 50 yJ6_bitCount_0f7a4, Cond.static yJ6_bitCount_0f7a4, Cond.initialized RJ6, Cond.code yJ6_bitCount_0f7a4 cJ6_bitCount_0f7a4 1 (some .int), Cond.constant RJ6 265 (1431655765), Cond.constant RJ6 266 (858993459), Cond.constant RJ6 267 (252645135)]
def wsX1_neighboursOf : List Cond := .code yX1_neighboursOf cX1_neighboursOf 3 (some .int) :: ((wsX1_neighboursOf_r1 ++ wsX1_neighboursOf_r2) ++ wsX10 ++ wsX00 ++ (vx_atS RX1 154 "java/lang/IndexOutOfBoundsException" ["java/lang/RuntimeException", "java/lang/Exception"]).filter goodWord)
def wsX1_leavesIn : List Cond := .code yX1_leavesIn cX1_leavesIn 2 (some .int) :: ([.fieldLink RX1 10 "VineWall" "wall" "LVineWall$Wall;", .methodLink RX1 61 yX1_requireColumn, .static yX1_requireColumn, .initialized RX1, .code yX1_requireColumn cX1_requireColumn 1 none, .classLink RX1 150 "java/lang/IndexOutOfBoundsException", .initialized "java/lang/IndexOutOfBoundsException", .methodLink RX1 120 yX0_countInColumn, .instanceMethod yX0_countInColumn, .selects RX0 yX0_countInColumn yX0_countInColumn, .initialized RX0, .code yX0_countInColumn cX0_countInColumn 2 (some .int), .methodLink RX0 47 yX0_shadeAt, .instanceMethod yX0_shadeAt, .selects RX0 yX0_shadeAt yX0_shadeAt, .code yX0_shadeAt cX0_shadeAt 5 (some .int), .methodLink RX0 18 yX0_leafRow, .instanceMethod yX0_leafRow, .selects RX0 yX0_leafRow yX0_leafRow, .code yX0_leafRow cX0_leafRow 2 (some .int), .fieldLink RX0 9 "VineWall$Wall" "leafRows" "[I"] ++ wsX10 ++ wsX00 ++ (vx_atS RX1 154 "java/lang/IndexOutOfBoundsException" ["java/lang/RuntimeException", "java/lang/Exception"]).filter goodWord)
def wsX1_lit : List Cond := .code yX1_lit cX1_lit 1 (some .int) :: ([.fieldLink RX1 10 "VineWall" "wall" "LVineWall$Wall;", .methodLink RX1 127 yX0_countLit, .instanceMethod yX0_countLit, .selects RX0 yX0_countLit yX0_countLit, .initialized RX0, .code yX0_countLit cX0_countLit 3 (some .int), .fieldLink RX0 9 "VineWall$Wall" "leafRows" "[I", .methodLink RX0 50 yJ6_bitCount_0f7a4, .static yJ6_bitCount_0f7a4, .initialized RJ6, .code yJ6_bitCount_0f7a4 cJ6_bitCount_0f7a4 1 (some .int), .constant RJ6 265 (1431655765), .constant RJ6 266 (858993459), .constant RJ6 267 (252645135)] ++ wsX10 ++ wsX00)
def wsX1_generation : List Cond := .code yX1_generation cX1_generation 1 (some .int) :: ([.fieldLink RX1 43 "VineWall" "generationsGone" "I"] ++ wsX10)
def wsX1_broken : List Cond := .code yX1_broken cX1_broken 1 (some .int) :: ([.fieldLink RX1 46 "VineWall" "fallen" "I"] ++ wsX10)
def wsX1_leavesNext_r1 : List Cond := [Cond.fieldLink RX1 19 "VineWall" "behind" "LVineWall$Wall;", Cond.fieldLink RX1 10 "VineWall" "wall" "LVineWall$Wall;", Cond.fieldLink RX1 33 "VineWall" "beyond" "I", Cond.fieldLink RX1 29 "VineWall" "bearings" "[I", Cond.methodLink RX1 101 yX0_becomeNextOf, Cond.instanceMethod yX0_becomeNextOf, Cond.selects RX0 yX0_becomeNextOf yX0_becomeNextOf, Cond.initialized RX0, Cond.code yX0_becomeNextOf cX0_becomeNextOf 6 (some .int), Cond.fieldLink RX0 9 "VineWall$Wall" "leafRows" "[I", Cond.fieldLink RX0 15 "VineWall$Wall" "cutRows" "[I", Cond.methodLink RX0 55 yX0_leafRowNext, Cond.instanceMethod yX0_leafRowNext, Cond.selects RX0 yX0_leafRowNext yX0_leafRowNext, Cond.code yX0_leafRowNext cX0_leafRowNext 10 (some .int), Cond.methodLink RX0 18 yX0_leafRow, Cond.instanceMethod yX0_leafRow, Cond.selects RX0 yX0_leafRow yX0_leafRow, Cond.code yX0_leafRow cX0_leafRow 2 (some .int), Cond.methodLink RX0 36 yX0_leafRowAsSeen, Cond.instanceMethod yX0_leafRowAsSeen, Cond.selects RX0 yX0_leafRowAsSeen yX0_leafRowAsSeen, Cond.code yX0_leafRowAsSeen cX0_leafRowAsSeen 7 (some .int), Cond.methodLink RX0 40 yX0_countHolders]
def wsX1_leavesNext_r2 : List Cond := [Cond.static yX0_countHolders, Cond.code yX0_countHolders cX0_countHolders 1 (some .int), Cond.methodLink RX0 50 yJ6_bitCount_0f7a4, Cond.static yJ6_bitCount_0f7a4, Cond.initialized RJ6, Cond.code yJ6_bitCount_0f7a4 cJ6_bitCount_0f7a4 1 (some .int), Cond.constant RJ6 265 (1431655765), Cond.constant RJ6 266 (858993459), Cond.constant RJ6 267 (252645135), Cond.methodLink RX0 43 yX0_countNeighbours, Cond.static yX0_countNeighbours, Cond.code yX0_countNeighbours cX0_countNeighbours 3 (some .int), Cond.methodLink RX0 64 yX0_bearsLeafNext, Cond.instanceMethod yX0_bearsLeafNext, Cond.selects RX0 yX0_bearsLeafNext yX0_bearsLeafNext, Cond.code yX0_bearsLeafNext cX0_bearsLeafNext 6 (some .boolean), Cond.methodLink RX0 26 yX0_hasCutAt, Cond.instanceMethod yX0_hasCutAt, Cond.selects RX0 yX0_hasCutAt yX0_hasCutAt, Cond.code yX0_hasCutAt cX0_hasCutAt 3 (some .boolean), Cond.methodLink RX0 47 yX0_shadeAt, Cond.instanceMethod yX0_shadeAt, Cond.selects RX0 yX0_shadeAt yX0_shadeAt, Cond.code yX0_shadeAt cX0_shadeAt 5 (some .int)]
def wsX1_leavesNext_r3 : List Cond := [Cond.methodLink RX0 22 yX0_hasLeafAt, Cond.instanceMethod yX0_hasLeafAt, Cond.selects RX0 yX0_hasLeafAt yX0_hasLeafAt, Cond.code yX0_hasLeafAt cX0_hasLeafAt 3 (some .boolean), Cond.methodLink RX0 58 yX0_countInColumn, Cond.instanceMethod yX0_countInColumn, Cond.selects RX0 yX0_countInColumn yX0_countInColumn, Cond.code yX0_countInColumn cX0_countInColumn 2 (some .int), Cond.methodLink RX0 61 yX0_takeTopmost, Cond.instanceMethod yX0_takeTopmost, Cond.selects RX0 yX0_takeTopmost yX0_takeTopmost, Cond.code yX0_takeTopmost cX0_takeTopmost 5 (some .int), Cond.methodLink RX0 32 yX0_takeLeaf, Cond.instanceMethod yX0_takeLeaf, Cond.selects RX0 yX0_takeLeaf yX0_takeLeaf, Cond.code yX0_takeLeaf cX0_takeLeaf 3 none, Cond.static yX1_isCell, Cond.initialized RX1, Cond.code yX1_isCell cX1_isCell 2 (some .boolean), Cond.methodLink RX1 124 yX0_countLeaves, Cond.instanceMethod yX0_countLeaves, Cond.selects RX0 yX0_countLeaves yX0_countLeaves, Cond.code yX0_countLeaves cX0_countLeaves 3 (some .int)]
def wsX1_leavesNext : List Cond := .code yX1_leavesNext cX1_leavesNext 1 (some .int) :: ((wsX1_leavesNext_r1 ++ (wsX1_leavesNext_r2 ++ wsX1_leavesNext_r3)) ++ wsX10 ++ wsX00)
def wsX1_remember : List Cond := .code yX1_remember cX1_remember 2 none :: ([.fieldLink RX1 22 "VineWall" "lowerHalves" "[J", .fieldLink RX1 16 "VineWall" "trial" "LVineWall$Wall;", .fieldLink RX1 26 "VineWall" "upperHalves" "[J", .methodLink RX1 146 yX0_leavesOfHalf, .instanceMethod yX0_leavesOfHalf, .selects RX0 yX0_leavesOfHalf yX0_leavesOfHalf, .initialized RX0, .code yX0_leavesOfHalf cX0_leavesOfHalf 5 (some .long), .methodLink RX0 18 yX0_leafRow, .instanceMethod yX0_leafRow, .selects RX0 yX0_leafRow yX0_leafRow, .code yX0_leafRow cX0_leafRow 2 (some .int), .fieldLink RX0 9 "VineWall$Wall" "leafRows" "[I"] ++ wsX10 ++ wsX00)
def wsX1_looksAsBefore : List Cond := .code yX1_looksAsBefore cX1_looksAsBefore 4 (some .boolean) :: ([.fieldLink RX1 22 "VineWall" "lowerHalves" "[J", .fieldLink RX1 26 "VineWall" "upperHalves" "[J"] ++ wsX10)
def wsX1_repeatsIn_r1 : List Cond := [Cond.fieldLink RX1 10 "VineWall" "wall" "LVineWall$Wall;", Cond.fieldLink RX1 16 "VineWall" "trial" "LVineWall$Wall;", Cond.fieldLink RX1 19 "VineWall" "behind" "LVineWall$Wall;", Cond.fieldLink RX1 33 "VineWall" "beyond" "I", Cond.fieldLink RX1 29 "VineWall" "bearings" "[I", Cond.methodLink RX1 130 yX0_hasCuts, Cond.instanceMethod yX0_hasCuts, Cond.selects RX0 yX0_hasCuts yX0_hasCuts, Cond.initialized RX0, Cond.code yX0_hasCuts cX0_hasCuts 3 (some .boolean), Cond.fieldLink RX0 15 "VineWall$Wall" "cutRows" "[I", Cond.methodLink RX1 105 yX0_copyFrom, Cond.instanceMethod yX0_copyFrom, Cond.selects RX0 yX0_copyFrom yX0_copyFrom, Cond.code yX0_copyFrom cX0_copyFrom 3 none, Cond.fieldLink RX0 9 "VineWall$Wall" "leafRows" "[I", Cond.methodLink RX1 134 yX1_remember, Cond.instanceMethod yX1_remember, Cond.selects RX1 yX1_remember yX1_remember, Cond.initialized RX1, Cond.code yX1_remember cX1_remember 2 none, Cond.fieldLink RX1 22 "VineWall" "lowerHalves" "[J", Cond.fieldLink RX1 26 "VineWall" "upperHalves" "[J", Cond.methodLink RX1 146 yX0_leavesOfHalf]
def wsX1_repeatsIn_r2 : List Cond := [Cond.instanceMethod yX0_leavesOfHalf, Cond.selects RX0 yX0_leavesOfHalf yX0_leavesOfHalf, Cond.code yX0_leavesOfHalf cX0_leavesOfHalf 5 (some .long), Cond.methodLink RX0 18 yX0_leafRow, Cond.instanceMethod yX0_leafRow, Cond.selects RX0 yX0_leafRow yX0_leafRow, Cond.code yX0_leafRow cX0_leafRow 2 (some .int), Cond.methodLink RX1 101 yX0_becomeNextOf, Cond.instanceMethod yX0_becomeNextOf, Cond.selects RX0 yX0_becomeNextOf yX0_becomeNextOf, Cond.code yX0_becomeNextOf cX0_becomeNextOf 6 (some .int), Cond.methodLink RX0 55 yX0_leafRowNext, Cond.instanceMethod yX0_leafRowNext, Cond.selects RX0 yX0_leafRowNext yX0_leafRowNext, Cond.code yX0_leafRowNext cX0_leafRowNext 10 (some .int), Cond.methodLink RX0 36 yX0_leafRowAsSeen, Cond.instanceMethod yX0_leafRowAsSeen, Cond.selects RX0 yX0_leafRowAsSeen yX0_leafRowAsSeen, Cond.code yX0_leafRowAsSeen cX0_leafRowAsSeen 7 (some .int), Cond.methodLink RX0 40 yX0_countHolders, Cond.static yX0_countHolders, Cond.code yX0_countHolders cX0_countHolders 1 (some .int), Cond.methodLink RX0 50 yJ6_bitCount_0f7a4, Cond.static yJ6_bitCount_0f7a4]
def wsX1_repeatsIn_r3 : List Cond := [Cond.initialized RJ6, Cond.code yJ6_bitCount_0f7a4 cJ6_bitCount_0f7a4 1 (some .int), Cond.constant RJ6 265 (1431655765), Cond.constant RJ6 266 (858993459), Cond.constant RJ6 267 (252645135), Cond.methodLink RX0 43 yX0_countNeighbours, Cond.static yX0_countNeighbours, Cond.code yX0_countNeighbours cX0_countNeighbours 3 (some .int), Cond.methodLink RX0 64 yX0_bearsLeafNext, Cond.instanceMethod yX0_bearsLeafNext, Cond.selects RX0 yX0_bearsLeafNext yX0_bearsLeafNext, Cond.code yX0_bearsLeafNext cX0_bearsLeafNext 6 (some .boolean), Cond.methodLink RX0 26 yX0_hasCutAt, Cond.instanceMethod yX0_hasCutAt, Cond.selects RX0 yX0_hasCutAt yX0_hasCutAt, Cond.code yX0_hasCutAt cX0_hasCutAt 3 (some .boolean), Cond.methodLink RX0 47 yX0_shadeAt, Cond.instanceMethod yX0_shadeAt, Cond.selects RX0 yX0_shadeAt yX0_shadeAt, Cond.code yX0_shadeAt cX0_shadeAt 5 (some .int), Cond.methodLink RX0 22 yX0_hasLeafAt, Cond.instanceMethod yX0_hasLeafAt, Cond.selects RX0 yX0_hasLeafAt yX0_hasLeafAt, Cond.code yX0_hasLeafAt cX0_hasLeafAt 3 (some .boolean)]
def wsX1_repeatsIn_r4 : List Cond := [Cond.methodLink RX0 58 yX0_countInColumn, Cond.instanceMethod yX0_countInColumn, Cond.selects RX0 yX0_countInColumn yX0_countInColumn, Cond.code yX0_countInColumn cX0_countInColumn 2 (some .int), Cond.methodLink RX0 61 yX0_takeTopmost, Cond.instanceMethod yX0_takeTopmost, Cond.selects RX0 yX0_takeTopmost yX0_takeTopmost, Cond.code yX0_takeTopmost cX0_takeTopmost 5 (some .int), Cond.methodLink RX0 32 yX0_takeLeaf, Cond.instanceMethod yX0_takeLeaf, Cond.selects RX0 yX0_takeLeaf yX0_takeLeaf, Cond.code yX0_takeLeaf cX0_takeLeaf 3 none, Cond.static yX1_isCell, Cond.code yX1_isCell cX1_isCell 2 (some .boolean), Cond.methodLink RX1 137 yX1_looksAsBefore, Cond.instanceMethod yX1_looksAsBefore, Cond.selects RX1 yX1_looksAsBefore yX1_looksAsBefore, Cond.code yX1_looksAsBefore cX1_looksAsBefore 4 (some .boolean)]
def wsX1_repeatsIn : List Cond := .code yX1_repeatsIn cX1_repeatsIn 3 (some .int) :: ((wsX1_repeatsIn_r1 ++ (wsX1_repeatsIn_r2 ++ (wsX1_repeatsIn_r3 ++ wsX1_repeatsIn_r4))) ++ wsX10 ++ wsX00)
def wsX1_litBehindCut_r1 : List Cond := [Cond.fieldLink RX1 16 "VineWall" "trial" "LVineWall$Wall;", Cond.fieldLink RX1 10 "VineWall" "wall" "LVineWall$Wall;", Cond.fieldLink RX1 19 "VineWall" "behind" "LVineWall$Wall;", Cond.fieldLink RX1 33 "VineWall" "beyond" "I", Cond.fieldLink RX1 29 "VineWall" "bearings" "[I", Cond.methodLink RX1 105 yX0_copyFrom, Cond.instanceMethod yX0_copyFrom, Cond.selects RX0 yX0_copyFrom yX0_copyFrom, Cond.initialized RX0, Cond.code yX0_copyFrom cX0_copyFrom 3 none, Cond.fieldLink RX0 9 "VineWall$Wall" "leafRows" "[I", Cond.fieldLink RX0 15 "VineWall$Wall" "cutRows" "[I", Cond.methodLink RX1 93 yX0_cutLeaf, Cond.instanceMethod yX0_cutLeaf, Cond.selects RX0 yX0_cutLeaf yX0_cutLeaf, Cond.code yX0_cutLeaf cX0_cutLeaf 3 none, Cond.methodLink RX0 32 yX0_takeLeaf, Cond.instanceMethod yX0_takeLeaf, Cond.selects RX0 yX0_takeLeaf yX0_takeLeaf, Cond.code yX0_takeLeaf cX0_takeLeaf 3 none, Cond.static yX1_isCell, Cond.initialized RX1, Cond.code yX1_isCell cX1_isCell 2 (some .boolean), Cond.methodLink RX1 101 yX0_becomeNextOf]
def wsX1_litBehindCut_r2 : List Cond := [Cond.instanceMethod yX0_becomeNextOf, Cond.selects RX0 yX0_becomeNextOf yX0_becomeNextOf, Cond.code yX0_becomeNextOf cX0_becomeNextOf 6 (some .int), Cond.methodLink RX0 55 yX0_leafRowNext, Cond.instanceMethod yX0_leafRowNext, Cond.selects RX0 yX0_leafRowNext yX0_leafRowNext, Cond.code yX0_leafRowNext cX0_leafRowNext 10 (some .int), Cond.methodLink RX0 18 yX0_leafRow, Cond.instanceMethod yX0_leafRow, Cond.selects RX0 yX0_leafRow yX0_leafRow, Cond.code yX0_leafRow cX0_leafRow 2 (some .int), Cond.methodLink RX0 36 yX0_leafRowAsSeen, Cond.instanceMethod yX0_leafRowAsSeen, Cond.selects RX0 yX0_leafRowAsSeen yX0_leafRowAsSeen, Cond.code yX0_leafRowAsSeen cX0_leafRowAsSeen 7 (some .int), Cond.methodLink RX0 40 yX0_countHolders, Cond.static yX0_countHolders, Cond.code yX0_countHolders cX0_countHolders 1 (some .int), Cond.methodLink RX0 50 yJ6_bitCount_0f7a4, Cond.static yJ6_bitCount_0f7a4, Cond.initialized RJ6, Cond.code yJ6_bitCount_0f7a4 cJ6_bitCount_0f7a4 1 (some .int), Cond.constant RJ6 265 (1431655765), Cond.constant RJ6 266 (858993459)]
def wsX1_litBehindCut_r3 : List Cond := [Cond.constant RJ6 267 (252645135), Cond.methodLink RX0 43 yX0_countNeighbours, Cond.static yX0_countNeighbours, Cond.code yX0_countNeighbours cX0_countNeighbours 3 (some .int), Cond.methodLink RX0 64 yX0_bearsLeafNext, Cond.instanceMethod yX0_bearsLeafNext, Cond.selects RX0 yX0_bearsLeafNext yX0_bearsLeafNext, Cond.code yX0_bearsLeafNext cX0_bearsLeafNext 6 (some .boolean), Cond.methodLink RX0 26 yX0_hasCutAt, Cond.instanceMethod yX0_hasCutAt, Cond.selects RX0 yX0_hasCutAt yX0_hasCutAt, Cond.code yX0_hasCutAt cX0_hasCutAt 3 (some .boolean), Cond.methodLink RX0 47 yX0_shadeAt, Cond.instanceMethod yX0_shadeAt, Cond.selects RX0 yX0_shadeAt yX0_shadeAt, Cond.code yX0_shadeAt cX0_shadeAt 5 (some .int), Cond.methodLink RX0 22 yX0_hasLeafAt, Cond.instanceMethod yX0_hasLeafAt, Cond.selects RX0 yX0_hasLeafAt yX0_hasLeafAt, Cond.code yX0_hasLeafAt cX0_hasLeafAt 3 (some .boolean), Cond.methodLink RX0 58 yX0_countInColumn, Cond.instanceMethod yX0_countInColumn, Cond.selects RX0 yX0_countInColumn yX0_countInColumn, Cond.code yX0_countInColumn cX0_countInColumn 2 (some .int)]
def wsX1_litBehindCut_r4 : List Cond := [Cond.methodLink RX0 61 yX0_takeTopmost, Cond.instanceMethod yX0_takeTopmost, Cond.selects RX0 yX0_takeTopmost yX0_takeTopmost, Cond.code yX0_takeTopmost cX0_takeTopmost 5 (some .int), Cond.methodLink RX1 127 yX0_countLit, Cond.instanceMethod yX0_countLit, Cond.selects RX0 yX0_countLit yX0_countLit, Cond.code yX0_countLit cX0_countLit 3 (some .int)]
def wsX1_litBehindCut : List Cond := .code yX1_litBehindCut cX1_litBehindCut 3 (some .int) :: ((wsX1_litBehindCut_r1 ++ (wsX1_litBehindCut_r2 ++ (wsX1_litBehindCut_r3 ++ wsX1_litBehindCut_r4))) ++ wsX10 ++ wsX00)
def wsX1_bestCut_r1 : List Cond := [Cond.fieldLink RX1 10 "VineWall" "wall" "LVineWall$Wall;", Cond.methodLink RX1 82 yX0_hasLeafAt, Cond.instanceMethod yX0_hasLeafAt, Cond.selects RX0 yX0_hasLeafAt yX0_hasLeafAt, Cond.initialized RX0, Cond.code yX0_hasLeafAt cX0_hasLeafAt 3 (some .boolean), Cond.methodLink RX0 18 yX0_leafRow, Cond.instanceMethod yX0_leafRow, Cond.selects RX0 yX0_leafRow yX0_leafRow, Cond.code yX0_leafRow cX0_leafRow 2 (some .int), Cond.fieldLink RX0 9 "VineWall$Wall" "leafRows" "[I", Cond.methodLink RX1 140 yX1_litBehindCut, Cond.instanceMethod yX1_litBehindCut, Cond.selects RX1 yX1_litBehindCut yX1_litBehindCut, Cond.initialized RX1, Cond.code yX1_litBehindCut cX1_litBehindCut 3 (some .int), Cond.fieldLink RX1 16 "VineWall" "trial" "LVineWall$Wall;", Cond.fieldLink RX1 19 "VineWall" "behind" "LVineWall$Wall;", Cond.fieldLink RX1 33 "VineWall" "beyond" "I", Cond.fieldLink RX1 29 "VineWall" "bearings" "[I", Cond.methodLink RX1 105 yX0_copyFrom, Cond.instanceMethod yX0_copyFrom, Cond.selects RX0 yX0_copyFrom yX0_copyFrom, Cond.code yX0_copyFrom cX0_copyFrom 3 none]
def wsX1_bestCut_r2 : List Cond := [Cond.fieldLink RX0 15 "VineWall$Wall" "cutRows" "[I", Cond.methodLink RX1 93 yX0_cutLeaf, Cond.instanceMethod yX0_cutLeaf, Cond.selects RX0 yX0_cutLeaf yX0_cutLeaf, Cond.code yX0_cutLeaf cX0_cutLeaf 3 none, Cond.methodLink RX0 32 yX0_takeLeaf, Cond.instanceMethod yX0_takeLeaf, Cond.selects RX0 yX0_takeLeaf yX0_takeLeaf, Cond.code yX0_takeLeaf cX0_takeLeaf 3 none, Cond.static yX1_isCell, Cond.code yX1_isCell cX1_isCell 2 (some .boolean), Cond.methodLink RX1 101 yX0_becomeNextOf, Cond.instanceMethod yX0_becomeNextOf, Cond.selects RX0 yX0_becomeNextOf yX0_becomeNextOf, Cond.code yX0_becomeNextOf cX0_becomeNextOf 6 (some .int), Cond.methodLink RX0 55 yX0_leafRowNext, Cond.instanceMethod yX0_leafRowNext, Cond.selects RX0 yX0_leafRowNext yX0_leafRowNext, Cond.code yX0_leafRowNext cX0_leafRowNext 10 (some .int), Cond.methodLink RX0 36 yX0_leafRowAsSeen, Cond.instanceMethod yX0_leafRowAsSeen, Cond.selects RX0 yX0_leafRowAsSeen yX0_leafRowAsSeen, Cond.code yX0_leafRowAsSeen cX0_leafRowAsSeen 7 (some .int), Cond.methodLink RX0 40 yX0_countHolders]
def wsX1_bestCut_r3 : List Cond := [Cond.static yX0_countHolders, Cond.code yX0_countHolders cX0_countHolders 1 (some .int), Cond.methodLink RX0 50 yJ6_bitCount_0f7a4, Cond.static yJ6_bitCount_0f7a4, Cond.initialized RJ6, Cond.code yJ6_bitCount_0f7a4 cJ6_bitCount_0f7a4 1 (some .int), Cond.constant RJ6 265 (1431655765), Cond.constant RJ6 266 (858993459), Cond.constant RJ6 267 (252645135), Cond.methodLink RX0 43 yX0_countNeighbours, Cond.static yX0_countNeighbours, Cond.code yX0_countNeighbours cX0_countNeighbours 3 (some .int), Cond.methodLink RX0 64 yX0_bearsLeafNext, Cond.instanceMethod yX0_bearsLeafNext, Cond.selects RX0 yX0_bearsLeafNext yX0_bearsLeafNext, Cond.code yX0_bearsLeafNext cX0_bearsLeafNext 6 (some .boolean), Cond.methodLink RX0 26 yX0_hasCutAt, Cond.instanceMethod yX0_hasCutAt, Cond.selects RX0 yX0_hasCutAt yX0_hasCutAt, Cond.code yX0_hasCutAt cX0_hasCutAt 3 (some .boolean), Cond.methodLink RX0 47 yX0_shadeAt, Cond.instanceMethod yX0_shadeAt, Cond.selects RX0 yX0_shadeAt yX0_shadeAt, Cond.code yX0_shadeAt cX0_shadeAt 5 (some .int)]
def wsX1_bestCut_r4 : List Cond := [Cond.methodLink RX0 22 yX0_hasLeafAt, Cond.methodLink RX0 58 yX0_countInColumn, Cond.instanceMethod yX0_countInColumn, Cond.selects RX0 yX0_countInColumn yX0_countInColumn, Cond.code yX0_countInColumn cX0_countInColumn 2 (some .int), Cond.methodLink RX0 61 yX0_takeTopmost, Cond.instanceMethod yX0_takeTopmost, Cond.selects RX0 yX0_takeTopmost yX0_takeTopmost, Cond.code yX0_takeTopmost cX0_takeTopmost 5 (some .int), Cond.methodLink RX1 127 yX0_countLit, Cond.instanceMethod yX0_countLit, Cond.selects RX0 yX0_countLit yX0_countLit, Cond.code yX0_countLit cX0_countLit 3 (some .int)]
def wsX1_bestCut : List Cond := .code yX1_bestCut cX1_bestCut 7 (some .int) :: ((wsX1_bestCut_r1 ++ (wsX1_bestCut_r2 ++ (wsX1_bestCut_r3 ++ wsX1_bestCut_r4))) ++ wsX10 ++ wsX00)
def wsL_drawn : List Cond := .code yL_drawn cL_drawn 4 (some .int) :: ([.constant RL 7 (58757)])
def wsL_cutsAfter_r1 : List Cond := [Cond.classLink RL 14 "java/lang/IllegalStateException", Cond.methodLink RL 8 yX1_cut, Cond.instanceMethod yX1_cut, Cond.selects RX1 yX1_cut yX1_cut, Cond.initialized RX1, Cond.code yX1_cut cX1_cut 3 (some .int), Cond.classLink RX1 56 "java/lang/IllegalStateException", Cond.initialized "java/lang/IllegalStateException", Cond.fieldLink RX1 10 "VineWall" "wall" "LVineWall$Wall;", Cond.fieldLink RX1 40 "VineWall" "cutsDone" "I", Cond.methodLink RX1 79 yX1_requireCell, Cond.static yX1_requireCell, Cond.code yX1_requireCell cX1_requireCell 2 none, Cond.classLink RX1 150 "java/lang/IndexOutOfBoundsException", Cond.initialized "java/lang/IndexOutOfBoundsException", Cond.methodLink RX1 155 yX1_isCell, Cond.static yX1_isCell, Cond.code yX1_isCell cX1_isCell 2 (some .boolean), Cond.methodLink RX1 82 yX0_hasLeafAt, Cond.instanceMethod yX0_hasLeafAt, Cond.selects RX0 yX0_hasLeafAt yX0_hasLeafAt, Cond.initialized RX0, Cond.code yX0_hasLeafAt cX0_hasLeafAt 3 (some .boolean), Cond.methodLink RX0 18 yX0_leafRow]
def wsL_cutsAfter_r2 : List Cond := [Cond.instanceMethod yX0_leafRow, Cond.selects RX0 yX0_leafRow yX0_leafRow, Cond.code yX0_leafRow cX0_leafRow 2 (some .int), Cond.fieldLink RX0 9 "VineWall$Wall" "leafRows" "[I", Cond.methodLink RX1 87 yX1_cutsLeft, Cond.instanceMethod yX1_cutsLeft, Cond.selects RX1 yX1_cutsLeft yX1_cutsLeft, Cond.code yX1_cutsLeft cX1_cutsLeft 1 (some .int), Cond.methodLink RX1 93 yX0_cutLeaf, Cond.instanceMethod yX0_cutLeaf, Cond.selects RX0 yX0_cutLeaf yX0_cutLeaf, Cond.code yX0_cutLeaf cX0_cutLeaf 3 none, Cond.fieldLink RX0 15 "VineWall$Wall" "cutRows" "[I", Cond.methodLink RX0 32 yX0_takeLeaf, Cond.instanceMethod yX0_takeLeaf, Cond.selects RX0 yX0_takeLeaf yX0_takeLeaf, Cond.code yX0_takeLeaf cX0_takeLeaf 3 none]
def wsL_cutsAfter : List Cond := .codeWith yL_cutsAfter cL_cutsAfter 4 (some .int) [(0, 6, 7, 14)] :: ((wsL_cutsAfter_r1 ++ wsL_cutsAfter_r2) ++ wsX10 ++ wsX00 ++ (vx_atS RX1 60 "java/lang/IllegalStateException" ["java/lang/RuntimeException", "java/lang/Exception"]).filter goodWord ++ (vx_atS RX1 154 "java/lang/IndexOutOfBoundsException" ["java/lang/RuntimeException", "java/lang/Exception"]).filter goodWord)
def wsL_grownBy_r1 : List Cond := [Cond.classLink RL 14 "java/lang/IllegalStateException", Cond.methodLink RL 16 yX1_grow, Cond.instanceMethod yX1_grow, Cond.selects RX1 yX1_grow yX1_grow, Cond.initialized RX1, Cond.code yX1_grow cX1_grow 2 (some .int), Cond.classLink RX1 56 "java/lang/IllegalStateException", Cond.initialized "java/lang/IllegalStateException", Cond.fieldLink RX1 43 "VineWall" "generationsGone" "I", Cond.fieldLink RX1 46 "VineWall" "fallen" "I", Cond.fieldLink RX1 19 "VineWall" "behind" "LVineWall$Wall;", Cond.fieldLink RX1 10 "VineWall" "wall" "LVineWall$Wall;", Cond.fieldLink RX1 33 "VineWall" "beyond" "I", Cond.fieldLink RX1 29 "VineWall" "bearings" "[I", Cond.fieldLink RX1 40 "VineWall" "cutsDone" "I", Cond.methodLink RX1 98 yX1_leaves, Cond.instanceMethod yX1_leaves, Cond.selects RX1 yX1_leaves yX1_leaves, Cond.code yX1_leaves cX1_leaves 1 (some .int), Cond.methodLink RX1 124 yX0_countLeaves, Cond.instanceMethod yX0_countLeaves, Cond.selects RX0 yX0_countLeaves yX0_countLeaves, Cond.initialized RX0, Cond.code yX0_countLeaves cX0_countLeaves 3 (some .int)]
def wsL_grownBy_r2 : List Cond := [Cond.fieldLink RX0 9 "VineWall$Wall" "leafRows" "[I", Cond.methodLink RX0 50 yJ6_bitCount_0f7a4, Cond.static yJ6_bitCount_0f7a4, Cond.initialized RJ6, Cond.code yJ6_bitCount_0f7a4 cJ6_bitCount_0f7a4 1 (some .int), Cond.constant RJ6 265 (1431655765), Cond.constant RJ6 266 (858993459), Cond.constant RJ6 267 (252645135), Cond.methodLink RX1 101 yX0_becomeNextOf, Cond.instanceMethod yX0_becomeNextOf, Cond.selects RX0 yX0_becomeNextOf yX0_becomeNextOf, Cond.code yX0_becomeNextOf cX0_becomeNextOf 6 (some .int), Cond.fieldLink RX0 15 "VineWall$Wall" "cutRows" "[I", Cond.methodLink RX0 55 yX0_leafRowNext, Cond.instanceMethod yX0_leafRowNext, Cond.selects RX0 yX0_leafRowNext yX0_leafRowNext, Cond.code yX0_leafRowNext cX0_leafRowNext 10 (some .int), Cond.methodLink RX0 18 yX0_leafRow, Cond.instanceMethod yX0_leafRow, Cond.selects RX0 yX0_leafRow yX0_leafRow, Cond.code yX0_leafRow cX0_leafRow 2 (some .int), Cond.methodLink RX0 36 yX0_leafRowAsSeen, Cond.instanceMethod yX0_leafRowAsSeen, Cond.selects RX0 yX0_leafRowAsSeen yX0_leafRowAsSeen]
def wsL_grownBy_r3 : List Cond := [Cond.code yX0_leafRowAsSeen cX0_leafRowAsSeen 7 (some .int), Cond.methodLink RX0 40 yX0_countHolders, Cond.static yX0_countHolders, Cond.code yX0_countHolders cX0_countHolders 1 (some .int), Cond.methodLink RX0 43 yX0_countNeighbours, Cond.static yX0_countNeighbours, Cond.code yX0_countNeighbours cX0_countNeighbours 3 (some .int), Cond.methodLink RX0 64 yX0_bearsLeafNext, Cond.instanceMethod yX0_bearsLeafNext, Cond.selects RX0 yX0_bearsLeafNext yX0_bearsLeafNext, Cond.code yX0_bearsLeafNext cX0_bearsLeafNext 6 (some .boolean), Cond.methodLink RX0 26 yX0_hasCutAt, Cond.instanceMethod yX0_hasCutAt, Cond.selects RX0 yX0_hasCutAt yX0_hasCutAt, Cond.code yX0_hasCutAt cX0_hasCutAt 3 (some .boolean), Cond.methodLink RX0 47 yX0_shadeAt, Cond.instanceMethod yX0_shadeAt, Cond.selects RX0 yX0_shadeAt yX0_shadeAt, Cond.code yX0_shadeAt cX0_shadeAt 5 (some .int), Cond.methodLink RX0 22 yX0_hasLeafAt, Cond.instanceMethod yX0_hasLeafAt, Cond.selects RX0 yX0_hasLeafAt yX0_hasLeafAt, Cond.code yX0_hasLeafAt cX0_hasLeafAt 3 (some .boolean), Cond.methodLink RX0 58 yX0_countInColumn]
def wsL_grownBy_r4 : List Cond := [Cond.instanceMethod yX0_countInColumn, Cond.selects RX0 yX0_countInColumn yX0_countInColumn, Cond.code yX0_countInColumn cX0_countInColumn 2 (some .int), Cond.methodLink RX0 61 yX0_takeTopmost, Cond.instanceMethod yX0_takeTopmost, Cond.selects RX0 yX0_takeTopmost yX0_takeTopmost, Cond.code yX0_takeTopmost cX0_takeTopmost 5 (some .int), Cond.methodLink RX0 32 yX0_takeLeaf, Cond.instanceMethod yX0_takeLeaf, Cond.selects RX0 yX0_takeLeaf yX0_takeLeaf, Cond.code yX0_takeLeaf cX0_takeLeaf 3 none, Cond.static yX1_isCell, Cond.code yX1_isCell cX1_isCell 2 (some .boolean), Cond.methodLink RX1 105 yX0_copyFrom, Cond.instanceMethod yX0_copyFrom, Cond.selects RX0 yX0_copyFrom yX0_copyFrom, Cond.code yX0_copyFrom cX0_copyFrom 3 none]
def wsL_grownBy : List Cond := .codeWith yL_grownBy cL_grownBy 2 (some .int) [(0, 4, 5, 14)] :: ((wsL_grownBy_r1 ++ (wsL_grownBy_r2 ++ (wsL_grownBy_r3 ++ wsL_grownBy_r4))) ++ wsX10 ++ wsX00 ++ (vx_atS RX1 60 "java/lang/IllegalStateException" ["java/lang/RuntimeException", "java/lang/Exception"]).filter goodWord)
def wsL_areMirrored_r1 : List Cond := [Cond.methodLink RL 20 yX1_leaves, Cond.instanceMethod yX1_leaves, Cond.selects RX1 yX1_leaves yX1_leaves, Cond.initialized RX1, Cond.code yX1_leaves cX1_leaves 1 (some .int), Cond.fieldLink RX1 10 "VineWall" "wall" "LVineWall$Wall;", Cond.methodLink RX1 124 yX0_countLeaves, Cond.instanceMethod yX0_countLeaves, Cond.selects RX0 yX0_countLeaves yX0_countLeaves, Cond.initialized RX0, Cond.code yX0_countLeaves cX0_countLeaves 3 (some .int), Cond.fieldLink RX0 9 "VineWall$Wall" "leafRows" "[I", Cond.methodLink RX0 50 yJ6_bitCount_0f7a4, Cond.static yJ6_bitCount_0f7a4, Cond.initialized RJ6, Cond.code yJ6_bitCount_0f7a4 cJ6_bitCount_0f7a4 1 (some .int), Cond.constant RJ6 265 (1431655765), Cond.constant RJ6 266 (858993459), Cond.constant RJ6 267 (252645135), Cond.methodLink RL 23 yX1_lit, Cond.instanceMethod yX1_lit, Cond.selects RX1 yX1_lit yX1_lit, Cond.code yX1_lit cX1_lit 1 (some .int), Cond.methodLink RX1 127 yX0_countLit]
def wsL_areMirrored_r2 : List Cond := [Cond.instanceMethod yX0_countLit, Cond.selects RX0 yX0_countLit yX0_countLit, Cond.code yX0_countLit cX0_countLit 3 (some .int), Cond.methodLink RL 26 yX1_generation, Cond.instanceMethod yX1_generation, Cond.selects RX1 yX1_generation yX1_generation, Cond.code yX1_generation cX1_generation 1 (some .int), Cond.fieldLink RX1 43 "VineWall" "generationsGone" "I", Cond.methodLink RL 29 yX1_cutsLeft, Cond.instanceMethod yX1_cutsLeft, Cond.selects RX1 yX1_cutsLeft yX1_cutsLeft, Cond.code yX1_cutsLeft cX1_cutsLeft 1 (some .int), Cond.fieldLink RX1 40 "VineWall" "cutsDone" "I", Cond.methodLink RL 32 yX1_broken, Cond.instanceMethod yX1_broken, Cond.selects RX1 yX1_broken yX1_broken, Cond.code yX1_broken cX1_broken 1 (some .int), Cond.fieldLink RX1 46 "VineWall" "fallen" "I", Cond.methodLink RL 35 yX1_leavesNext, Cond.instanceMethod yX1_leavesNext, Cond.selects RX1 yX1_leavesNext yX1_leavesNext, Cond.code yX1_leavesNext cX1_leavesNext 1 (some .int), Cond.fieldLink RX1 19 "VineWall" "behind" "LVineWall$Wall;", Cond.fieldLink RX1 33 "VineWall" "beyond" "I"]
def wsL_areMirrored_r3 : List Cond := [Cond.fieldLink RX1 29 "VineWall" "bearings" "[I", Cond.methodLink RX1 101 yX0_becomeNextOf, Cond.instanceMethod yX0_becomeNextOf, Cond.selects RX0 yX0_becomeNextOf yX0_becomeNextOf, Cond.code yX0_becomeNextOf cX0_becomeNextOf 6 (some .int), Cond.fieldLink RX0 15 "VineWall$Wall" "cutRows" "[I", Cond.methodLink RX0 55 yX0_leafRowNext, Cond.instanceMethod yX0_leafRowNext, Cond.selects RX0 yX0_leafRowNext yX0_leafRowNext, Cond.code yX0_leafRowNext cX0_leafRowNext 10 (some .int), Cond.methodLink RX0 18 yX0_leafRow, Cond.instanceMethod yX0_leafRow, Cond.selects RX0 yX0_leafRow yX0_leafRow, Cond.code yX0_leafRow cX0_leafRow 2 (some .int), Cond.methodLink RX0 36 yX0_leafRowAsSeen, Cond.instanceMethod yX0_leafRowAsSeen, Cond.selects RX0 yX0_leafRowAsSeen yX0_leafRowAsSeen, Cond.code yX0_leafRowAsSeen cX0_leafRowAsSeen 7 (some .int), Cond.methodLink RX0 40 yX0_countHolders, Cond.static yX0_countHolders, Cond.code yX0_countHolders cX0_countHolders 1 (some .int), Cond.methodLink RX0 43 yX0_countNeighbours, Cond.static yX0_countNeighbours, Cond.code yX0_countNeighbours cX0_countNeighbours 3 (some .int)]
def wsL_areMirrored_r4 : List Cond := [Cond.methodLink RX0 64 yX0_bearsLeafNext, Cond.instanceMethod yX0_bearsLeafNext, Cond.selects RX0 yX0_bearsLeafNext yX0_bearsLeafNext, Cond.code yX0_bearsLeafNext cX0_bearsLeafNext 6 (some .boolean), Cond.methodLink RX0 26 yX0_hasCutAt, Cond.instanceMethod yX0_hasCutAt, Cond.selects RX0 yX0_hasCutAt yX0_hasCutAt, Cond.code yX0_hasCutAt cX0_hasCutAt 3 (some .boolean), Cond.methodLink RX0 47 yX0_shadeAt, Cond.instanceMethod yX0_shadeAt, Cond.selects RX0 yX0_shadeAt yX0_shadeAt, Cond.code yX0_shadeAt cX0_shadeAt 5 (some .int), Cond.methodLink RX0 22 yX0_hasLeafAt, Cond.instanceMethod yX0_hasLeafAt, Cond.selects RX0 yX0_hasLeafAt yX0_hasLeafAt, Cond.code yX0_hasLeafAt cX0_hasLeafAt 3 (some .boolean), Cond.methodLink RX0 58 yX0_countInColumn, Cond.instanceMethod yX0_countInColumn, Cond.selects RX0 yX0_countInColumn yX0_countInColumn, Cond.code yX0_countInColumn cX0_countInColumn 2 (some .int), Cond.methodLink RX0 61 yX0_takeTopmost, Cond.instanceMethod yX0_takeTopmost, Cond.selects RX0 yX0_takeTopmost yX0_takeTopmost, Cond.code yX0_takeTopmost cX0_takeTopmost 5 (some .int)]
def wsL_areMirrored_r5 : List Cond := [Cond.methodLink RX0 32 yX0_takeLeaf, Cond.instanceMethod yX0_takeLeaf, Cond.selects RX0 yX0_takeLeaf yX0_takeLeaf, Cond.code yX0_takeLeaf cX0_takeLeaf 3 none, Cond.static yX1_isCell, Cond.code yX1_isCell cX1_isCell 2 (some .boolean), Cond.methodLink RL 38 yX1_look, Cond.instanceMethod yX1_look, Cond.selects RX1 yX1_look yX1_look, Cond.code yX1_look cX1_look 3 (some .char), Cond.methodLink RX1 79 yX1_requireCell, Cond.static yX1_requireCell, Cond.code yX1_requireCell cX1_requireCell 2 none, Cond.classLink RX1 150 "java/lang/IndexOutOfBoundsException", Cond.initialized "java/lang/IndexOutOfBoundsException", Cond.methodLink RX1 155 yX1_isCell, Cond.methodLink RX1 82 yX0_hasLeafAt, Cond.methodLink RX1 65 yX0_isBareAt, Cond.instanceMethod yX0_isBareAt, Cond.selects RX0 yX0_isBareAt yX0_isBareAt, Cond.code yX0_isBareAt cX0_isBareAt 3 (some .boolean), Cond.methodLink RL 42 yX1_shadeOf, Cond.instanceMethod yX1_shadeOf, Cond.selects RX1 yX1_shadeOf yX1_shadeOf]
def wsL_areMirrored_r6 : List Cond := [Cond.code yX1_shadeOf cX1_shadeOf 3 (some .int), Cond.methodLink RX1 109 yX0_shadeAt, Cond.methodLink RL 45 yX1_holdersOf, Cond.instanceMethod yX1_holdersOf, Cond.selects RX1 yX1_holdersOf yX1_holdersOf, Cond.code yX1_holdersOf cX1_holdersOf 3 (some .int), Cond.methodLink RX1 113 yX0_holdersAt, Cond.instanceMethod yX0_holdersAt, Cond.selects RX0 yX0_holdersAt yX0_holdersAt, Cond.code yX0_holdersAt cX0_holdersAt 4 (some .int), Cond.methodLink RL 48 yX1_neighboursOf, Cond.instanceMethod yX1_neighboursOf, Cond.selects RX1 yX1_neighboursOf yX1_neighboursOf, Cond.code yX1_neighboursOf cX1_neighboursOf 3 (some .int), Cond.methodLink RX1 117 yX0_neighboursAt, Cond.instanceMethod yX0_neighboursAt, Cond.selects RX0 yX0_neighboursAt yX0_neighboursAt, Cond.code yX0_neighboursAt cX0_neighboursAt 4 (some .int), Cond.methodLink RL 51 yX1_leavesIn, Cond.instanceMethod yX1_leavesIn, Cond.selects RX1 yX1_leavesIn yX1_leavesIn, Cond.code yX1_leavesIn cX1_leavesIn 2 (some .int), Cond.methodLink RX1 61 yX1_requireColumn, Cond.static yX1_requireColumn]
def wsL_areMirrored_r7 : List Cond := [Cond.code yX1_requireColumn cX1_requireColumn 1 none, Cond.methodLink RX1 120 yX0_countInColumn, Cond.methodLink RL 55 yX1_bestCut, Cond.instanceMethod yX1_bestCut, Cond.selects RX1 yX1_bestCut yX1_bestCut, Cond.code yX1_bestCut cX1_bestCut 7 (some .int), Cond.methodLink RX1 140 yX1_litBehindCut, Cond.instanceMethod yX1_litBehindCut, Cond.selects RX1 yX1_litBehindCut yX1_litBehindCut, Cond.code yX1_litBehindCut cX1_litBehindCut 3 (some .int), Cond.fieldLink RX1 16 "VineWall" "trial" "LVineWall$Wall;", Cond.methodLink RX1 105 yX0_copyFrom, Cond.instanceMethod yX0_copyFrom, Cond.selects RX0 yX0_copyFrom yX0_copyFrom, Cond.code yX0_copyFrom cX0_copyFrom 3 none, Cond.methodLink RX1 93 yX0_cutLeaf, Cond.instanceMethod yX0_cutLeaf, Cond.selects RX0 yX0_cutLeaf yX0_cutLeaf, Cond.code yX0_cutLeaf cX0_cutLeaf 3 none]
def wsL_areMirrored : List Cond := .code yL_areMirrored cL_areMirrored 7 (some .boolean) :: ((wsL_areMirrored_r1 ++ (wsL_areMirrored_r2 ++ (wsL_areMirrored_r3 ++ (wsL_areMirrored_r4 ++ (wsL_areMirrored_r5 ++ (wsL_areMirrored_r6 ++ wsL_areMirrored_r7)))))) ++ wsX10 ++ wsX00 ++ (vx_atS RX1 154 "java/lang/IndexOutOfBoundsException" ["java/lang/RuntimeException", "java/lang/Exception"]).filter goodWord)
def wsL_isGrownRight_r1 : List Cond := [Cond.methodLink RL 38 yX1_look, Cond.instanceMethod yX1_look, Cond.selects RX1 yX1_look yX1_look, Cond.initialized RX1, Cond.code yX1_look cX1_look 3 (some .char), Cond.fieldLink RX1 10 "VineWall" "wall" "LVineWall$Wall;", Cond.methodLink RX1 79 yX1_requireCell, Cond.static yX1_requireCell, Cond.code yX1_requireCell cX1_requireCell 2 none, Cond.classLink RX1 150 "java/lang/IndexOutOfBoundsException", Cond.initialized "java/lang/IndexOutOfBoundsException", Cond.methodLink RX1 155 yX1_isCell, Cond.static yX1_isCell, Cond.code yX1_isCell cX1_isCell 2 (some .boolean), Cond.methodLink RX1 82 yX0_hasLeafAt, Cond.instanceMethod yX0_hasLeafAt, Cond.selects RX0 yX0_hasLeafAt yX0_hasLeafAt, Cond.initialized RX0, Cond.code yX0_hasLeafAt cX0_hasLeafAt 3 (some .boolean), Cond.methodLink RX0 18 yX0_leafRow, Cond.instanceMethod yX0_leafRow, Cond.selects RX0 yX0_leafRow yX0_leafRow, Cond.code yX0_leafRow cX0_leafRow 2 (some .int), Cond.fieldLink RX0 9 "VineWall$Wall" "leafRows" "[I"]
def wsL_isGrownRight_r2 : List Cond := [Cond.methodLink RX1 65 yX0_isBareAt, Cond.instanceMethod yX0_isBareAt, Cond.selects RX0 yX0_isBareAt yX0_isBareAt, Cond.code yX0_isBareAt cX0_isBareAt 3 (some .boolean), Cond.methodLink RX0 22 yX0_hasLeafAt, Cond.methodLink RX0 26 yX0_hasCutAt, Cond.instanceMethod yX0_hasCutAt, Cond.selects RX0 yX0_hasCutAt yX0_hasCutAt, Cond.code yX0_hasCutAt cX0_hasCutAt 3 (some .boolean), Cond.fieldLink RX0 15 "VineWall$Wall" "cutRows" "[I", Cond.methodLink RL 42 yX1_shadeOf, Cond.instanceMethod yX1_shadeOf, Cond.selects RX1 yX1_shadeOf yX1_shadeOf, Cond.code yX1_shadeOf cX1_shadeOf 3 (some .int), Cond.methodLink RX1 109 yX0_shadeAt, Cond.instanceMethod yX0_shadeAt, Cond.selects RX0 yX0_shadeAt yX0_shadeAt, Cond.code yX0_shadeAt cX0_shadeAt 5 (some .int), Cond.methodLink RL 45 yX1_holdersOf, Cond.instanceMethod yX1_holdersOf, Cond.selects RX1 yX1_holdersOf yX1_holdersOf, Cond.code yX1_holdersOf cX1_holdersOf 3 (some .int), Cond.fieldLink RX1 33 "VineWall" "beyond" "I", Cond.methodLink RX1 113 yX0_holdersAt]
def wsL_isGrownRight_r3 : List Cond := [Cond.instanceMethod yX0_holdersAt, Cond.selects RX0 yX0_holdersAt yX0_holdersAt, Cond.code yX0_holdersAt cX0_holdersAt 4 (some .int), Cond.methodLink RX0 36 yX0_leafRowAsSeen, Cond.instanceMethod yX0_leafRowAsSeen, Cond.selects RX0 yX0_leafRowAsSeen yX0_leafRowAsSeen, Cond.code yX0_leafRowAsSeen cX0_leafRowAsSeen 7 (some .int), Cond.methodLink RX0 40 yX0_countHolders, Cond.static yX0_countHolders, Cond.code yX0_countHolders cX0_countHolders 1 (some .int), Cond.methodLink RX0 50 yJ6_bitCount_0f7a4, Cond.static yJ6_bitCount_0f7a4, Cond.initialized RJ6, Cond.code yJ6_bitCount_0f7a4 cJ6_bitCount_0f7a4 1 (some .int), Cond.constant RJ6 265 (1431655765), Cond.constant RJ6 266 (858993459), Cond.constant RJ6 267 (252645135), Cond.methodLink RL 48 yX1_neighboursOf, Cond.instanceMethod yX1_neighboursOf, Cond.selects RX1 yX1_neighboursOf yX1_neighboursOf, Cond.code yX1_neighboursOf cX1_neighboursOf 3 (some .int), Cond.methodLink RX1 117 yX0_neighboursAt, Cond.instanceMethod yX0_neighboursAt, Cond.selects RX0 yX0_neighboursAt yX0_neighboursAt]
def wsL_isGrownRight_r4 : List Cond := [Cond.code yX0_neighboursAt cX0_neighboursAt 4 (some .int), Cond.methodLink RX0 43 yX0_countNeighbours, Cond.static yX0_countNeighbours, Cond.code yX0_countNeighbours cX0_countNeighbours 3 (some .int), Cond.methodLink RL 51 yX1_leavesIn, Cond.instanceMethod yX1_leavesIn, Cond.selects RX1 yX1_leavesIn yX1_leavesIn, Cond.code yX1_leavesIn cX1_leavesIn 2 (some .int), Cond.methodLink RX1 61 yX1_requireColumn, Cond.static yX1_requireColumn, Cond.code yX1_requireColumn cX1_requireColumn 1 none, Cond.methodLink RX1 120 yX0_countInColumn, Cond.instanceMethod yX0_countInColumn, Cond.selects RX0 yX0_countInColumn yX0_countInColumn, Cond.code yX0_countInColumn cX0_countInColumn 2 (some .int), Cond.methodLink RX0 47 yX0_shadeAt, Cond.methodLink RL 20 yX1_leaves, Cond.instanceMethod yX1_leaves, Cond.selects RX1 yX1_leaves yX1_leaves, Cond.code yX1_leaves cX1_leaves 1 (some .int), Cond.methodLink RX1 124 yX0_countLeaves, Cond.instanceMethod yX0_countLeaves, Cond.selects RX0 yX0_countLeaves yX0_countLeaves, Cond.code yX0_countLeaves cX0_countLeaves 3 (some .int)]
def wsL_isGrownRight_r5 : List Cond := [Cond.methodLink RL 23 yX1_lit, Cond.instanceMethod yX1_lit, Cond.selects RX1 yX1_lit yX1_lit, Cond.code yX1_lit cX1_lit 1 (some .int), Cond.methodLink RX1 127 yX0_countLit, Cond.instanceMethod yX0_countLit, Cond.selects RX0 yX0_countLit yX0_countLit, Cond.code yX0_countLit cX0_countLit 3 (some .int), Cond.methodLink RL 29 yX1_cutsLeft, Cond.instanceMethod yX1_cutsLeft, Cond.selects RX1 yX1_cutsLeft yX1_cutsLeft, Cond.code yX1_cutsLeft cX1_cutsLeft 1 (some .int), Cond.fieldLink RX1 40 "VineWall" "cutsDone" "I"]
def wsL_isGrownRight : List Cond := .code yL_isGrownRight cL_isGrownRight 9 (some .boolean) :: ((wsL_isGrownRight_r1 ++ (wsL_isGrownRight_r2 ++ (wsL_isGrownRight_r3 ++ (wsL_isGrownRight_r4 ++ wsL_isGrownRight_r5)))) ++ wsX10 ++ wsX00 ++ (vx_atS RX1 154 "java/lang/IndexOutOfBoundsException" ["java/lang/RuntimeException", "java/lang/Exception"]).filter goodWord)
def wsL_law0_r1 : List Cond := [Cond.classLink RL 9 RX1, Cond.instantiable RX1 11, Cond.initialized RX1, Cond.arrayClass .int, Cond.methodLink RL 58 yX1_init, Cond.instanceMethod yX1_init, Cond.code yX1_init cX1_init 2 none, Cond.methodLink RX1 1 objectInit, Cond.instanceMethod objectInit, Cond.code objectInit ⟨#[0xb1]⟩ 1 none, Cond.classLink RX1 7 RX0, Cond.instantiable RX0 2, Cond.initialized RX0, Cond.fieldLink RX1 10 "VineWall" "wall" "LVineWall$Wall;", Cond.fieldLink RX1 16 "VineWall" "trial" "LVineWall$Wall;", Cond.fieldLink RX1 19 "VineWall" "behind" "LVineWall$Wall;", Cond.arrayClass .long, Cond.fieldLink RX1 22 "VineWall" "lowerHalves" "[J", Cond.fieldLink RX1 26 "VineWall" "upperHalves" "[J", Cond.fieldLink RX1 29 "VineWall" "bearings" "[I", Cond.fieldLink RX1 33 "VineWall" "beyond" "I", Cond.fieldLink RX1 37 "VineWall" "planted" "I", Cond.fieldLink RX1 40 "VineWall" "cutsDone" "I", Cond.fieldLink RX1 43 "VineWall" "generationsGone" "I"]
def wsL_law0_r2 : List Cond := [Cond.fieldLink RX1 46 "VineWall" "fallen" "I", Cond.instanceMethod yX0_init, Cond.code yX0_init cX0_init 1 none, Cond.methodLink RX0 3 objectInit, Cond.fieldLink RX0 9 "VineWall$Wall" "leafRows" "[I", Cond.fieldLink RX0 15 "VineWall$Wall" "cutRows" "[I", Cond.methodLink RL 59 yL_drawn, Cond.static yL_drawn, Cond.initialized RL, Cond.code yL_drawn cL_drawn 4 (some .int), Cond.constant RL 7 (58757), Cond.methodLink RL 65 yX1_sides, Cond.instanceMethod yX1_sides, Cond.selects RX1 yX1_sides yX1_sides, Cond.code yX1_sides cX1_sides 2 none, Cond.classLink RX1 49 "java/lang/IllegalArgumentException", Cond.initialized "java/lang/IllegalArgumentException", Cond.classLink RX1 56 "java/lang/IllegalStateException", Cond.initialized "java/lang/IllegalStateException", Cond.methodLink RL 38 yX1_look, Cond.instanceMethod yX1_look, Cond.selects RX1 yX1_look yX1_look, Cond.code yX1_look cX1_look 3 (some .char), Cond.methodLink RX1 79 yX1_requireCell]
def wsL_law0_r3 : List Cond := [Cond.static yX1_requireCell, Cond.code yX1_requireCell cX1_requireCell 2 none, Cond.classLink RX1 150 "java/lang/IndexOutOfBoundsException", Cond.initialized "java/lang/IndexOutOfBoundsException", Cond.methodLink RX1 155 yX1_isCell, Cond.static yX1_isCell, Cond.code yX1_isCell cX1_isCell 2 (some .boolean), Cond.methodLink RX1 82 yX0_hasLeafAt, Cond.instanceMethod yX0_hasLeafAt, Cond.selects RX0 yX0_hasLeafAt yX0_hasLeafAt, Cond.code yX0_hasLeafAt cX0_hasLeafAt 3 (some .boolean), Cond.methodLink RX0 18 yX0_leafRow, Cond.instanceMethod yX0_leafRow, Cond.selects RX0 yX0_leafRow yX0_leafRow, Cond.code yX0_leafRow cX0_leafRow 2 (some .int), Cond.methodLink RX1 65 yX0_isBareAt, Cond.instanceMethod yX0_isBareAt, Cond.selects RX0 yX0_isBareAt yX0_isBareAt, Cond.code yX0_isBareAt cX0_isBareAt 3 (some .boolean), Cond.methodLink RX0 22 yX0_hasLeafAt, Cond.methodLink RX0 26 yX0_hasCutAt, Cond.instanceMethod yX0_hasCutAt, Cond.selects RX0 yX0_hasCutAt yX0_hasCutAt, Cond.code yX0_hasCutAt cX0_hasCutAt 3 (some .boolean)]
def wsL_law0_r4 : List Cond := [Cond.methodLink RL 69 yX1_plant, Cond.instanceMethod yX1_plant, Cond.selects RX1 yX1_plant yX1_plant, Cond.code yX1_plant cX1_plant 2 none, Cond.methodLink RX1 61 yX1_requireColumn, Cond.static yX1_requireColumn, Cond.code yX1_requireColumn cX1_requireColumn 1 none, Cond.methodLink RX1 73 yX0_putLeaf, Cond.instanceMethod yX0_putLeaf, Cond.selects RX0 yX0_putLeaf yX0_putLeaf, Cond.code yX0_putLeaf cX0_putLeaf 3 none, Cond.methodLink RL 72 yL_cutsAfter, Cond.static yL_cutsAfter, Cond.codeWith yL_cutsAfter cL_cutsAfter 4 (some .int) [(0, 6, 7, 14)], Cond.classLink RL 14 "java/lang/IllegalStateException", Cond.methodLink RL 8 yX1_cut, Cond.instanceMethod yX1_cut, Cond.selects RX1 yX1_cut yX1_cut, Cond.code yX1_cut cX1_cut 3 (some .int), Cond.methodLink RX1 87 yX1_cutsLeft, Cond.instanceMethod yX1_cutsLeft, Cond.selects RX1 yX1_cutsLeft yX1_cutsLeft, Cond.code yX1_cutsLeft cX1_cutsLeft 1 (some .int), Cond.methodLink RX1 93 yX0_cutLeaf]
def wsL_law0_r5 : List Cond := [Cond.instanceMethod yX0_cutLeaf, Cond.selects RX0 yX0_cutLeaf yX0_cutLeaf, Cond.code yX0_cutLeaf cX0_cutLeaf 3 none, Cond.methodLink RX0 32 yX0_takeLeaf, Cond.instanceMethod yX0_takeLeaf, Cond.selects RX0 yX0_takeLeaf yX0_takeLeaf, Cond.code yX0_takeLeaf cX0_takeLeaf 3 none, Cond.methodLink RL 76 yX1_trellis, Cond.instanceMethod yX1_trellis, Cond.selects RX1 yX1_trellis yX1_trellis, Cond.code yX1_trellis cX1_trellis 4 (some .int), Cond.methodLink RL 20 yX1_leaves, Cond.instanceMethod yX1_leaves, Cond.selects RX1 yX1_leaves yX1_leaves, Cond.code yX1_leaves cX1_leaves 1 (some .int), Cond.methodLink RX1 124 yX0_countLeaves, Cond.instanceMethod yX0_countLeaves, Cond.selects RX0 yX0_countLeaves yX0_countLeaves, Cond.code yX0_countLeaves cX0_countLeaves 3 (some .int), Cond.methodLink RX0 50 yJ6_bitCount_0f7a4, Cond.static yJ6_bitCount_0f7a4, Cond.initialized RJ6, Cond.code yJ6_bitCount_0f7a4 cJ6_bitCount_0f7a4 1 (some .int), Cond.constant RJ6 265 (1431655765)]
def wsL_law0_r6 : List Cond := [Cond.constant RJ6 266 (858993459), Cond.constant RJ6 267 (252645135), Cond.methodLink RL 35 yX1_leavesNext, Cond.instanceMethod yX1_leavesNext, Cond.selects RX1 yX1_leavesNext yX1_leavesNext, Cond.code yX1_leavesNext cX1_leavesNext 1 (some .int), Cond.methodLink RX1 101 yX0_becomeNextOf, Cond.instanceMethod yX0_becomeNextOf, Cond.selects RX0 yX0_becomeNextOf yX0_becomeNextOf, Cond.code yX0_becomeNextOf cX0_becomeNextOf 6 (some .int), Cond.methodLink RX0 55 yX0_leafRowNext, Cond.instanceMethod yX0_leafRowNext, Cond.selects RX0 yX0_leafRowNext yX0_leafRowNext, Cond.code yX0_leafRowNext cX0_leafRowNext 10 (some .int), Cond.methodLink RX0 36 yX0_leafRowAsSeen, Cond.instanceMethod yX0_leafRowAsSeen, Cond.selects RX0 yX0_leafRowAsSeen yX0_leafRowAsSeen, Cond.code yX0_leafRowAsSeen cX0_leafRowAsSeen 7 (some .int), Cond.methodLink RX0 40 yX0_countHolders, Cond.static yX0_countHolders, Cond.code yX0_countHolders cX0_countHolders 1 (some .int), Cond.methodLink RX0 43 yX0_countNeighbours, Cond.static yX0_countNeighbours, Cond.code yX0_countNeighbours cX0_countNeighbours 3 (some .int)]
def wsL_law0_r7 : List Cond := [Cond.methodLink RX0 64 yX0_bearsLeafNext, Cond.instanceMethod yX0_bearsLeafNext, Cond.selects RX0 yX0_bearsLeafNext yX0_bearsLeafNext, Cond.code yX0_bearsLeafNext cX0_bearsLeafNext 6 (some .boolean), Cond.methodLink RX0 47 yX0_shadeAt, Cond.instanceMethod yX0_shadeAt, Cond.selects RX0 yX0_shadeAt yX0_shadeAt, Cond.code yX0_shadeAt cX0_shadeAt 5 (some .int), Cond.methodLink RX0 58 yX0_countInColumn, Cond.instanceMethod yX0_countInColumn, Cond.selects RX0 yX0_countInColumn yX0_countInColumn, Cond.code yX0_countInColumn cX0_countInColumn 2 (some .int), Cond.methodLink RX0 61 yX0_takeTopmost, Cond.instanceMethod yX0_takeTopmost, Cond.selects RX0 yX0_takeTopmost yX0_takeTopmost, Cond.code yX0_takeTopmost cX0_takeTopmost 5 (some .int), Cond.methodLink RL 32 yX1_broken, Cond.instanceMethod yX1_broken, Cond.selects RX1 yX1_broken yX1_broken, Cond.code yX1_broken cX1_broken 1 (some .int), Cond.methodLink RL 79 yL_grownBy, Cond.static yL_grownBy, Cond.codeWith yL_grownBy cL_grownBy 2 (some .int) [(0, 4, 5, 14)], Cond.methodLink RL 16 yX1_grow]
def wsL_law0_r8 : List Cond := [Cond.instanceMethod yX1_grow, Cond.selects RX1 yX1_grow yX1_grow, Cond.code yX1_grow cX1_grow 2 (some .int), Cond.methodLink RX1 98 yX1_leaves, Cond.methodLink RX1 105 yX0_copyFrom, Cond.instanceMethod yX0_copyFrom, Cond.selects RX0 yX0_copyFrom yX0_copyFrom, Cond.code yX0_copyFrom cX0_copyFrom 3 none, Cond.methodLink RL 26 yX1_generation, Cond.instanceMethod yX1_generation, Cond.selects RX1 yX1_generation yX1_generation, Cond.code yX1_generation cX1_generation 1 (some .int), Cond.methodLink RL 83 yL_isGrownRight, Cond.static yL_isGrownRight, Cond.code yL_isGrownRight cL_isGrownRight 9 (some .boolean), Cond.methodLink RL 42 yX1_shadeOf, Cond.instanceMethod yX1_shadeOf, Cond.selects RX1 yX1_shadeOf yX1_shadeOf, Cond.code yX1_shadeOf cX1_shadeOf 3 (some .int), Cond.methodLink RX1 109 yX0_shadeAt, Cond.methodLink RL 45 yX1_holdersOf, Cond.instanceMethod yX1_holdersOf, Cond.selects RX1 yX1_holdersOf yX1_holdersOf, Cond.code yX1_holdersOf cX1_holdersOf 3 (some .int)]
def wsL_law0_r9 : List Cond := [Cond.methodLink RX1 113 yX0_holdersAt, Cond.instanceMethod yX0_holdersAt, Cond.selects RX0 yX0_holdersAt yX0_holdersAt, Cond.code yX0_holdersAt cX0_holdersAt 4 (some .int), Cond.methodLink RL 48 yX1_neighboursOf, Cond.instanceMethod yX1_neighboursOf, Cond.selects RX1 yX1_neighboursOf yX1_neighboursOf, Cond.code yX1_neighboursOf cX1_neighboursOf 3 (some .int), Cond.methodLink RX1 117 yX0_neighboursAt, Cond.instanceMethod yX0_neighboursAt, Cond.selects RX0 yX0_neighboursAt yX0_neighboursAt, Cond.code yX0_neighboursAt cX0_neighboursAt 4 (some .int), Cond.methodLink RL 51 yX1_leavesIn, Cond.instanceMethod yX1_leavesIn, Cond.selects RX1 yX1_leavesIn yX1_leavesIn, Cond.code yX1_leavesIn cX1_leavesIn 2 (some .int), Cond.methodLink RX1 120 yX0_countInColumn, Cond.methodLink RL 23 yX1_lit, Cond.instanceMethod yX1_lit, Cond.selects RX1 yX1_lit yX1_lit, Cond.code yX1_lit cX1_lit 1 (some .int), Cond.methodLink RX1 127 yX0_countLit, Cond.instanceMethod yX0_countLit, Cond.selects RX0 yX0_countLit yX0_countLit]
def wsL_law0_r10 : List Cond := [Cond.code yX0_countLit cX0_countLit 3 (some .int), Cond.methodLink RL 29 yX1_cutsLeft, Cond.methodLink RL 87 yL_areMirrored, Cond.static yL_areMirrored, Cond.code yL_areMirrored cL_areMirrored 7 (some .boolean), Cond.methodLink RL 55 yX1_bestCut, Cond.instanceMethod yX1_bestCut, Cond.selects RX1 yX1_bestCut yX1_bestCut, Cond.code yX1_bestCut cX1_bestCut 7 (some .int), Cond.methodLink RX1 140 yX1_litBehindCut, Cond.instanceMethod yX1_litBehindCut, Cond.selects RX1 yX1_litBehindCut yX1_litBehindCut, Cond.code yX1_litBehindCut cX1_litBehindCut 3 (some .int), Cond.methodLink RL 91 yX1_repeatsIn, Cond.instanceMethod yX1_repeatsIn, Cond.selects RX1 yX1_repeatsIn yX1_repeatsIn, Cond.code yX1_repeatsIn cX1_repeatsIn 3 (some .int), Cond.methodLink RX1 130 yX0_hasCuts, Cond.instanceMethod yX0_hasCuts, Cond.selects RX0 yX0_hasCuts yX0_hasCuts, Cond.code yX0_hasCuts cX0_hasCuts 3 (some .boolean), Cond.methodLink RX1 134 yX1_remember, Cond.instanceMethod yX1_remember, Cond.selects RX1 yX1_remember yX1_remember]
def wsL_law0_r11 : List Cond := [Cond.code yX1_remember cX1_remember 2 none, Cond.methodLink RX1 146 yX0_leavesOfHalf, Cond.instanceMethod yX0_leavesOfHalf, Cond.selects RX0 yX0_leavesOfHalf yX0_leavesOfHalf, Cond.code yX0_leavesOfHalf cX0_leavesOfHalf 5 (some .long), Cond.methodLink RX1 137 yX1_looksAsBefore, Cond.instanceMethod yX1_looksAsBefore, Cond.selects RX1 yX1_looksAsBefore yX1_looksAsBefore, Cond.code yX1_looksAsBefore cX1_looksAsBefore 4 (some .boolean)]
def wsL_law0 : List Cond := (wsL_law0_r1 ++ (wsL_law0_r2 ++ (wsL_law0_r3 ++ (wsL_law0_r4 ++ (wsL_law0_r5 ++ (wsL_law0_r6 ++ (wsL_law0_r7 ++ (wsL_law0_r8 ++ (wsL_law0_r9 ++ (wsL_law0_r10 ++ wsL_law0_r11)))))))))) ++ wsX10 ++ wsX00 ++ ([] : List Cond)
def wsL_law : List Cond := wsL_law0 ++ (vx_atS RX1 53 "java/lang/IllegalArgumentException" ["java/lang/RuntimeException", "java/lang/Exception"]).filter goodWord ++ (vx_atS RX1 60 "java/lang/IllegalStateException" ["java/lang/RuntimeException", "java/lang/Exception"]).filter goodWord ++ (vx_atS RX1 154 "java/lang/IndexOutOfBoundsException" ["java/lang/RuntimeException", "java/lang/Exception"]).filter goodWord
abbrev vwCl : List vw_C := [(RX0, TX0, 2), (RX1, TX1, 11)]
end
section
theorem dX0_init_0 : decode cX0_init 0 = .ok (.aload_n 0, 1) := by decide +kernel
theorem dX0_init_1 : decode cX0_init 1 = .ok (.invokespecial 3, 3) := by decide +kernel
theorem dX0_init_4 : decode cX0_init 4 = .ok (.aload_n 0, 1) := by decide +kernel
theorem dX0_init_5 : decode cX0_init 5 = .ok (.bipush 8, 2) := by decide +kernel
theorem dX0_init_7 : decode cX0_init 7 = .ok (.newarray .int, 2) := by decide +kernel
theorem dX0_init_9 : decode cX0_init 9 = .ok (.putfield 9, 3) := by decide +kernel
theorem dX0_init_12 : decode cX0_init 12 = .ok (.aload_n 0, 1) := by decide +kernel
theorem dX0_init_13 : decode cX0_init 13 = .ok (.bipush 8, 2) := by decide +kernel
theorem dX0_init_15 : decode cX0_init 15 = .ok (.newarray .int, 2) := by decide +kernel
theorem dX0_init_17 : decode cX0_init 17 = .ok (.putfield 15, 3) := by decide +kernel
theorem dX0_init_20 : decode cX0_init 20 = .ok (.return_, 1) := by decide +kernel
set_option maxRecDepth 20000 in
theorem ggX0_hasLeafAt_X0_leafRow : GoodIn wsX0_hasLeafAt wsX0_leafRow := goodIn_r _ [5, 6, 7, 8] (by decide +kernel) (by decide +kernel)
set_option maxRecDepth 20000 in
theorem gX0_hasLeafAt_X0_leafRow : GoodIn wsX0_hasLeafAt (wsV RX0 18 RX0 yX0_leafRow wsX0_leafRow) := goodIn_app (goodIn_of _ (by decide +kernel)) ggX0_hasLeafAt_X0_leafRow
theorem dX0_hasLeafAt_0 : decode cX0_hasLeafAt 0 = .ok (.aload_n 0, 1) := by decide +kernel
theorem dX0_hasLeafAt_1 : decode cX0_hasLeafAt 1 = .ok (.iload_n 1, 1) := by decide +kernel
theorem dX0_hasLeafAt_2 : decode cX0_hasLeafAt 2 = .ok (.invokevirtual 18, 3) := by decide +kernel
theorem dX0_hasLeafAt_5 : decode cX0_hasLeafAt 5 = .ok (.iload_n 2, 1) := by decide +kernel
theorem dX0_hasLeafAt_6 : decode cX0_hasLeafAt 6 = .ok (.ishr, 1) := by decide +kernel
theorem dX0_hasLeafAt_7 : decode cX0_hasLeafAt 7 = .ok (.iconst 1, 1) := by decide +kernel
theorem dX0_hasLeafAt_8 : decode cX0_hasLeafAt 8 = .ok (.iand, 1) := by decide +kernel
theorem dX0_hasLeafAt_9 : decode cX0_hasLeafAt 9 = .ok (.iconst 1, 1) := by decide +kernel
theorem dX0_hasLeafAt_10 : decode cX0_hasLeafAt 10 = .ok (.if_icmp .ne 7, 3) := by decide +kernel
theorem dX0_hasLeafAt_13 : decode cX0_hasLeafAt 13 = .ok (.iconst 1, 1) := by decide +kernel
theorem dX0_hasLeafAt_14 : decode cX0_hasLeafAt 14 = .ok (.goto 4, 3) := by decide +kernel
theorem dX0_hasLeafAt_17 : decode cX0_hasLeafAt 17 = .ok (.iconst 0, 1) := by decide +kernel
theorem dX0_hasLeafAt_18 : decode cX0_hasLeafAt 18 = .ok (.ireturn, 1) := by decide +kernel
set_option maxRecDepth 20000 in
theorem ggX0_isBareAt_X0_hasLeafAt : GoodIn wsX0_isBareAt wsX0_hasLeafAt := goodIn_r _ [5, 6, 7, 8, 4, 9, 10, 16, 17] (by decide +kernel) (by decide +kernel)
set_option maxRecDepth 20000 in
theorem gX0_isBareAt_X0_hasLeafAt : GoodIn wsX0_isBareAt (wsV RX0 22 RX0 yX0_hasLeafAt wsX0_hasLeafAt) := goodIn_app (goodIn_of _ (by decide +kernel)) ggX0_isBareAt_X0_hasLeafAt
set_option maxRecDepth 20000 in
theorem ggX0_isBareAt_X0_hasCutAt : GoodIn wsX0_isBareAt wsX0_hasCutAt := goodIn_r _ [14, 15, 16, 17] (by decide +kernel) (by decide +kernel)
set_option maxRecDepth 20000 in
theorem gX0_isBareAt_X0_hasCutAt : GoodIn wsX0_isBareAt (wsV RX0 26 RX0 yX0_hasCutAt wsX0_hasCutAt) := goodIn_app (goodIn_of _ (by decide +kernel)) ggX0_isBareAt_X0_hasCutAt
theorem dX0_isBareAt_0 : decode cX0_isBareAt 0 = .ok (.aload_n 0, 1) := by decide +kernel
theorem dX0_isBareAt_1 : decode cX0_isBareAt 1 = .ok (.iload_n 1, 1) := by decide +kernel
theorem dX0_isBareAt_2 : decode cX0_isBareAt 2 = .ok (.iload_n 2, 1) := by decide +kernel
theorem dX0_isBareAt_3 : decode cX0_isBareAt 3 = .ok (.invokevirtual 22, 3) := by decide +kernel
theorem dX0_isBareAt_6 : decode cX0_isBareAt 6 = .ok (.ifCond .ne 16, 3) := by decide +kernel
theorem dX0_isBareAt_9 : decode cX0_isBareAt 9 = .ok (.aload_n 0, 1) := by decide +kernel
theorem dX0_isBareAt_10 : decode cX0_isBareAt 10 = .ok (.iload_n 1, 1) := by decide +kernel
theorem dX0_isBareAt_11 : decode cX0_isBareAt 11 = .ok (.iload_n 2, 1) := by decide +kernel
theorem dX0_isBareAt_12 : decode cX0_isBareAt 12 = .ok (.invokevirtual 26, 3) := by decide +kernel
theorem dX0_isBareAt_15 : decode cX0_isBareAt 15 = .ok (.ifCond .ne 7, 3) := by decide +kernel
theorem dX0_isBareAt_18 : decode cX0_isBareAt 18 = .ok (.iconst 1, 1) := by decide +kernel
theorem dX0_isBareAt_19 : decode cX0_isBareAt 19 = .ok (.goto 4, 3) := by decide +kernel
theorem dX0_isBareAt_22 : decode cX0_isBareAt 22 = .ok (.iconst 0, 1) := by decide +kernel
theorem dX0_isBareAt_23 : decode cX0_isBareAt 23 = .ok (.ireturn, 1) := by decide +kernel
theorem dX0_hasCuts_0 : decode cX0_hasCuts 0 = .ok (.iconst 0, 1) := by decide +kernel
theorem dX0_hasCuts_1 : decode cX0_hasCuts 1 = .ok (.istore_n 1, 1) := by decide +kernel
theorem dX0_hasCuts_2 : decode cX0_hasCuts 2 = .ok (.iconst 0, 1) := by decide +kernel
theorem dX0_hasCuts_3 : decode cX0_hasCuts 3 = .ok (.istore_n 2, 1) := by decide +kernel
theorem dX0_hasCuts_4 : decode cX0_hasCuts 4 = .ok (.iload_n 2, 1) := by decide +kernel
theorem dX0_hasCuts_5 : decode cX0_hasCuts 5 = .ok (.bipush 8, 2) := by decide +kernel
theorem dX0_hasCuts_7 : decode cX0_hasCuts 7 = .ok (.if_icmp .ge 18, 3) := by decide +kernel
theorem dX0_hasCuts_10 : decode cX0_hasCuts 10 = .ok (.iload_n 1, 1) := by decide +kernel
theorem dX0_hasCuts_11 : decode cX0_hasCuts 11 = .ok (.aload_n 0, 1) := by decide +kernel
theorem dX0_hasCuts_12 : decode cX0_hasCuts 12 = .ok (.getfield 15, 3) := by decide +kernel
theorem dX0_hasCuts_15 : decode cX0_hasCuts 15 = .ok (.iload_n 2, 1) := by decide +kernel
theorem dX0_hasCuts_16 : decode cX0_hasCuts 16 = .ok (.iaload, 1) := by decide +kernel
theorem dX0_hasCuts_17 : decode cX0_hasCuts 17 = .ok (.ior, 1) := by decide +kernel
theorem dX0_hasCuts_18 : decode cX0_hasCuts 18 = .ok (.istore_n 1, 1) := by decide +kernel
theorem dX0_hasCuts_19 : decode cX0_hasCuts 19 = .ok (.iinc 2 1, 3) := by decide +kernel
theorem dX0_hasCuts_22 : decode cX0_hasCuts 22 = .ok (.goto (-18), 3) := by decide +kernel
theorem dX0_hasCuts_25 : decode cX0_hasCuts 25 = .ok (.iload_n 1, 1) := by decide +kernel
theorem dX0_hasCuts_26 : decode cX0_hasCuts 26 = .ok (.ifCond .eq 7, 3) := by decide +kernel
theorem dX0_hasCuts_29 : decode cX0_hasCuts 29 = .ok (.iconst 1, 1) := by decide +kernel
theorem dX0_hasCuts_30 : decode cX0_hasCuts 30 = .ok (.goto 4, 3) := by decide +kernel
theorem dX0_hasCuts_33 : decode cX0_hasCuts 33 = .ok (.iconst 0, 1) := by decide +kernel
theorem dX0_hasCuts_34 : decode cX0_hasCuts 34 = .ok (.ireturn, 1) := by decide +kernel
set_option maxRecDepth 20000 in
theorem ggX0_putLeaf_X1_isCell : GoodIn wsX0_putLeaf wsX1_isCell := goodIn_r _ [4] (by decide +kernel) (by decide +kernel)
set_option maxRecDepth 20000 in
theorem gX0_putLeaf_X1_isCell_n29 : GoodIn wsX0_putLeaf (wsX1_isCell) := ggX0_putLeaf_X1_isCell
theorem dX0_putLeaf_0 : decode cX0_putLeaf 0 = .ok (.iload_n 1, 1) := by decide +kernel
theorem dX0_putLeaf_1 : decode cX0_putLeaf 1 = .ok (.iload_n 2, 1) := by decide +kernel
theorem dX0_putLeaf_2 : decode cX0_putLeaf 2 = .ok (.invokestatic 29, 3) := by decide +kernel
theorem dX0_putLeaf_5 : decode cX0_putLeaf 5 = .ok (.ifCond .eq 15, 3) := by decide +kernel
theorem dX0_putLeaf_8 : decode cX0_putLeaf 8 = .ok (.aload_n 0, 1) := by decide +kernel
theorem dX0_putLeaf_9 : decode cX0_putLeaf 9 = .ok (.getfield 9, 3) := by decide +kernel
theorem dX0_putLeaf_12 : decode cX0_putLeaf 12 = .ok (.iload_n 1, 1) := by decide +kernel
theorem dX0_putLeaf_13 : decode cX0_putLeaf 13 = .ok (.dup2, 1) := by decide +kernel
theorem dX0_putLeaf_14 : decode cX0_putLeaf 14 = .ok (.iaload, 1) := by decide +kernel
theorem dX0_putLeaf_15 : decode cX0_putLeaf 15 = .ok (.iconst 1, 1) := by decide +kernel
theorem dX0_putLeaf_16 : decode cX0_putLeaf 16 = .ok (.iload_n 2, 1) := by decide +kernel
theorem dX0_putLeaf_17 : decode cX0_putLeaf 17 = .ok (.ishl, 1) := by decide +kernel
theorem dX0_putLeaf_18 : decode cX0_putLeaf 18 = .ok (.ior, 1) := by decide +kernel
theorem dX0_putLeaf_19 : decode cX0_putLeaf 19 = .ok (.iastore, 1) := by decide +kernel
theorem dX0_putLeaf_20 : decode cX0_putLeaf 20 = .ok (.return_, 1) := by decide +kernel
set_option maxRecDepth 20000 in
theorem ggX0_cutLeaf_X0_takeLeaf : GoodIn wsX0_cutLeaf wsX0_takeLeaf := goodIn_r _ [6, 7, 8, 9, 10, 11, 12] (by decide +kernel) (by decide +kernel)
set_option maxRecDepth 20000 in
theorem gX0_cutLeaf_X0_takeLeaf : GoodIn wsX0_cutLeaf (wsV RX0 32 RX0 yX0_takeLeaf wsX0_takeLeaf) := goodIn_app (goodIn_of _ (by decide +kernel)) ggX0_cutLeaf_X0_takeLeaf
set_option maxRecDepth 20000 in
theorem ggX0_cutLeaf_X1_isCell : GoodIn wsX0_cutLeaf wsX1_isCell := goodIn_r _ [10] (by decide +kernel) (by decide +kernel)
set_option maxRecDepth 20000 in
theorem gX0_cutLeaf_X1_isCell_n29 : GoodIn wsX0_cutLeaf (wsX1_isCell) := ggX0_cutLeaf_X1_isCell
theorem dX0_cutLeaf_0 : decode cX0_cutLeaf 0 = .ok (.aload_n 0, 1) := by decide +kernel
theorem dX0_cutLeaf_1 : decode cX0_cutLeaf 1 = .ok (.iload_n 1, 1) := by decide +kernel
theorem dX0_cutLeaf_2 : decode cX0_cutLeaf 2 = .ok (.iload_n 2, 1) := by decide +kernel
theorem dX0_cutLeaf_3 : decode cX0_cutLeaf 3 = .ok (.invokevirtual 32, 3) := by decide +kernel
theorem dX0_cutLeaf_6 : decode cX0_cutLeaf 6 = .ok (.iload_n 1, 1) := by decide +kernel
theorem dX0_cutLeaf_7 : decode cX0_cutLeaf 7 = .ok (.iload_n 2, 1) := by decide +kernel
theorem dX0_cutLeaf_8 : decode cX0_cutLeaf 8 = .ok (.invokestatic 29, 3) := by decide +kernel
theorem dX0_cutLeaf_11 : decode cX0_cutLeaf 11 = .ok (.ifCond .eq 15, 3) := by decide +kernel
theorem dX0_cutLeaf_14 : decode cX0_cutLeaf 14 = .ok (.aload_n 0, 1) := by decide +kernel
theorem dX0_cutLeaf_15 : decode cX0_cutLeaf 15 = .ok (.getfield 15, 3) := by decide +kernel
theorem dX0_cutLeaf_18 : decode cX0_cutLeaf 18 = .ok (.iload_n 1, 1) := by decide +kernel
theorem dX0_cutLeaf_19 : decode cX0_cutLeaf 19 = .ok (.dup2, 1) := by decide +kernel
theorem dX0_cutLeaf_20 : decode cX0_cutLeaf 20 = .ok (.iaload, 1) := by decide +kernel
theorem dX0_cutLeaf_21 : decode cX0_cutLeaf 21 = .ok (.iconst 1, 1) := by decide +kernel
theorem dX0_cutLeaf_22 : decode cX0_cutLeaf 22 = .ok (.iload_n 2, 1) := by decide +kernel
theorem dX0_cutLeaf_23 : decode cX0_cutLeaf 23 = .ok (.ishl, 1) := by decide +kernel
theorem dX0_cutLeaf_24 : decode cX0_cutLeaf 24 = .ok (.ior, 1) := by decide +kernel
theorem dX0_cutLeaf_25 : decode cX0_cutLeaf 25 = .ok (.iastore, 1) := by decide +kernel
theorem dX0_cutLeaf_26 : decode cX0_cutLeaf 26 = .ok (.return_, 1) := by decide +kernel
theorem dX0_copyFrom_0 : decode cX0_copyFrom 0 = .ok (.iconst 0, 1) := by decide +kernel
theorem dX0_copyFrom_1 : decode cX0_copyFrom 1 = .ok (.istore_n 2, 1) := by decide +kernel
theorem dX0_copyFrom_2 : decode cX0_copyFrom 2 = .ok (.iload_n 2, 1) := by decide +kernel
theorem dX0_copyFrom_3 : decode cX0_copyFrom 3 = .ok (.bipush 8, 2) := by decide +kernel
theorem dX0_copyFrom_5 : decode cX0_copyFrom 5 = .ok (.if_icmp .ge 33, 3) := by decide +kernel
theorem dX0_copyFrom_8 : decode cX0_copyFrom 8 = .ok (.aload_n 0, 1) := by decide +kernel
theorem dX0_copyFrom_9 : decode cX0_copyFrom 9 = .ok (.getfield 9, 3) := by decide +kernel
theorem dX0_copyFrom_12 : decode cX0_copyFrom 12 = .ok (.iload_n 2, 1) := by decide +kernel
theorem dX0_copyFrom_13 : decode cX0_copyFrom 13 = .ok (.aload_n 1, 1) := by decide +kernel
theorem dX0_copyFrom_14 : decode cX0_copyFrom 14 = .ok (.getfield 9, 3) := by decide +kernel
theorem dX0_copyFrom_17 : decode cX0_copyFrom 17 = .ok (.iload_n 2, 1) := by decide +kernel
theorem dX0_copyFrom_18 : decode cX0_copyFrom 18 = .ok (.iaload, 1) := by decide +kernel
theorem dX0_copyFrom_19 : decode cX0_copyFrom 19 = .ok (.iastore, 1) := by decide +kernel
theorem dX0_copyFrom_20 : decode cX0_copyFrom 20 = .ok (.aload_n 0, 1) := by decide +kernel
theorem dX0_copyFrom_21 : decode cX0_copyFrom 21 = .ok (.getfield 15, 3) := by decide +kernel
theorem dX0_copyFrom_24 : decode cX0_copyFrom 24 = .ok (.iload_n 2, 1) := by decide +kernel
theorem dX0_copyFrom_25 : decode cX0_copyFrom 25 = .ok (.aload_n 1, 1) := by decide +kernel
theorem dX0_copyFrom_26 : decode cX0_copyFrom 26 = .ok (.getfield 15, 3) := by decide +kernel
theorem dX0_copyFrom_29 : decode cX0_copyFrom 29 = .ok (.iload_n 2, 1) := by decide +kernel
theorem dX0_copyFrom_30 : decode cX0_copyFrom 30 = .ok (.iaload, 1) := by decide +kernel
theorem dX0_copyFrom_31 : decode cX0_copyFrom 31 = .ok (.iastore, 1) := by decide +kernel
theorem dX0_copyFrom_32 : decode cX0_copyFrom 32 = .ok (.iinc 2 1, 3) := by decide +kernel
theorem dX0_copyFrom_35 : decode cX0_copyFrom 35 = .ok (.goto (-33), 3) := by decide +kernel
theorem dX0_copyFrom_38 : decode cX0_copyFrom 38 = .ok (.return_, 1) := by decide +kernel
set_option maxRecDepth 20000 in
theorem ggX0_shadeAt_X0_leafRow : GoodIn wsX0_shadeAt wsX0_leafRow := goodIn_r _ [5, 6, 7, 8] (by decide +kernel) (by decide +kernel)
set_option maxRecDepth 20000 in
theorem gX0_shadeAt_X0_leafRow : GoodIn wsX0_shadeAt (wsV RX0 18 RX0 yX0_leafRow wsX0_leafRow) := goodIn_app (goodIn_of _ (by decide +kernel)) ggX0_shadeAt_X0_leafRow
theorem dX0_shadeAt_0 : decode cX0_shadeAt 0 = .ok (.iconst 0, 1) := by decide +kernel
theorem dX0_shadeAt_1 : decode cX0_shadeAt 1 = .ok (.istore_n 3, 1) := by decide +kernel
theorem dX0_shadeAt_2 : decode cX0_shadeAt 2 = .ok (.iload_n 1, 1) := by decide +kernel
theorem dX0_shadeAt_3 : decode cX0_shadeAt 3 = .ok (.iconst 1, 1) := by decide +kernel
theorem dX0_shadeAt_4 : decode cX0_shadeAt 4 = .ok (.iadd, 1) := by decide +kernel
theorem dX0_shadeAt_5 : decode cX0_shadeAt 5 = .ok (.istore 4, 2) := by decide +kernel
theorem dX0_shadeAt_7 : decode cX0_shadeAt 7 = .ok (.iload 4, 2) := by decide +kernel
theorem dX0_shadeAt_9 : decode cX0_shadeAt 9 = .ok (.bipush 8, 2) := by decide +kernel
theorem dX0_shadeAt_11 : decode cX0_shadeAt 11 = .ok (.if_icmp .ge 22, 3) := by decide +kernel
theorem dX0_shadeAt_14 : decode cX0_shadeAt 14 = .ok (.iload_n 3, 1) := by decide +kernel
theorem dX0_shadeAt_15 : decode cX0_shadeAt 15 = .ok (.aload_n 0, 1) := by decide +kernel
theorem dX0_shadeAt_16 : decode cX0_shadeAt 16 = .ok (.iload 4, 2) := by decide +kernel
theorem dX0_shadeAt_18 : decode cX0_shadeAt 18 = .ok (.invokevirtual 18, 3) := by decide +kernel
theorem dX0_shadeAt_21 : decode cX0_shadeAt 21 = .ok (.iload_n 2, 1) := by decide +kernel
theorem dX0_shadeAt_22 : decode cX0_shadeAt 22 = .ok (.ishr, 1) := by decide +kernel
theorem dX0_shadeAt_23 : decode cX0_shadeAt 23 = .ok (.iconst 1, 1) := by decide +kernel
theorem dX0_shadeAt_24 : decode cX0_shadeAt 24 = .ok (.iand, 1) := by decide +kernel
theorem dX0_shadeAt_25 : decode cX0_shadeAt 25 = .ok (.iadd, 1) := by decide +kernel
theorem dX0_shadeAt_26 : decode cX0_shadeAt 26 = .ok (.istore_n 3, 1) := by decide +kernel
theorem dX0_shadeAt_27 : decode cX0_shadeAt 27 = .ok (.iinc 4 1, 3) := by decide +kernel
theorem dX0_shadeAt_30 : decode cX0_shadeAt 30 = .ok (.goto (-23), 3) := by decide +kernel
theorem dX0_shadeAt_33 : decode cX0_shadeAt 33 = .ok (.iload_n 3, 1) := by decide +kernel
theorem dX0_shadeAt_34 : decode cX0_shadeAt 34 = .ok (.ireturn, 1) := by decide +kernel
set_option maxRecDepth 20000 in
theorem ggX0_holdersAt_X0_leafRowAsSeen : GoodIn wsX0_holdersAt wsX0_leafRowAsSeen := goodIn_r _ [5, 6, 7, 8, 4, 9, 10, 21, 22] (by decide +kernel) (by decide +kernel)
set_option maxRecDepth 20000 in
theorem gX0_holdersAt_X0_leafRowAsSeen : GoodIn wsX0_holdersAt (wsV RX0 36 RX0 yX0_leafRowAsSeen wsX0_leafRowAsSeen) := goodIn_app (goodIn_of _ (by decide +kernel)) ggX0_holdersAt_X0_leafRowAsSeen
set_option maxRecDepth 20000 in
theorem ggX0_holdersAt_X0_countHolders : GoodIn wsX0_holdersAt wsX0_countHolders := goodIn_r _ [13, 14, 15, 16, 17, 18, 19, 20] (by decide +kernel) (by decide +kernel)
set_option maxRecDepth 20000 in
theorem gX0_holdersAt_X0_countHolders : GoodIn wsX0_holdersAt (va_wsS RX0 40 yX0_countHolders wsX0_countHolders) := goodIn_app (goodIn_of _ (by decide +kernel)) ggX0_holdersAt_X0_countHolders
theorem dX0_holdersAt_0 : decode cX0_holdersAt 0 = .ok (.aload_n 0, 1) := by decide +kernel
theorem dX0_holdersAt_1 : decode cX0_holdersAt 1 = .ok (.iload_n 1, 1) := by decide +kernel
theorem dX0_holdersAt_2 : decode cX0_holdersAt 2 = .ok (.iconst 1, 1) := by decide +kernel
theorem dX0_holdersAt_3 : decode cX0_holdersAt 3 = .ok (.isub, 1) := by decide +kernel
theorem dX0_holdersAt_4 : decode cX0_holdersAt 4 = .ok (.iload_n 3, 1) := by decide +kernel
theorem dX0_holdersAt_5 : decode cX0_holdersAt 5 = .ok (.invokevirtual 36, 3) := by decide +kernel
theorem dX0_holdersAt_8 : decode cX0_holdersAt 8 = .ok (.iload_n 2, 1) := by decide +kernel
theorem dX0_holdersAt_9 : decode cX0_holdersAt 9 = .ok (.ishr, 1) := by decide +kernel
theorem dX0_holdersAt_10 : decode cX0_holdersAt 10 = .ok (.invokestatic 40, 3) := by decide +kernel
theorem dX0_holdersAt_13 : decode cX0_holdersAt 13 = .ok (.ireturn, 1) := by decide +kernel
set_option maxRecDepth 20000 in
theorem ggX0_neighboursAt_X0_leafRowAsSeen : GoodIn wsX0_neighboursAt wsX0_leafRowAsSeen := goodIn_r _ [5, 6, 7, 8, 4, 9, 10, 21, 22] (by decide +kernel) (by decide +kernel)
set_option maxRecDepth 20000 in
theorem gX0_neighboursAt_X0_leafRowAsSeen : GoodIn wsX0_neighboursAt (wsV RX0 36 RX0 yX0_leafRowAsSeen wsX0_leafRowAsSeen) := goodIn_app (goodIn_of _ (by decide +kernel)) ggX0_neighboursAt_X0_leafRowAsSeen
set_option maxRecDepth 20000 in
theorem ggX0_neighboursAt_X0_countNeighbours : GoodIn wsX0_neighboursAt wsX0_countNeighbours := goodIn_r _ [13, 14, 15, 16, 17, 18, 19, 20] (by decide +kernel) (by decide +kernel)
set_option maxRecDepth 20000 in
theorem gX0_neighboursAt_X0_countNeighbours : GoodIn wsX0_neighboursAt (va_wsS RX0 43 yX0_countNeighbours wsX0_countNeighbours) := goodIn_app (goodIn_of _ (by decide +kernel)) ggX0_neighboursAt_X0_countNeighbours
theorem dX0_neighboursAt_0 : decode cX0_neighboursAt 0 = .ok (.aload_n 0, 1) := by decide +kernel
theorem dX0_neighboursAt_1 : decode cX0_neighboursAt 1 = .ok (.iload_n 1, 1) := by decide +kernel
theorem dX0_neighboursAt_2 : decode cX0_neighboursAt 2 = .ok (.iconst 1, 1) := by decide +kernel
theorem dX0_neighboursAt_3 : decode cX0_neighboursAt 3 = .ok (.isub, 1) := by decide +kernel
theorem dX0_neighboursAt_4 : decode cX0_neighboursAt 4 = .ok (.iload_n 3, 1) := by decide +kernel
theorem dX0_neighboursAt_5 : decode cX0_neighboursAt 5 = .ok (.invokevirtual 36, 3) := by decide +kernel
theorem dX0_neighboursAt_8 : decode cX0_neighboursAt 8 = .ok (.iload_n 2, 1) := by decide +kernel
theorem dX0_neighboursAt_9 : decode cX0_neighboursAt 9 = .ok (.ishr, 1) := by decide +kernel
theorem dX0_neighboursAt_10 : decode cX0_neighboursAt 10 = .ok (.aload_n 0, 1) := by decide +kernel
theorem dX0_neighboursAt_11 : decode cX0_neighboursAt 11 = .ok (.iload_n 1, 1) := by decide +kernel
theorem dX0_neighboursAt_12 : decode cX0_neighboursAt 12 = .ok (.iload_n 3, 1) := by decide +kernel
theorem dX0_neighboursAt_13 : decode cX0_neighboursAt 13 = .ok (.invokevirtual 36, 3) := by decide +kernel
theorem dX0_neighboursAt_16 : decode cX0_neighboursAt 16 = .ok (.iload_n 2, 1) := by decide +kernel
theorem dX0_neighboursAt_17 : decode cX0_neighboursAt 17 = .ok (.ishr, 1) := by decide +kernel
theorem dX0_neighboursAt_18 : decode cX0_neighboursAt 18 = .ok (.aload_n 0, 1) := by decide +kernel
theorem dX0_neighboursAt_19 : decode cX0_neighboursAt 19 = .ok (.iload_n 1, 1) := by decide +kernel
theorem dX0_neighboursAt_20 : decode cX0_neighboursAt 20 = .ok (.iconst 1, 1) := by decide +kernel
theorem dX0_neighboursAt_21 : decode cX0_neighboursAt 21 = .ok (.iadd, 1) := by decide +kernel
theorem dX0_neighboursAt_22 : decode cX0_neighboursAt 22 = .ok (.iload_n 3, 1) := by decide +kernel
theorem dX0_neighboursAt_23 : decode cX0_neighboursAt 23 = .ok (.invokevirtual 36, 3) := by decide +kernel
theorem dX0_neighboursAt_26 : decode cX0_neighboursAt 26 = .ok (.iload_n 2, 1) := by decide +kernel
theorem dX0_neighboursAt_27 : decode cX0_neighboursAt 27 = .ok (.ishr, 1) := by decide +kernel
theorem dX0_neighboursAt_28 : decode cX0_neighboursAt 28 = .ok (.invokestatic 43, 3) := by decide +kernel
theorem dX0_neighboursAt_31 : decode cX0_neighboursAt 31 = .ok (.ireturn, 1) := by decide +kernel
set_option maxRecDepth 20000 in
theorem ggX0_countInColumn_X0_shadeAt : GoodIn wsX0_countInColumn wsX0_shadeAt := goodIn_r _ [5, 6, 7, 8, 4, 9, 10, 11, 12] (by decide +kernel) (by decide +kernel)
set_option maxRecDepth 20000 in
theorem gX0_countInColumn_X0_shadeAt : GoodIn wsX0_countInColumn (wsV RX0 47 RX0 yX0_shadeAt wsX0_shadeAt) := goodIn_app (goodIn_of _ (by decide +kernel)) ggX0_countInColumn_X0_shadeAt
theorem dX0_countInColumn_0 : decode cX0_countInColumn 0 = .ok (.aload_n 0, 1) := by decide +kernel
theorem dX0_countInColumn_1 : decode cX0_countInColumn 1 = .ok (.iconst (-1), 1) := by decide +kernel
theorem dX0_countInColumn_2 : decode cX0_countInColumn 2 = .ok (.iload_n 1, 1) := by decide +kernel
theorem dX0_countInColumn_3 : decode cX0_countInColumn 3 = .ok (.invokevirtual 47, 3) := by decide +kernel
theorem dX0_countInColumn_6 : decode cX0_countInColumn 6 = .ok (.ireturn, 1) := by decide +kernel
set_option maxRecDepth 20000 in
theorem ggX0_countLeaves_J6_bitCount_0f7a4 : GoodIn wsX0_countLeaves wsJ6_bitCount_0f7a4 := goodIn_r _ [5, 6, 7, 8] (by decide +kernel) (by decide +kernel)
set_option maxRecDepth 20000 in
theorem gX0_countLeaves_J6_bitCount_0f7a4 : GoodIn wsX0_countLeaves (va_wsS RX0 50 yJ6_bitCount_0f7a4 wsJ6_bitCount_0f7a4) := goodIn_app (goodIn_of _ (by decide +kernel)) ggX0_countLeaves_J6_bitCount_0f7a4
theorem dX0_countLeaves_0 : decode cX0_countLeaves 0 = .ok (.iconst 0, 1) := by decide +kernel
theorem dX0_countLeaves_1 : decode cX0_countLeaves 1 = .ok (.istore_n 1, 1) := by decide +kernel
theorem dX0_countLeaves_2 : decode cX0_countLeaves 2 = .ok (.iconst 0, 1) := by decide +kernel
theorem dX0_countLeaves_3 : decode cX0_countLeaves 3 = .ok (.istore_n 2, 1) := by decide +kernel
theorem dX0_countLeaves_4 : decode cX0_countLeaves 4 = .ok (.iload_n 2, 1) := by decide +kernel
theorem dX0_countLeaves_5 : decode cX0_countLeaves 5 = .ok (.bipush 8, 2) := by decide +kernel
theorem dX0_countLeaves_7 : decode cX0_countLeaves 7 = .ok (.if_icmp .ge 21, 3) := by decide +kernel
theorem dX0_countLeaves_10 : decode cX0_countLeaves 10 = .ok (.iload_n 1, 1) := by decide +kernel
theorem dX0_countLeaves_11 : decode cX0_countLeaves 11 = .ok (.aload_n 0, 1) := by decide +kernel
theorem dX0_countLeaves_12 : decode cX0_countLeaves 12 = .ok (.getfield 9, 3) := by decide +kernel
theorem dX0_countLeaves_15 : decode cX0_countLeaves 15 = .ok (.iload_n 2, 1) := by decide +kernel
theorem dX0_countLeaves_16 : decode cX0_countLeaves 16 = .ok (.iaload, 1) := by decide +kernel
theorem dX0_countLeaves_17 : decode cX0_countLeaves 17 = .ok (.invokestatic 50, 3) := by decide +kernel
theorem dX0_countLeaves_20 : decode cX0_countLeaves 20 = .ok (.iadd, 1) := by decide +kernel
theorem dX0_countLeaves_21 : decode cX0_countLeaves 21 = .ok (.istore_n 1, 1) := by decide +kernel
theorem dX0_countLeaves_22 : decode cX0_countLeaves 22 = .ok (.iinc 2 1, 3) := by decide +kernel
theorem dX0_countLeaves_25 : decode cX0_countLeaves 25 = .ok (.goto (-21), 3) := by decide +kernel
theorem dX0_countLeaves_28 : decode cX0_countLeaves 28 = .ok (.iload_n 1, 1) := by decide +kernel
theorem dX0_countLeaves_29 : decode cX0_countLeaves 29 = .ok (.ireturn, 1) := by decide +kernel
set_option maxRecDepth 20000 in
theorem ggX0_countLit_J6_bitCount_0f7a4 : GoodIn wsX0_countLit wsJ6_bitCount_0f7a4 := goodIn_r _ [5, 6, 7, 8] (by decide +kernel) (by decide +kernel)
set_option maxRecDepth 20000 in
theorem gX0_countLit_J6_bitCount_0f7a4 : GoodIn wsX0_countLit (va_wsS RX0 50 yJ6_bitCount_0f7a4 wsJ6_bitCount_0f7a4) := goodIn_app (goodIn_of _ (by decide +kernel)) ggX0_countLit_J6_bitCount_0f7a4
theorem dX0_countLit_0 : decode cX0_countLit 0 = .ok (.iconst 0, 1) := by decide +kernel
theorem dX0_countLit_1 : decode cX0_countLit 1 = .ok (.istore_n 1, 1) := by decide +kernel
theorem dX0_countLit_2 : decode cX0_countLit 2 = .ok (.iconst 0, 1) := by decide +kernel
theorem dX0_countLit_3 : decode cX0_countLit 3 = .ok (.istore_n 2, 1) := by decide +kernel
theorem dX0_countLit_4 : decode cX0_countLit 4 = .ok (.iload_n 2, 1) := by decide +kernel
theorem dX0_countLit_5 : decode cX0_countLit 5 = .ok (.bipush 8, 2) := by decide +kernel
theorem dX0_countLit_7 : decode cX0_countLit 7 = .ok (.if_icmp .ge 18, 3) := by decide +kernel
theorem dX0_countLit_10 : decode cX0_countLit 10 = .ok (.iload_n 1, 1) := by decide +kernel
theorem dX0_countLit_11 : decode cX0_countLit 11 = .ok (.aload_n 0, 1) := by decide +kernel
theorem dX0_countLit_12 : decode cX0_countLit 12 = .ok (.getfield 9, 3) := by decide +kernel
theorem dX0_countLit_15 : decode cX0_countLit 15 = .ok (.iload_n 2, 1) := by decide +kernel
theorem dX0_countLit_16 : decode cX0_countLit 16 = .ok (.iaload, 1) := by decide +kernel
theorem dX0_countLit_17 : decode cX0_countLit 17 = .ok (.ior, 1) := by decide +kernel
theorem dX0_countLit_18 : decode cX0_countLit 18 = .ok (.istore_n 1, 1) := by decide +kernel
theorem dX0_countLit_19 : decode cX0_countLit 19 = .ok (.iinc 2 1, 3) := by decide +kernel
theorem dX0_countLit_22 : decode cX0_countLit 22 = .ok (.goto (-18), 3) := by decide +kernel
theorem dX0_countLit_25 : decode cX0_countLit 25 = .ok (.iload_n 1, 1) := by decide +kernel
theorem dX0_countLit_26 : decode cX0_countLit 26 = .ok (.invokestatic 50, 3) := by decide +kernel
theorem dX0_countLit_29 : decode cX0_countLit 29 = .ok (.ireturn, 1) := by decide +kernel
set_option maxRecDepth 20000 in
theorem ggX0_leavesOfHalf_X0_leafRow : GoodIn wsX0_leavesOfHalf wsX0_leafRow := goodIn_r _ [5, 6, 7, 8] (by decide +kernel) (by decide +kernel)
set_option maxRecDepth 20000 in
theorem gX0_leavesOfHalf_X0_leafRow : GoodIn wsX0_leavesOfHalf (wsV RX0 18 RX0 yX0_leafRow wsX0_leafRow) := goodIn_app (goodIn_of _ (by decide +kernel)) ggX0_leavesOfHalf_X0_leafRow
theorem dX0_leavesOfHalf_0 : decode cX0_leavesOfHalf 0 = .ok (.lconst 0, 1) := by decide +kernel
theorem dX0_leavesOfHalf_1 : decode cX0_leavesOfHalf 1 = .ok (.lstore_n 2, 1) := by decide +kernel
theorem dX0_leavesOfHalf_2 : decode cX0_leavesOfHalf 2 = .ok (.iload_n 1, 1) := by decide +kernel
theorem dX0_leavesOfHalf_3 : decode cX0_leavesOfHalf 3 = .ok (.istore 4, 2) := by decide +kernel
theorem dX0_leavesOfHalf_5 : decode cX0_leavesOfHalf 5 = .ok (.iload 4, 2) := by decide +kernel
theorem dX0_leavesOfHalf_7 : decode cX0_leavesOfHalf 7 = .ok (.iload_n 1, 1) := by decide +kernel
theorem dX0_leavesOfHalf_8 : decode cX0_leavesOfHalf 8 = .ok (.iconst 4, 1) := by decide +kernel
theorem dX0_leavesOfHalf_9 : decode cX0_leavesOfHalf 9 = .ok (.iadd, 1) := by decide +kernel
theorem dX0_leavesOfHalf_10 : decode cX0_leavesOfHalf 10 = .ok (.if_icmp .ge 22, 3) := by decide +kernel
theorem dX0_leavesOfHalf_13 : decode cX0_leavesOfHalf 13 = .ok (.lload_n 2, 1) := by decide +kernel
theorem dX0_leavesOfHalf_14 : decode cX0_leavesOfHalf 14 = .ok (.bipush 12, 2) := by decide +kernel
theorem dX0_leavesOfHalf_16 : decode cX0_leavesOfHalf 16 = .ok (.lshl, 1) := by decide +kernel
theorem dX0_leavesOfHalf_17 : decode cX0_leavesOfHalf 17 = .ok (.aload_n 0, 1) := by decide +kernel
theorem dX0_leavesOfHalf_18 : decode cX0_leavesOfHalf 18 = .ok (.iload 4, 2) := by decide +kernel
theorem dX0_leavesOfHalf_20 : decode cX0_leavesOfHalf 20 = .ok (.invokevirtual 18, 3) := by decide +kernel
theorem dX0_leavesOfHalf_23 : decode cX0_leavesOfHalf 23 = .ok (.i2l, 1) := by decide +kernel
theorem dX0_leavesOfHalf_24 : decode cX0_leavesOfHalf 24 = .ok (.lor, 1) := by decide +kernel
theorem dX0_leavesOfHalf_25 : decode cX0_leavesOfHalf 25 = .ok (.lstore_n 2, 1) := by decide +kernel
theorem dX0_leavesOfHalf_26 : decode cX0_leavesOfHalf 26 = .ok (.iinc 4 1, 3) := by decide +kernel
theorem dX0_leavesOfHalf_29 : decode cX0_leavesOfHalf 29 = .ok (.goto (-24), 3) := by decide +kernel
theorem dX0_leavesOfHalf_32 : decode cX0_leavesOfHalf 32 = .ok (.lload_n 2, 1) := by decide +kernel
theorem dX0_leavesOfHalf_33 : decode cX0_leavesOfHalf 33 = .ok (.lreturn, 1) := by decide +kernel
set_option maxRecDepth 20000 in
theorem ggX0_becomeNextOf_X0_leafRowNext : GoodIn wsX0_becomeNextOf wsX0_leafRowNext := goodIn_r _ [7, 8, 9, 10, 6, 11, 1, 12, 13, 14, 15, 16, 17, 18, 19, 20, 21, 22, 23, 24, 25, 26, 27, 28, 29, 30, 31, 32, 33, 34, 35, 36, 2, 37, 38, 39, 40, 41, 42, 43, 44, 60, 61] (by decide +kernel) (by decide +kernel)
set_option maxRecDepth 20000 in
theorem gX0_becomeNextOf_X0_leafRowNext : GoodIn wsX0_becomeNextOf (wsV RX0 55 RX0 yX0_leafRowNext wsX0_leafRowNext) := goodIn_app (goodIn_of _ (by decide +kernel)) ggX0_becomeNextOf_X0_leafRowNext
set_option maxRecDepth 20000 in
theorem ggX0_becomeNextOf_X0_countInColumn : GoodIn wsX0_becomeNextOf wsX0_countInColumn := goodIn_r _ [48, 37, 38, 39, 6, 40, 8, 9, 10, 11, 1, 60, 61] (by decide +kernel) (by decide +kernel)
set_option maxRecDepth 20000 in
theorem gX0_becomeNextOf_X0_countInColumn : GoodIn wsX0_becomeNextOf (wsV RX0 58 RX0 yX0_countInColumn wsX0_countInColumn) := goodIn_app (goodIn_of _ (by decide +kernel)) ggX0_becomeNextOf_X0_countInColumn
set_option maxRecDepth 20000 in
theorem ggX0_becomeNextOf_X0_takeTopmost : GoodIn wsX0_becomeNextOf wsX0_takeTopmost := goodIn_r _ [52, 41, 42, 43, 6, 44, 8, 9, 10, 11, 1, 53, 54, 55, 56, 57, 58, 59, 60, 61] (by decide +kernel) (by decide +kernel)
set_option maxRecDepth 20000 in
theorem gX0_becomeNextOf_X0_takeTopmost : GoodIn wsX0_becomeNextOf (wsV RX0 61 RX0 yX0_takeTopmost wsX0_takeTopmost) := goodIn_app (goodIn_of _ (by decide +kernel)) ggX0_becomeNextOf_X0_takeTopmost
theorem dX0_becomeNextOf_0 : decode cX0_becomeNextOf 0 = .ok (.iconst 0, 1) := by decide +kernel
theorem dX0_becomeNextOf_1 : decode cX0_becomeNextOf 1 = .ok (.istore 4, 2) := by decide +kernel
theorem dX0_becomeNextOf_3 : decode cX0_becomeNextOf 3 = .ok (.iload 4, 2) := by decide +kernel
theorem dX0_becomeNextOf_5 : decode cX0_becomeNextOf 5 = .ok (.bipush 8, 2) := by decide +kernel
theorem dX0_becomeNextOf_7 : decode cX0_becomeNextOf 7 = .ok (.if_icmp .ge 31, 3) := by decide +kernel
theorem dX0_becomeNextOf_10 : decode cX0_becomeNextOf 10 = .ok (.aload_n 0, 1) := by decide +kernel
theorem dX0_becomeNextOf_11 : decode cX0_becomeNextOf 11 = .ok (.getfield 9, 3) := by decide +kernel
theorem dX0_becomeNextOf_14 : decode cX0_becomeNextOf 14 = .ok (.iload 4, 2) := by decide +kernel
theorem dX0_becomeNextOf_16 : decode cX0_becomeNextOf 16 = .ok (.aload_n 1, 1) := by decide +kernel
theorem dX0_becomeNextOf_17 : decode cX0_becomeNextOf 17 = .ok (.iload 4, 2) := by decide +kernel
theorem dX0_becomeNextOf_19 : decode cX0_becomeNextOf 19 = .ok (.iload_n 2, 1) := by decide +kernel
theorem dX0_becomeNextOf_20 : decode cX0_becomeNextOf 20 = .ok (.invokevirtual 55, 3) := by decide +kernel
theorem dX0_becomeNextOf_23 : decode cX0_becomeNextOf 23 = .ok (.iastore, 1) := by decide +kernel
theorem dX0_becomeNextOf_24 : decode cX0_becomeNextOf 24 = .ok (.aload_n 0, 1) := by decide +kernel
theorem dX0_becomeNextOf_25 : decode cX0_becomeNextOf 25 = .ok (.getfield 15, 3) := by decide +kernel
theorem dX0_becomeNextOf_28 : decode cX0_becomeNextOf 28 = .ok (.iload 4, 2) := by decide +kernel
theorem dX0_becomeNextOf_30 : decode cX0_becomeNextOf 30 = .ok (.iconst 0, 1) := by decide +kernel
theorem dX0_becomeNextOf_31 : decode cX0_becomeNextOf 31 = .ok (.iastore, 1) := by decide +kernel
theorem dX0_becomeNextOf_32 : decode cX0_becomeNextOf 32 = .ok (.iinc 4 1, 3) := by decide +kernel
theorem dX0_becomeNextOf_35 : decode cX0_becomeNextOf 35 = .ok (.goto (-32), 3) := by decide +kernel
theorem dX0_becomeNextOf_38 : decode cX0_becomeNextOf 38 = .ok (.iconst 0, 1) := by decide +kernel
theorem dX0_becomeNextOf_39 : decode cX0_becomeNextOf 39 = .ok (.istore 4, 2) := by decide +kernel
theorem dX0_becomeNextOf_41 : decode cX0_becomeNextOf 41 = .ok (.iconst 0, 1) := by decide +kernel
theorem dX0_becomeNextOf_42 : decode cX0_becomeNextOf 42 = .ok (.istore 5, 2) := by decide +kernel
theorem dX0_becomeNextOf_44 : decode cX0_becomeNextOf 44 = .ok (.iload 5, 2) := by decide +kernel
theorem dX0_becomeNextOf_46 : decode cX0_becomeNextOf 46 = .ok (.bipush 12, 2) := by decide +kernel
theorem dX0_becomeNextOf_48 : decode cX0_becomeNextOf 48 = .ok (.if_icmp .ge 31, 3) := by decide +kernel
theorem dX0_becomeNextOf_51 : decode cX0_becomeNextOf 51 = .ok (.iload 4, 2) := by decide +kernel
theorem dX0_becomeNextOf_53 : decode cX0_becomeNextOf 53 = .ok (.aload_n 0, 1) := by decide +kernel
theorem dX0_becomeNextOf_54 : decode cX0_becomeNextOf 54 = .ok (.iload 5, 2) := by decide +kernel
theorem dX0_becomeNextOf_56 : decode cX0_becomeNextOf 56 = .ok (.aload_n 0, 1) := by decide +kernel
theorem dX0_becomeNextOf_57 : decode cX0_becomeNextOf 57 = .ok (.iload 5, 2) := by decide +kernel
theorem dX0_becomeNextOf_59 : decode cX0_becomeNextOf 59 = .ok (.invokevirtual 58, 3) := by decide +kernel
theorem dX0_becomeNextOf_62 : decode cX0_becomeNextOf 62 = .ok (.aload_n 3, 1) := by decide +kernel
theorem dX0_becomeNextOf_63 : decode cX0_becomeNextOf 63 = .ok (.iload 5, 2) := by decide +kernel
theorem dX0_becomeNextOf_65 : decode cX0_becomeNextOf 65 = .ok (.iaload, 1) := by decide +kernel
theorem dX0_becomeNextOf_66 : decode cX0_becomeNextOf 66 = .ok (.isub, 1) := by decide +kernel
theorem dX0_becomeNextOf_67 : decode cX0_becomeNextOf 67 = .ok (.invokevirtual 61, 3) := by decide +kernel
theorem dX0_becomeNextOf_70 : decode cX0_becomeNextOf 70 = .ok (.iadd, 1) := by decide +kernel
theorem dX0_becomeNextOf_71 : decode cX0_becomeNextOf 71 = .ok (.istore 4, 2) := by decide +kernel
theorem dX0_becomeNextOf_73 : decode cX0_becomeNextOf 73 = .ok (.iinc 5 1, 3) := by decide +kernel
theorem dX0_becomeNextOf_76 : decode cX0_becomeNextOf 76 = .ok (.goto (-32), 3) := by decide +kernel
theorem dX0_becomeNextOf_79 : decode cX0_becomeNextOf 79 = .ok (.iload 4, 2) := by decide +kernel
theorem dX0_becomeNextOf_81 : decode cX0_becomeNextOf 81 = .ok (.ireturn, 1) := by decide +kernel
set_option maxRecDepth 20000 in
theorem ggX0_leafRowNext_X0_leafRow : GoodIn wsX0_leafRowNext wsX0_leafRow := goodIn_r _ [5, 6, 41, 42] (by decide +kernel) (by decide +kernel)
set_option maxRecDepth 20000 in
theorem gX0_leafRowNext_X0_leafRow : GoodIn wsX0_leafRowNext (wsV RX0 18 RX0 yX0_leafRow wsX0_leafRow) := goodIn_app (goodIn_of _ (by decide +kernel)) ggX0_leafRowNext_X0_leafRow
set_option maxRecDepth 20000 in
theorem ggX0_leafRowNext_X0_leafRowAsSeen : GoodIn wsX0_leafRowNext wsX0_leafRowAsSeen := goodIn_r _ [10, 1, 2, 3, 4, 5, 6, 41, 42] (by decide +kernel) (by decide +kernel)
set_option maxRecDepth 20000 in
theorem gX0_leafRowNext_X0_leafRowAsSeen : GoodIn wsX0_leafRowNext (wsV RX0 36 RX0 yX0_leafRowAsSeen wsX0_leafRowAsSeen) := goodIn_app (goodIn_of _ (by decide +kernel)) ggX0_leafRowNext_X0_leafRowAsSeen
set_option maxRecDepth 20000 in
theorem ggX0_leafRowNext_X0_countHolders : GoodIn wsX0_leafRowNext wsX0_countHolders := goodIn_r _ [13, 14, 15, 16, 17, 18, 19, 20] (by decide +kernel) (by decide +kernel)
set_option maxRecDepth 20000 in
theorem gX0_leafRowNext_X0_countHolders : GoodIn wsX0_leafRowNext (va_wsS RX0 40 yX0_countHolders wsX0_countHolders) := goodIn_app (goodIn_of _ (by decide +kernel)) ggX0_leafRowNext_X0_countHolders
set_option maxRecDepth 20000 in
theorem ggX0_leafRowNext_X0_countNeighbours : GoodIn wsX0_leafRowNext wsX0_countNeighbours := goodIn_r _ [23, 14, 15, 16, 17, 18, 19, 20] (by decide +kernel) (by decide +kernel)
set_option maxRecDepth 20000 in
theorem gX0_leafRowNext_X0_countNeighbours : GoodIn wsX0_leafRowNext (va_wsS RX0 43 yX0_countNeighbours wsX0_countNeighbours) := goodIn_app (goodIn_of _ (by decide +kernel)) ggX0_leafRowNext_X0_countNeighbours
set_option maxRecDepth 20000 in
theorem ggX0_leafRowNext_X0_bearsLeafNext : GoodIn wsX0_leafRowNext wsX0_bearsLeafNext := goodIn_r _ [27, 28, 29, 30, 4, 31, 32, 33, 34, 35, 36, 1, 2, 3, 5, 6, 37, 38, 39, 40, 41, 42] (by decide +kernel) (by decide +kernel)
set_option maxRecDepth 20000 in
theorem gX0_leafRowNext_X0_bearsLeafNext : GoodIn wsX0_leafRowNext (wsV RX0 64 RX0 yX0_bearsLeafNext wsX0_bearsLeafNext) := goodIn_app (goodIn_of _ (by decide +kernel)) ggX0_leafRowNext_X0_bearsLeafNext
theorem dX0_leafRowNext_0 : decode cX0_leafRowNext 0 = .ok (.iload_n 1, 1) := by decide +kernel
theorem dX0_leafRowNext_1 : decode cX0_leafRowNext 1 = .ok (.ifCond .ne 9, 3) := by decide +kernel
theorem dX0_leafRowNext_4 : decode cX0_leafRowNext 4 = .ok (.aload_n 0, 1) := by decide +kernel
theorem dX0_leafRowNext_5 : decode cX0_leafRowNext 5 = .ok (.iconst 0, 1) := by decide +kernel
theorem dX0_leafRowNext_6 : decode cX0_leafRowNext 6 = .ok (.invokevirtual 18, 3) := by decide +kernel
theorem dX0_leafRowNext_9 : decode cX0_leafRowNext 9 = .ok (.ireturn, 1) := by decide +kernel
theorem dX0_leafRowNext_10 : decode cX0_leafRowNext 10 = .ok (.aload_n 0, 1) := by decide +kernel
theorem dX0_leafRowNext_11 : decode cX0_leafRowNext 11 = .ok (.iload_n 1, 1) := by decide +kernel
theorem dX0_leafRowNext_12 : decode cX0_leafRowNext 12 = .ok (.iconst 1, 1) := by decide +kernel
theorem dX0_leafRowNext_13 : decode cX0_leafRowNext 13 = .ok (.isub, 1) := by decide +kernel
theorem dX0_leafRowNext_14 : decode cX0_leafRowNext 14 = .ok (.iload_n 2, 1) := by decide +kernel
theorem dX0_leafRowNext_15 : decode cX0_leafRowNext 15 = .ok (.invokevirtual 36, 3) := by decide +kernel
theorem dX0_leafRowNext_18 : decode cX0_leafRowNext 18 = .ok (.istore_n 3, 1) := by decide +kernel
theorem dX0_leafRowNext_19 : decode cX0_leafRowNext 19 = .ok (.aload_n 0, 1) := by decide +kernel
theorem dX0_leafRowNext_20 : decode cX0_leafRowNext 20 = .ok (.iload_n 1, 1) := by decide +kernel
theorem dX0_leafRowNext_21 : decode cX0_leafRowNext 21 = .ok (.iload_n 2, 1) := by decide +kernel
theorem dX0_leafRowNext_22 : decode cX0_leafRowNext 22 = .ok (.invokevirtual 36, 3) := by decide +kernel
theorem dX0_leafRowNext_25 : decode cX0_leafRowNext 25 = .ok (.istore 4, 2) := by decide +kernel
theorem dX0_leafRowNext_27 : decode cX0_leafRowNext 27 = .ok (.aload_n 0, 1) := by decide +kernel
theorem dX0_leafRowNext_28 : decode cX0_leafRowNext 28 = .ok (.iload_n 1, 1) := by decide +kernel
theorem dX0_leafRowNext_29 : decode cX0_leafRowNext 29 = .ok (.iconst 1, 1) := by decide +kernel
theorem dX0_leafRowNext_30 : decode cX0_leafRowNext 30 = .ok (.iadd, 1) := by decide +kernel
theorem dX0_leafRowNext_31 : decode cX0_leafRowNext 31 = .ok (.iload_n 2, 1) := by decide +kernel
theorem dX0_leafRowNext_32 : decode cX0_leafRowNext 32 = .ok (.invokevirtual 36, 3) := by decide +kernel
theorem dX0_leafRowNext_35 : decode cX0_leafRowNext 35 = .ok (.istore 5, 2) := by decide +kernel
theorem dX0_leafRowNext_37 : decode cX0_leafRowNext 37 = .ok (.iconst 0, 1) := by decide +kernel
theorem dX0_leafRowNext_38 : decode cX0_leafRowNext 38 = .ok (.istore 6, 2) := by decide +kernel
theorem dX0_leafRowNext_40 : decode cX0_leafRowNext 40 = .ok (.iconst 0, 1) := by decide +kernel
theorem dX0_leafRowNext_41 : decode cX0_leafRowNext 41 = .ok (.istore 7, 2) := by decide +kernel
theorem dX0_leafRowNext_43 : decode cX0_leafRowNext 43 = .ok (.iload 7, 2) := by decide +kernel
theorem dX0_leafRowNext_45 : decode cX0_leafRowNext 45 = .ok (.bipush 12, 2) := by decide +kernel
theorem dX0_leafRowNext_47 : decode cX0_leafRowNext 47 = .ok (.if_icmp .ge 60, 3) := by decide +kernel
theorem dX0_leafRowNext_50 : decode cX0_leafRowNext 50 = .ok (.iload_n 3, 1) := by decide +kernel
theorem dX0_leafRowNext_51 : decode cX0_leafRowNext 51 = .ok (.iload 7, 2) := by decide +kernel
theorem dX0_leafRowNext_53 : decode cX0_leafRowNext 53 = .ok (.ishr, 1) := by decide +kernel
theorem dX0_leafRowNext_54 : decode cX0_leafRowNext 54 = .ok (.invokestatic 40, 3) := by decide +kernel
theorem dX0_leafRowNext_57 : decode cX0_leafRowNext 57 = .ok (.istore 8, 2) := by decide +kernel
theorem dX0_leafRowNext_59 : decode cX0_leafRowNext 59 = .ok (.iload_n 3, 1) := by decide +kernel
theorem dX0_leafRowNext_60 : decode cX0_leafRowNext 60 = .ok (.iload 7, 2) := by decide +kernel
theorem dX0_leafRowNext_62 : decode cX0_leafRowNext 62 = .ok (.ishr, 1) := by decide +kernel
theorem dX0_leafRowNext_63 : decode cX0_leafRowNext 63 = .ok (.iload 4, 2) := by decide +kernel
theorem dX0_leafRowNext_65 : decode cX0_leafRowNext 65 = .ok (.iload 7, 2) := by decide +kernel
theorem dX0_leafRowNext_67 : decode cX0_leafRowNext 67 = .ok (.ishr, 1) := by decide +kernel
theorem dX0_leafRowNext_68 : decode cX0_leafRowNext 68 = .ok (.iload 5, 2) := by decide +kernel
theorem dX0_leafRowNext_70 : decode cX0_leafRowNext 70 = .ok (.iload 7, 2) := by decide +kernel
theorem dX0_leafRowNext_72 : decode cX0_leafRowNext 72 = .ok (.ishr, 1) := by decide +kernel
theorem dX0_leafRowNext_73 : decode cX0_leafRowNext 73 = .ok (.invokestatic 43, 3) := by decide +kernel
theorem dX0_leafRowNext_76 : decode cX0_leafRowNext 76 = .ok (.istore 9, 2) := by decide +kernel
theorem dX0_leafRowNext_78 : decode cX0_leafRowNext 78 = .ok (.aload_n 0, 1) := by decide +kernel
theorem dX0_leafRowNext_79 : decode cX0_leafRowNext 79 = .ok (.iload_n 1, 1) := by decide +kernel
theorem dX0_leafRowNext_80 : decode cX0_leafRowNext 80 = .ok (.iload 7, 2) := by decide +kernel
theorem dX0_leafRowNext_82 : decode cX0_leafRowNext 82 = .ok (.iload 8, 2) := by decide +kernel
theorem dX0_leafRowNext_84 : decode cX0_leafRowNext 84 = .ok (.iload 9, 2) := by decide +kernel
theorem dX0_leafRowNext_86 : decode cX0_leafRowNext 86 = .ok (.invokevirtual 64, 3) := by decide +kernel
theorem dX0_leafRowNext_89 : decode cX0_leafRowNext 89 = .ok (.ifCond .eq 12, 3) := by decide +kernel
theorem dX0_leafRowNext_92 : decode cX0_leafRowNext 92 = .ok (.iload 6, 2) := by decide +kernel
theorem dX0_leafRowNext_94 : decode cX0_leafRowNext 94 = .ok (.iconst 1, 1) := by decide +kernel
theorem dX0_leafRowNext_95 : decode cX0_leafRowNext 95 = .ok (.iload 7, 2) := by decide +kernel
theorem dX0_leafRowNext_97 : decode cX0_leafRowNext 97 = .ok (.ishl, 1) := by decide +kernel
theorem dX0_leafRowNext_98 : decode cX0_leafRowNext 98 = .ok (.ior, 1) := by decide +kernel
theorem dX0_leafRowNext_99 : decode cX0_leafRowNext 99 = .ok (.istore 6, 2) := by decide +kernel
theorem dX0_leafRowNext_101 : decode cX0_leafRowNext 101 = .ok (.iinc 7 1, 3) := by decide +kernel
theorem dX0_leafRowNext_104 : decode cX0_leafRowNext 104 = .ok (.goto (-61), 3) := by decide +kernel
theorem dX0_leafRowNext_107 : decode cX0_leafRowNext 107 = .ok (.iload 6, 2) := by decide +kernel
theorem dX0_leafRowNext_109 : decode cX0_leafRowNext 109 = .ok (.ireturn, 1) := by decide +kernel
set_option maxRecDepth 20000 in
theorem ggX0_bearsLeafNext_X0_hasCutAt : GoodIn wsX0_bearsLeafNext wsX0_hasCutAt := goodIn_r _ [5, 6, 20, 21] (by decide +kernel) (by decide +kernel)
set_option maxRecDepth 20000 in
theorem gX0_bearsLeafNext_X0_hasCutAt : GoodIn wsX0_bearsLeafNext (wsV RX0 26 RX0 yX0_hasCutAt wsX0_hasCutAt) := goodIn_app (goodIn_of _ (by decide +kernel)) ggX0_bearsLeafNext_X0_hasCutAt
set_option maxRecDepth 20000 in
theorem ggX0_bearsLeafNext_X0_shadeAt : GoodIn wsX0_bearsLeafNext wsX0_shadeAt := goodIn_r _ [10, 11, 12, 13, 4, 14, 15, 20, 21] (by decide +kernel) (by decide +kernel)
set_option maxRecDepth 20000 in
theorem gX0_bearsLeafNext_X0_shadeAt : GoodIn wsX0_bearsLeafNext (wsV RX0 47 RX0 yX0_shadeAt wsX0_shadeAt) := goodIn_app (goodIn_of _ (by decide +kernel)) ggX0_bearsLeafNext_X0_shadeAt
set_option maxRecDepth 20000 in
theorem ggX0_bearsLeafNext_X0_hasLeafAt : GoodIn wsX0_bearsLeafNext wsX0_hasLeafAt := goodIn_r _ [19, 11, 12, 13, 4, 14, 15, 20, 21] (by decide +kernel) (by decide +kernel)
set_option maxRecDepth 20000 in
theorem gX0_bearsLeafNext_X0_hasLeafAt : GoodIn wsX0_bearsLeafNext (wsV RX0 22 RX0 yX0_hasLeafAt wsX0_hasLeafAt) := goodIn_app (goodIn_of _ (by decide +kernel)) ggX0_bearsLeafNext_X0_hasLeafAt
theorem dX0_bearsLeafNext_0 : decode cX0_bearsLeafNext 0 = .ok (.iload_n 3, 1) := by decide +kernel
theorem dX0_bearsLeafNext_1 : decode cX0_bearsLeafNext 1 = .ok (.ifCond .eq 12, 3) := by decide +kernel
theorem dX0_bearsLeafNext_4 : decode cX0_bearsLeafNext 4 = .ok (.aload_n 0, 1) := by decide +kernel
theorem dX0_bearsLeafNext_5 : decode cX0_bearsLeafNext 5 = .ok (.iload_n 1, 1) := by decide +kernel
theorem dX0_bearsLeafNext_6 : decode cX0_bearsLeafNext 6 = .ok (.iload_n 2, 1) := by decide +kernel
theorem dX0_bearsLeafNext_7 : decode cX0_bearsLeafNext 7 = .ok (.invokevirtual 26, 3) := by decide +kernel
theorem dX0_bearsLeafNext_10 : decode cX0_bearsLeafNext 10 = .ok (.ifCond .eq 5, 3) := by decide +kernel
theorem dX0_bearsLeafNext_13 : decode cX0_bearsLeafNext 13 = .ok (.iconst 0, 1) := by decide +kernel
theorem dX0_bearsLeafNext_14 : decode cX0_bearsLeafNext 14 = .ok (.ireturn, 1) := by decide +kernel
theorem dX0_bearsLeafNext_15 : decode cX0_bearsLeafNext 15 = .ok (.aload_n 0, 1) := by decide +kernel
theorem dX0_bearsLeafNext_16 : decode cX0_bearsLeafNext 16 = .ok (.iload_n 1, 1) := by decide +kernel
theorem dX0_bearsLeafNext_17 : decode cX0_bearsLeafNext 17 = .ok (.iload_n 2, 1) := by decide +kernel
theorem dX0_bearsLeafNext_18 : decode cX0_bearsLeafNext 18 = .ok (.invokevirtual 47, 3) := by decide +kernel
theorem dX0_bearsLeafNext_21 : decode cX0_bearsLeafNext 21 = .ok (.istore 5, 2) := by decide +kernel
theorem dX0_bearsLeafNext_23 : decode cX0_bearsLeafNext 23 = .ok (.aload_n 0, 1) := by decide +kernel
theorem dX0_bearsLeafNext_24 : decode cX0_bearsLeafNext 24 = .ok (.iload_n 1, 1) := by decide +kernel
theorem dX0_bearsLeafNext_25 : decode cX0_bearsLeafNext 25 = .ok (.iload_n 2, 1) := by decide +kernel
theorem dX0_bearsLeafNext_26 : decode cX0_bearsLeafNext 26 = .ok (.invokevirtual 22, 3) := by decide +kernel
theorem dX0_bearsLeafNext_29 : decode cX0_bearsLeafNext 29 = .ok (.ifCond .eq 21, 3) := by decide +kernel
theorem dX0_bearsLeafNext_32 : decode cX0_bearsLeafNext 32 = .ok (.iload 4, 2) := by decide +kernel
theorem dX0_bearsLeafNext_34 : decode cX0_bearsLeafNext 34 = .ok (.iconst 5, 1) := by decide +kernel
theorem dX0_bearsLeafNext_35 : decode cX0_bearsLeafNext 35 = .ok (.if_icmp .gt 13, 3) := by decide +kernel
theorem dX0_bearsLeafNext_38 : decode cX0_bearsLeafNext 38 = .ok (.iload 5, 2) := by decide +kernel
theorem dX0_bearsLeafNext_40 : decode cX0_bearsLeafNext 40 = .ok (.iconst 4, 1) := by decide +kernel
theorem dX0_bearsLeafNext_41 : decode cX0_bearsLeafNext 41 = .ok (.if_icmp .gt 7, 3) := by decide +kernel
theorem dX0_bearsLeafNext_44 : decode cX0_bearsLeafNext 44 = .ok (.iconst 1, 1) := by decide +kernel
theorem dX0_bearsLeafNext_45 : decode cX0_bearsLeafNext 45 = .ok (.goto 4, 3) := by decide +kernel
theorem dX0_bearsLeafNext_48 : decode cX0_bearsLeafNext 48 = .ok (.iconst 0, 1) := by decide +kernel
theorem dX0_bearsLeafNext_49 : decode cX0_bearsLeafNext 49 = .ok (.ireturn, 1) := by decide +kernel
theorem dX0_bearsLeafNext_50 : decode cX0_bearsLeafNext 50 = .ok (.iload_n 3, 1) := by decide +kernel
theorem dX0_bearsLeafNext_51 : decode cX0_bearsLeafNext 51 = .ok (.iconst 2, 1) := by decide +kernel
theorem dX0_bearsLeafNext_52 : decode cX0_bearsLeafNext 52 = .ok (.if_icmp .gt 19, 3) := by decide +kernel
theorem dX0_bearsLeafNext_55 : decode cX0_bearsLeafNext 55 = .ok (.iload 4, 2) := by decide +kernel
theorem dX0_bearsLeafNext_57 : decode cX0_bearsLeafNext 57 = .ok (.iconst 3, 1) := by decide +kernel
theorem dX0_bearsLeafNext_58 : decode cX0_bearsLeafNext 58 = .ok (.if_icmp .gt 13, 3) := by decide +kernel
theorem dX0_bearsLeafNext_61 : decode cX0_bearsLeafNext 61 = .ok (.iload 5, 2) := by decide +kernel
theorem dX0_bearsLeafNext_63 : decode cX0_bearsLeafNext 63 = .ok (.iconst 2, 1) := by decide +kernel
theorem dX0_bearsLeafNext_64 : decode cX0_bearsLeafNext 64 = .ok (.if_icmp .gt 7, 3) := by decide +kernel
theorem dX0_bearsLeafNext_67 : decode cX0_bearsLeafNext 67 = .ok (.iconst 1, 1) := by decide +kernel
theorem dX0_bearsLeafNext_68 : decode cX0_bearsLeafNext 68 = .ok (.goto 4, 3) := by decide +kernel
theorem dX0_bearsLeafNext_71 : decode cX0_bearsLeafNext 71 = .ok (.iconst 0, 1) := by decide +kernel
theorem dX0_bearsLeafNext_72 : decode cX0_bearsLeafNext 72 = .ok (.ireturn, 1) := by decide +kernel
set_option maxRecDepth 20000 in
theorem ggX0_takeTopmost_X0_hasLeafAt : GoodIn wsX0_takeTopmost wsX0_hasLeafAt := goodIn_r _ [5, 6, 7, 8, 4, 9, 10, 18, 19] (by decide +kernel) (by decide +kernel)
set_option maxRecDepth 20000 in
theorem gX0_takeTopmost_X0_hasLeafAt : GoodIn wsX0_takeTopmost (wsV RX0 22 RX0 yX0_hasLeafAt wsX0_hasLeafAt) := goodIn_app (goodIn_of _ (by decide +kernel)) ggX0_takeTopmost_X0_hasLeafAt
set_option maxRecDepth 20000 in
theorem ggX0_takeTopmost_X0_takeLeaf : GoodIn wsX0_takeTopmost wsX0_takeLeaf := goodIn_r _ [14, 10, 15, 16, 17, 18, 19] (by decide +kernel) (by decide +kernel)
set_option maxRecDepth 20000 in
theorem gX0_takeTopmost_X0_takeLeaf : GoodIn wsX0_takeTopmost (wsV RX0 32 RX0 yX0_takeLeaf wsX0_takeLeaf) := goodIn_app (goodIn_of _ (by decide +kernel)) ggX0_takeTopmost_X0_takeLeaf
theorem dX0_takeTopmost_0 : decode cX0_takeTopmost 0 = .ok (.iconst 0, 1) := by decide +kernel
theorem dX0_takeTopmost_1 : decode cX0_takeTopmost 1 = .ok (.istore_n 3, 1) := by decide +kernel
theorem dX0_takeTopmost_2 : decode cX0_takeTopmost 2 = .ok (.bipush 7, 2) := by decide +kernel
theorem dX0_takeTopmost_4 : decode cX0_takeTopmost 4 = .ok (.istore 4, 2) := by decide +kernel
theorem dX0_takeTopmost_6 : decode cX0_takeTopmost 6 = .ok (.iload 4, 2) := by decide +kernel
theorem dX0_takeTopmost_8 : decode cX0_takeTopmost 8 = .ok (.ifCond .lt 34, 3) := by decide +kernel
theorem dX0_takeTopmost_11 : decode cX0_takeTopmost 11 = .ok (.iload_n 3, 1) := by decide +kernel
theorem dX0_takeTopmost_12 : decode cX0_takeTopmost 12 = .ok (.iload_n 2, 1) := by decide +kernel
theorem dX0_takeTopmost_13 : decode cX0_takeTopmost 13 = .ok (.if_icmp .ge 29, 3) := by decide +kernel
theorem dX0_takeTopmost_16 : decode cX0_takeTopmost 16 = .ok (.aload_n 0, 1) := by decide +kernel
theorem dX0_takeTopmost_17 : decode cX0_takeTopmost 17 = .ok (.iload 4, 2) := by decide +kernel
theorem dX0_takeTopmost_19 : decode cX0_takeTopmost 19 = .ok (.iload_n 1, 1) := by decide +kernel
theorem dX0_takeTopmost_20 : decode cX0_takeTopmost 20 = .ok (.invokevirtual 22, 3) := by decide +kernel
theorem dX0_takeTopmost_23 : decode cX0_takeTopmost 23 = .ok (.ifCond .eq 13, 3) := by decide +kernel
theorem dX0_takeTopmost_26 : decode cX0_takeTopmost 26 = .ok (.aload_n 0, 1) := by decide +kernel
theorem dX0_takeTopmost_27 : decode cX0_takeTopmost 27 = .ok (.iload 4, 2) := by decide +kernel
theorem dX0_takeTopmost_29 : decode cX0_takeTopmost 29 = .ok (.iload_n 1, 1) := by decide +kernel
theorem dX0_takeTopmost_30 : decode cX0_takeTopmost 30 = .ok (.invokevirtual 32, 3) := by decide +kernel
theorem dX0_takeTopmost_33 : decode cX0_takeTopmost 33 = .ok (.iinc 3 1, 3) := by decide +kernel
theorem dX0_takeTopmost_36 : decode cX0_takeTopmost 36 = .ok (.iinc 4 (-1), 3) := by decide +kernel
theorem dX0_takeTopmost_39 : decode cX0_takeTopmost 39 = .ok (.goto (-33), 3) := by decide +kernel
theorem dX0_takeTopmost_42 : decode cX0_takeTopmost 42 = .ok (.iload_n 3, 1) := by decide +kernel
theorem dX0_takeTopmost_43 : decode cX0_takeTopmost 43 = .ok (.ireturn, 1) := by decide +kernel
set_option maxRecDepth 20000 in
theorem ggX0_takeLeaf_X1_isCell : GoodIn wsX0_takeLeaf wsX1_isCell := goodIn_r _ [4] (by decide +kernel) (by decide +kernel)
set_option maxRecDepth 20000 in
theorem gX0_takeLeaf_X1_isCell_n29 : GoodIn wsX0_takeLeaf (wsX1_isCell) := ggX0_takeLeaf_X1_isCell
theorem dX0_takeLeaf_0 : decode cX0_takeLeaf 0 = .ok (.iload_n 1, 1) := by decide +kernel
theorem dX0_takeLeaf_1 : decode cX0_takeLeaf 1 = .ok (.iload_n 2, 1) := by decide +kernel
theorem dX0_takeLeaf_2 : decode cX0_takeLeaf 2 = .ok (.invokestatic 29, 3) := by decide +kernel
theorem dX0_takeLeaf_5 : decode cX0_takeLeaf 5 = .ok (.ifCond .eq 17, 3) := by decide +kernel
theorem dX0_takeLeaf_8 : decode cX0_takeLeaf 8 = .ok (.aload_n 0, 1) := by decide +kernel
theorem dX0_takeLeaf_9 : decode cX0_takeLeaf 9 = .ok (.getfield 9, 3) := by decide +kernel
theorem dX0_takeLeaf_12 : decode cX0_takeLeaf 12 = .ok (.iload_n 1, 1) := by decide +kernel
theorem dX0_takeLeaf_13 : decode cX0_takeLeaf 13 = .ok (.dup2, 1) := by decide +kernel
theorem dX0_takeLeaf_14 : decode cX0_takeLeaf 14 = .ok (.iaload, 1) := by decide +kernel
theorem dX0_takeLeaf_15 : decode cX0_takeLeaf 15 = .ok (.iconst 1, 1) := by decide +kernel
theorem dX0_takeLeaf_16 : decode cX0_takeLeaf 16 = .ok (.iload_n 2, 1) := by decide +kernel
theorem dX0_takeLeaf_17 : decode cX0_takeLeaf 17 = .ok (.ishl, 1) := by decide +kernel
theorem dX0_takeLeaf_18 : decode cX0_takeLeaf 18 = .ok (.iconst (-1), 1) := by decide +kernel
theorem dX0_takeLeaf_19 : decode cX0_takeLeaf 19 = .ok (.ixor, 1) := by decide +kernel
theorem dX0_takeLeaf_20 : decode cX0_takeLeaf 20 = .ok (.iand, 1) := by decide +kernel
theorem dX0_takeLeaf_21 : decode cX0_takeLeaf 21 = .ok (.iastore, 1) := by decide +kernel
theorem dX0_takeLeaf_22 : decode cX0_takeLeaf 22 = .ok (.return_, 1) := by decide +kernel
theorem dX0_hasCutAt_0 : decode cX0_hasCutAt 0 = .ok (.iload_n 1, 1) := by decide +kernel
theorem dX0_hasCutAt_1 : decode cX0_hasCutAt 1 = .ok (.ifCond .lt 27, 3) := by decide +kernel
theorem dX0_hasCutAt_4 : decode cX0_hasCutAt 4 = .ok (.iload_n 1, 1) := by decide +kernel
theorem dX0_hasCutAt_5 : decode cX0_hasCutAt 5 = .ok (.bipush 8, 2) := by decide +kernel
theorem dX0_hasCutAt_7 : decode cX0_hasCutAt 7 = .ok (.if_icmp .ge 21, 3) := by decide +kernel
theorem dX0_hasCutAt_10 : decode cX0_hasCutAt 10 = .ok (.aload_n 0, 1) := by decide +kernel
theorem dX0_hasCutAt_11 : decode cX0_hasCutAt 11 = .ok (.getfield 15, 3) := by decide +kernel
theorem dX0_hasCutAt_14 : decode cX0_hasCutAt 14 = .ok (.iload_n 1, 1) := by decide +kernel
theorem dX0_hasCutAt_15 : decode cX0_hasCutAt 15 = .ok (.iaload, 1) := by decide +kernel
theorem dX0_hasCutAt_16 : decode cX0_hasCutAt 16 = .ok (.iload_n 2, 1) := by decide +kernel
theorem dX0_hasCutAt_17 : decode cX0_hasCutAt 17 = .ok (.ishr, 1) := by decide +kernel
theorem dX0_hasCutAt_18 : decode cX0_hasCutAt 18 = .ok (.iconst 1, 1) := by decide +kernel
theorem dX0_hasCutAt_19 : decode cX0_hasCutAt 19 = .ok (.iand, 1) := by decide +kernel
theorem dX0_hasCutAt_20 : decode cX0_hasCutAt 20 = .ok (.iconst 1, 1) := by decide +kernel
theorem dX0_hasCutAt_21 : decode cX0_hasCutAt 21 = .ok (.if_icmp .ne 7, 3) := by decide +kernel
theorem dX0_hasCutAt_24 : decode cX0_hasCutAt 24 = .ok (.iconst 1, 1) := by decide +kernel
theorem dX0_hasCutAt_25 : decode cX0_hasCutAt 25 = .ok (.goto 4, 3) := by decide +kernel
theorem dX0_hasCutAt_28 : decode cX0_hasCutAt 28 = .ok (.iconst 0, 1) := by decide +kernel
theorem dX0_hasCutAt_29 : decode cX0_hasCutAt 29 = .ok (.ireturn, 1) := by decide +kernel
theorem dX0_leafRow_0 : decode cX0_leafRow 0 = .ok (.iload_n 1, 1) := by decide +kernel
theorem dX0_leafRow_1 : decode cX0_leafRow 1 = .ok (.ifCond .lt 18, 3) := by decide +kernel
theorem dX0_leafRow_4 : decode cX0_leafRow 4 = .ok (.iload_n 1, 1) := by decide +kernel
theorem dX0_leafRow_5 : decode cX0_leafRow 5 = .ok (.bipush 8, 2) := by decide +kernel
theorem dX0_leafRow_7 : decode cX0_leafRow 7 = .ok (.if_icmp .ge 12, 3) := by decide +kernel
theorem dX0_leafRow_10 : decode cX0_leafRow 10 = .ok (.aload_n 0, 1) := by decide +kernel
theorem dX0_leafRow_11 : decode cX0_leafRow 11 = .ok (.getfield 9, 3) := by decide +kernel
theorem dX0_leafRow_14 : decode cX0_leafRow 14 = .ok (.iload_n 1, 1) := by decide +kernel
theorem dX0_leafRow_15 : decode cX0_leafRow 15 = .ok (.iaload, 1) := by decide +kernel
theorem dX0_leafRow_16 : decode cX0_leafRow 16 = .ok (.goto 4, 3) := by decide +kernel
theorem dX0_leafRow_19 : decode cX0_leafRow 19 = .ok (.iconst 0, 1) := by decide +kernel
theorem dX0_leafRow_20 : decode cX0_leafRow 20 = .ok (.ireturn, 1) := by decide +kernel
set_option maxRecDepth 20000 in
theorem ggX0_countHolders_J6_bitCount_0f7a4 : GoodIn wsX0_countHolders wsJ6_bitCount_0f7a4 := goodIn_r _ [4, 5, 6, 7] (by decide +kernel) (by decide +kernel)
set_option maxRecDepth 20000 in
theorem gX0_countHolders_J6_bitCount_0f7a4 : GoodIn wsX0_countHolders (va_wsS RX0 50 yJ6_bitCount_0f7a4 wsJ6_bitCount_0f7a4) := goodIn_app (goodIn_of _ (by decide +kernel)) ggX0_countHolders_J6_bitCount_0f7a4
theorem dX0_countHolders_0 : decode cX0_countHolders 0 = .ok (.iload_n 0, 1) := by decide +kernel
theorem dX0_countHolders_1 : decode cX0_countHolders 1 = .ok (.bipush 7, 2) := by decide +kernel
theorem dX0_countHolders_3 : decode cX0_countHolders 3 = .ok (.iand, 1) := by decide +kernel
theorem dX0_countHolders_4 : decode cX0_countHolders 4 = .ok (.invokestatic 50, 3) := by decide +kernel
theorem dX0_countHolders_7 : decode cX0_countHolders 7 = .ok (.ireturn, 1) := by decide +kernel
set_option maxRecDepth 20000 in
theorem ggX0_countNeighbours_J6_bitCount_0f7a4 : GoodIn wsX0_countNeighbours wsJ6_bitCount_0f7a4 := goodIn_r _ [4, 5, 6, 7] (by decide +kernel) (by decide +kernel)
set_option maxRecDepth 20000 in
theorem gX0_countNeighbours_J6_bitCount_0f7a4 : GoodIn wsX0_countNeighbours (va_wsS RX0 50 yJ6_bitCount_0f7a4 wsJ6_bitCount_0f7a4) := goodIn_app (goodIn_of _ (by decide +kernel)) ggX0_countNeighbours_J6_bitCount_0f7a4
theorem dX0_countNeighbours_0 : decode cX0_countNeighbours 0 = .ok (.iload_n 0, 1) := by decide +kernel
theorem dX0_countNeighbours_1 : decode cX0_countNeighbours 1 = .ok (.bipush 7, 2) := by decide +kernel
theorem dX0_countNeighbours_3 : decode cX0_countNeighbours 3 = .ok (.iand, 1) := by decide +kernel
theorem dX0_countNeighbours_4 : decode cX0_countNeighbours 4 = .ok (.invokestatic 50, 3) := by decide +kernel
theorem dX0_countNeighbours_7 : decode cX0_countNeighbours 7 = .ok (.iload_n 1, 1) := by decide +kernel
theorem dX0_countNeighbours_8 : decode cX0_countNeighbours 8 = .ok (.iconst 5, 1) := by decide +kernel
theorem dX0_countNeighbours_9 : decode cX0_countNeighbours 9 = .ok (.iand, 1) := by decide +kernel
theorem dX0_countNeighbours_10 : decode cX0_countNeighbours 10 = .ok (.invokestatic 50, 3) := by decide +kernel
theorem dX0_countNeighbours_13 : decode cX0_countNeighbours 13 = .ok (.iadd, 1) := by decide +kernel
theorem dX0_countNeighbours_14 : decode cX0_countNeighbours 14 = .ok (.iload_n 2, 1) := by decide +kernel
theorem dX0_countNeighbours_15 : decode cX0_countNeighbours 15 = .ok (.bipush 7, 2) := by decide +kernel
theorem dX0_countNeighbours_17 : decode cX0_countNeighbours 17 = .ok (.iand, 1) := by decide +kernel
theorem dX0_countNeighbours_18 : decode cX0_countNeighbours 18 = .ok (.invokestatic 50, 3) := by decide +kernel
theorem dX0_countNeighbours_21 : decode cX0_countNeighbours 21 = .ok (.iadd, 1) := by decide +kernel
theorem dX0_countNeighbours_22 : decode cX0_countNeighbours 22 = .ok (.ireturn, 1) := by decide +kernel
set_option maxRecDepth 20000 in
theorem ggX0_leafRowAsSeen_X0_leafRow : GoodIn wsX0_leafRowAsSeen wsX0_leafRow := goodIn_r _ [5, 6, 7, 8] (by decide +kernel) (by decide +kernel)
set_option maxRecDepth 20000 in
theorem gX0_leafRowAsSeen_X0_leafRow : GoodIn wsX0_leafRowAsSeen (wsV RX0 18 RX0 yX0_leafRow wsX0_leafRow) := goodIn_app (goodIn_of _ (by decide +kernel)) ggX0_leafRowAsSeen_X0_leafRow
theorem dX0_leafRowAsSeen_0 : decode cX0_leafRowAsSeen 0 = .ok (.aload_n 0, 1) := by decide +kernel
theorem dX0_leafRowAsSeen_1 : decode cX0_leafRowAsSeen 1 = .ok (.iload_n 1, 1) := by decide +kernel
theorem dX0_leafRowAsSeen_2 : decode cX0_leafRowAsSeen 2 = .ok (.invokevirtual 18, 3) := by decide +kernel
theorem dX0_leafRowAsSeen_5 : decode cX0_leafRowAsSeen 5 = .ok (.istore_n 3, 1) := by decide +kernel
theorem dX0_leafRowAsSeen_6 : decode cX0_leafRowAsSeen 6 = .ok (.iload_n 3, 1) := by decide +kernel
theorem dX0_leafRowAsSeen_7 : decode cX0_leafRowAsSeen 7 = .ok (.iconst 1, 1) := by decide +kernel
theorem dX0_leafRowAsSeen_8 : decode cX0_leafRowAsSeen 8 = .ok (.iand, 1) := by decide +kernel
theorem dX0_leafRowAsSeen_9 : decode cX0_leafRowAsSeen 9 = .ok (.istore 4, 2) := by decide +kernel
theorem dX0_leafRowAsSeen_11 : decode cX0_leafRowAsSeen 11 = .ok (.iload_n 3, 1) := by decide +kernel
theorem dX0_leafRowAsSeen_12 : decode cX0_leafRowAsSeen 12 = .ok (.bipush 11, 2) := by decide +kernel
theorem dX0_leafRowAsSeen_14 : decode cX0_leafRowAsSeen 14 = .ok (.ishr, 1) := by decide +kernel
theorem dX0_leafRowAsSeen_15 : decode cX0_leafRowAsSeen 15 = .ok (.iconst 1, 1) := by decide +kernel
theorem dX0_leafRowAsSeen_16 : decode cX0_leafRowAsSeen 16 = .ok (.iand, 1) := by decide +kernel
theorem dX0_leafRowAsSeen_17 : decode cX0_leafRowAsSeen 17 = .ok (.istore 5, 2) := by decide +kernel
theorem dX0_leafRowAsSeen_19 : decode cX0_leafRowAsSeen 19 = .ok (.iload_n 3, 1) := by decide +kernel
theorem dX0_leafRowAsSeen_20 : decode cX0_leafRowAsSeen 20 = .ok (.iconst 1, 1) := by decide +kernel
theorem dX0_leafRowAsSeen_21 : decode cX0_leafRowAsSeen 21 = .ok (.ishl, 1) := by decide +kernel
theorem dX0_leafRowAsSeen_22 : decode cX0_leafRowAsSeen 22 = .ok (.istore 6, 2) := by decide +kernel
theorem dX0_leafRowAsSeen_24 : decode cX0_leafRowAsSeen 24 = .ok (.iload_n 2, 1) := by decide +kernel
theorem dX0_leafRowAsSeen_25 : decode cX0_leafRowAsSeen 25 = .ok (.iconst 1, 1) := by decide +kernel
theorem dX0_leafRowAsSeen_26 : decode cX0_leafRowAsSeen 26 = .ok (.if_icmp .ne 19, 3) := by decide +kernel
theorem dX0_leafRowAsSeen_29 : decode cX0_leafRowAsSeen 29 = .ok (.iload 6, 2) := by decide +kernel
theorem dX0_leafRowAsSeen_31 : decode cX0_leafRowAsSeen 31 = .ok (.iload 5, 2) := by decide +kernel
theorem dX0_leafRowAsSeen_33 : decode cX0_leafRowAsSeen 33 = .ok (.iload 4, 2) := by decide +kernel
theorem dX0_leafRowAsSeen_35 : decode cX0_leafRowAsSeen 35 = .ok (.bipush 13, 2) := by decide +kernel
theorem dX0_leafRowAsSeen_37 : decode cX0_leafRowAsSeen 37 = .ok (.ishl, 1) := by decide +kernel
theorem dX0_leafRowAsSeen_38 : decode cX0_leafRowAsSeen 38 = .ok (.ior, 1) := by decide +kernel
theorem dX0_leafRowAsSeen_39 : decode cX0_leafRowAsSeen 39 = .ok (.ior, 1) := by decide +kernel
theorem dX0_leafRowAsSeen_40 : decode cX0_leafRowAsSeen 40 = .ok (.istore 6, 2) := by decide +kernel
theorem dX0_leafRowAsSeen_42 : decode cX0_leafRowAsSeen 42 = .ok (.goto 21, 3) := by decide +kernel
theorem dX0_leafRowAsSeen_45 : decode cX0_leafRowAsSeen 45 = .ok (.iload_n 2, 1) := by decide +kernel
theorem dX0_leafRowAsSeen_46 : decode cX0_leafRowAsSeen 46 = .ok (.iconst 2, 1) := by decide +kernel
theorem dX0_leafRowAsSeen_47 : decode cX0_leafRowAsSeen 47 = .ok (.if_icmp .ne 16, 3) := by decide +kernel
theorem dX0_leafRowAsSeen_50 : decode cX0_leafRowAsSeen 50 = .ok (.iload 6, 2) := by decide +kernel
theorem dX0_leafRowAsSeen_52 : decode cX0_leafRowAsSeen 52 = .ok (.iload 4, 2) := by decide +kernel
theorem dX0_leafRowAsSeen_54 : decode cX0_leafRowAsSeen 54 = .ok (.iload 5, 2) := by decide +kernel
theorem dX0_leafRowAsSeen_56 : decode cX0_leafRowAsSeen 56 = .ok (.bipush 13, 2) := by decide +kernel
theorem dX0_leafRowAsSeen_58 : decode cX0_leafRowAsSeen 58 = .ok (.ishl, 1) := by decide +kernel
theorem dX0_leafRowAsSeen_59 : decode cX0_leafRowAsSeen 59 = .ok (.ior, 1) := by decide +kernel
theorem dX0_leafRowAsSeen_60 : decode cX0_leafRowAsSeen 60 = .ok (.ior, 1) := by decide +kernel
theorem dX0_leafRowAsSeen_61 : decode cX0_leafRowAsSeen 61 = .ok (.istore 6, 2) := by decide +kernel
theorem dX0_leafRowAsSeen_63 : decode cX0_leafRowAsSeen 63 = .ok (.iload 6, 2) := by decide +kernel
theorem dX0_leafRowAsSeen_65 : decode cX0_leafRowAsSeen 65 = .ok (.ireturn, 1) := by decide +kernel
set_option maxRecDepth 20000 in
theorem ggX1_init_X0_init : GoodIn wsX1_init wsX0_init := goodIn_r _ [21, 22, 2, 3, 13, 23, 24, 25, 26] (by decide +kernel) (by decide +kernel)
set_option maxRecDepth 20000 in
theorem gX1_init_X0_init_n9 : GoodIn wsX1_init (wsX0_init) := ggX1_init_X0_init
theorem dX1_init_0 : decode cX1_init 0 = .ok (.aload_n 0, 1) := by decide +kernel
theorem dX1_init_1 : decode cX1_init 1 = .ok (.invokespecial 1, 3) := by decide +kernel
theorem dX1_init_4 : decode cX1_init 4 = .ok (.aload_n 0, 1) := by decide +kernel
theorem dX1_init_5 : decode cX1_init 5 = .ok (.new 7, 3) := by decide +kernel
theorem dX1_init_8 : decode cX1_init 8 = .ok (.dup, 1) := by decide +kernel
theorem dX1_init_9 : decode cX1_init 9 = .ok (.invokespecial 9, 3) := by decide +kernel
theorem dX1_init_12 : decode cX1_init 12 = .ok (.putfield 10, 3) := by decide +kernel
theorem dX1_init_15 : decode cX1_init 15 = .ok (.aload_n 0, 1) := by decide +kernel
theorem dX1_init_16 : decode cX1_init 16 = .ok (.new 7, 3) := by decide +kernel
theorem dX1_init_19 : decode cX1_init 19 = .ok (.dup, 1) := by decide +kernel
theorem dX1_init_20 : decode cX1_init 20 = .ok (.invokespecial 9, 3) := by decide +kernel
theorem dX1_init_23 : decode cX1_init 23 = .ok (.putfield 16, 3) := by decide +kernel
theorem dX1_init_26 : decode cX1_init 26 = .ok (.aload_n 0, 1) := by decide +kernel
theorem dX1_init_27 : decode cX1_init 27 = .ok (.new 7, 3) := by decide +kernel
theorem dX1_init_30 : decode cX1_init 30 = .ok (.dup, 1) := by decide +kernel
theorem dX1_init_31 : decode cX1_init 31 = .ok (.invokespecial 9, 3) := by decide +kernel
theorem dX1_init_34 : decode cX1_init 34 = .ok (.putfield 19, 3) := by decide +kernel
theorem dX1_init_37 : decode cX1_init 37 = .ok (.aload_n 0, 1) := by decide +kernel
theorem dX1_init_38 : decode cX1_init 38 = .ok (.bipush 61, 2) := by decide +kernel
theorem dX1_init_40 : decode cX1_init 40 = .ok (.newarray .long, 2) := by decide +kernel
theorem dX1_init_42 : decode cX1_init 42 = .ok (.putfield 22, 3) := by decide +kernel
theorem dX1_init_45 : decode cX1_init 45 = .ok (.aload_n 0, 1) := by decide +kernel
theorem dX1_init_46 : decode cX1_init 46 = .ok (.bipush 61, 2) := by decide +kernel
theorem dX1_init_48 : decode cX1_init 48 = .ok (.newarray .long, 2) := by decide +kernel
theorem dX1_init_50 : decode cX1_init 50 = .ok (.putfield 26, 3) := by decide +kernel
theorem dX1_init_53 : decode cX1_init 53 = .ok (.aload_n 0, 1) := by decide +kernel
theorem dX1_init_54 : decode cX1_init 54 = .ok (.bipush 12, 2) := by decide +kernel
theorem dX1_init_56 : decode cX1_init 56 = .ok (.newarray .int, 2) := by decide +kernel
theorem dX1_init_58 : decode cX1_init 58 = .ok (.putfield 29, 3) := by decide +kernel
theorem dX1_init_61 : decode cX1_init 61 = .ok (.aload_n 0, 1) := by decide +kernel
theorem dX1_init_62 : decode cX1_init 62 = .ok (.iconst 0, 1) := by decide +kernel
theorem dX1_init_63 : decode cX1_init 63 = .ok (.putfield 33, 3) := by decide +kernel
theorem dX1_init_66 : decode cX1_init 66 = .ok (.aload_n 0, 1) := by decide +kernel
theorem dX1_init_67 : decode cX1_init 67 = .ok (.iconst 0, 1) := by decide +kernel
theorem dX1_init_68 : decode cX1_init 68 = .ok (.putfield 37, 3) := by decide +kernel
theorem dX1_init_71 : decode cX1_init 71 = .ok (.aload_n 0, 1) := by decide +kernel
theorem dX1_init_72 : decode cX1_init 72 = .ok (.iconst 0, 1) := by decide +kernel
theorem dX1_init_73 : decode cX1_init 73 = .ok (.putfield 40, 3) := by decide +kernel
theorem dX1_init_76 : decode cX1_init 76 = .ok (.aload_n 0, 1) := by decide +kernel
theorem dX1_init_77 : decode cX1_init 77 = .ok (.iconst 0, 1) := by decide +kernel
theorem dX1_init_78 : decode cX1_init 78 = .ok (.putfield 43, 3) := by decide +kernel
theorem dX1_init_81 : decode cX1_init 81 = .ok (.aload_n 0, 1) := by decide +kernel
theorem dX1_init_82 : decode cX1_init 82 = .ok (.iconst 0, 1) := by decide +kernel
theorem dX1_init_83 : decode cX1_init 83 = .ok (.putfield 46, 3) := by decide +kernel
theorem dX1_init_86 : decode cX1_init 86 = .ok (.iconst 0, 1) := by decide +kernel
theorem dX1_init_87 : decode cX1_init 87 = .ok (.istore_n 1, 1) := by decide +kernel
theorem dX1_init_88 : decode cX1_init 88 = .ok (.iload_n 1, 1) := by decide +kernel
theorem dX1_init_89 : decode cX1_init 89 = .ok (.bipush 12, 2) := by decide +kernel
theorem dX1_init_91 : decode cX1_init 91 = .ok (.if_icmp .ge 16, 3) := by decide +kernel
theorem dX1_init_94 : decode cX1_init 94 = .ok (.aload_n 0, 1) := by decide +kernel
theorem dX1_init_95 : decode cX1_init 95 = .ok (.getfield 29, 3) := by decide +kernel
theorem dX1_init_98 : decode cX1_init 98 = .ok (.iload_n 1, 1) := by decide +kernel
theorem dX1_init_99 : decode cX1_init 99 = .ok (.iconst 5, 1) := by decide +kernel
theorem dX1_init_100 : decode cX1_init 100 = .ok (.iastore, 1) := by decide +kernel
theorem dX1_init_101 : decode cX1_init 101 = .ok (.iinc 1 1, 3) := by decide +kernel
theorem dX1_init_104 : decode cX1_init 104 = .ok (.goto (-16), 3) := by decide +kernel
theorem dX1_init_107 : decode cX1_init 107 = .ok (.return_, 1) := by decide +kernel
theorem dX1_sides_0 : decode cX1_sides 0 = .ok (.iload_n 1, 1) := by decide +kernel
theorem dX1_sides_1 : decode cX1_sides 1 = .ok (.ifCond .eq 23, 3) := by decide +kernel
theorem dX1_sides_4 : decode cX1_sides 4 = .ok (.iload_n 1, 1) := by decide +kernel
theorem dX1_sides_5 : decode cX1_sides 5 = .ok (.iconst 1, 1) := by decide +kernel
theorem dX1_sides_6 : decode cX1_sides 6 = .ok (.if_icmp .eq 18, 3) := by decide +kernel
theorem dX1_sides_9 : decode cX1_sides 9 = .ok (.iload_n 1, 1) := by decide +kernel
theorem dX1_sides_10 : decode cX1_sides 10 = .ok (.iconst 2, 1) := by decide +kernel
theorem dX1_sides_11 : decode cX1_sides 11 = .ok (.if_icmp .eq 13, 3) := by decide +kernel
theorem dX1_sides_14 : decode cX1_sides 14 = .ok (.new 49, 3) := by decide +kernel
theorem dX1_sides_17 : decode cX1_sides 17 = .ok (.dup, 1) := by decide +kernel
theorem dX1_sides_18 : decode cX1_sides 18 = .ok (.ldc 51, 2) := by decide +kernel
theorem dX1_sides_20 : decode cX1_sides 20 = .ok (.invokespecial 53, 3) := by decide +kernel
theorem dX1_sides_23 : decode cX1_sides 23 = .ok (.athrow, 1) := by decide +kernel
theorem dX1_sides_24 : decode cX1_sides 24 = .ok (.aload_n 0, 1) := by decide +kernel
theorem dX1_sides_25 : decode cX1_sides 25 = .ok (.getfield 43, 3) := by decide +kernel
theorem dX1_sides_28 : decode cX1_sides 28 = .ok (.ifCond .le 13, 3) := by decide +kernel
theorem dX1_sides_31 : decode cX1_sides 31 = .ok (.new 56, 3) := by decide +kernel
theorem dX1_sides_34 : decode cX1_sides 34 = .ok (.dup, 1) := by decide +kernel
theorem dX1_sides_35 : decode cX1_sides 35 = .ok (.ldc 58, 2) := by decide +kernel
theorem dX1_sides_37 : decode cX1_sides 37 = .ok (.invokespecial 60, 3) := by decide +kernel
theorem dX1_sides_40 : decode cX1_sides 40 = .ok (.athrow, 1) := by decide +kernel
theorem dX1_sides_41 : decode cX1_sides 41 = .ok (.aload_n 0, 1) := by decide +kernel
theorem dX1_sides_42 : decode cX1_sides 42 = .ok (.iload_n 1, 1) := by decide +kernel
theorem dX1_sides_43 : decode cX1_sides 43 = .ok (.putfield 33, 3) := by decide +kernel
theorem dX1_sides_46 : decode cX1_sides 46 = .ok (.return_, 1) := by decide +kernel
set_option maxRecDepth 20000 in
theorem ggX1_plant_X1_requireColumn : GoodIn wsX1_plant wsX1_requireColumn := goodIn_ca (goodIn_r _ [8, 9, 10] (by decide +kernel) (by decide +kernel)) (goodIn_sub (fun _ h => List.mem_cons_of_mem _ (List.mem_append_right _ h)) (by decide +kernel))
set_option maxRecDepth 20000 in
theorem gX1_plant_X1_requireColumn : GoodIn wsX1_plant (va_wsS RX1 61 yX1_requireColumn wsX1_requireColumn) := goodIn_app (goodIn_of _ (by decide +kernel)) ggX1_plant_X1_requireColumn
set_option maxRecDepth 20000 in
theorem ggX1_plant_X0_isBareAt : GoodIn wsX1_plant wsX0_isBareAt := goodIn_r _ [15, 16, 17, 18, 14, 19, 20, 21, 22, 23, 24, 25, 26, 27, 28, 29, 47, 48] (by decide +kernel) (by decide +kernel)
set_option maxRecDepth 20000 in
theorem gX1_plant_X0_isBareAt : GoodIn wsX1_plant (wsV RX1 65 RX0 yX0_isBareAt wsX0_isBareAt) := goodIn_app (goodIn_of _ (by decide +kernel)) ggX1_plant_X0_isBareAt
set_option maxRecDepth 20000 in
theorem ggX1_plant_X0_putLeaf : GoodIn wsX1_plant wsX0_putLeaf := goodIn_r _ [33, 24, 34, 7, 35, 47, 48] (by decide +kernel) (by decide +kernel)
set_option maxRecDepth 20000 in
theorem gX1_plant_X0_putLeaf : GoodIn wsX1_plant (wsV RX1 73 RX0 yX0_putLeaf wsX0_putLeaf) := goodIn_app (goodIn_of _ (by decide +kernel)) ggX1_plant_X0_putLeaf
theorem dX1_plant_0 : decode cX1_plant 0 = .ok (.iload_n 1, 1) := by decide +kernel
theorem dX1_plant_1 : decode cX1_plant 1 = .ok (.invokestatic 61, 3) := by decide +kernel
theorem dX1_plant_4 : decode cX1_plant 4 = .ok (.aload_n 0, 1) := by decide +kernel
theorem dX1_plant_5 : decode cX1_plant 5 = .ok (.getfield 10, 3) := by decide +kernel
theorem dX1_plant_8 : decode cX1_plant 8 = .ok (.iconst 0, 1) := by decide +kernel
theorem dX1_plant_9 : decode cX1_plant 9 = .ok (.iload_n 1, 1) := by decide +kernel
theorem dX1_plant_10 : decode cX1_plant 10 = .ok (.invokevirtual 65, 3) := by decide +kernel
theorem dX1_plant_13 : decode cX1_plant 13 = .ok (.ifCond .ne 13, 3) := by decide +kernel
theorem dX1_plant_16 : decode cX1_plant 16 = .ok (.new 56, 3) := by decide +kernel
theorem dX1_plant_19 : decode cX1_plant 19 = .ok (.dup, 1) := by decide +kernel
theorem dX1_plant_20 : decode cX1_plant 20 = .ok (.ldc 69, 2) := by decide +kernel
theorem dX1_plant_22 : decode cX1_plant 22 = .ok (.invokespecial 60, 3) := by decide +kernel
theorem dX1_plant_25 : decode cX1_plant 25 = .ok (.athrow, 1) := by decide +kernel
theorem dX1_plant_26 : decode cX1_plant 26 = .ok (.aload_n 0, 1) := by decide +kernel
theorem dX1_plant_27 : decode cX1_plant 27 = .ok (.getfield 37, 3) := by decide +kernel
theorem dX1_plant_30 : decode cX1_plant 30 = .ok (.iconst 4, 1) := by decide +kernel
theorem dX1_plant_31 : decode cX1_plant 31 = .ok (.if_icmp .lt 13, 3) := by decide +kernel
theorem dX1_plant_34 : decode cX1_plant 34 = .ok (.new 56, 3) := by decide +kernel
theorem dX1_plant_37 : decode cX1_plant 37 = .ok (.dup, 1) := by decide +kernel
theorem dX1_plant_38 : decode cX1_plant 38 = .ok (.ldc 71, 2) := by decide +kernel
theorem dX1_plant_40 : decode cX1_plant 40 = .ok (.invokespecial 60, 3) := by decide +kernel
theorem dX1_plant_43 : decode cX1_plant 43 = .ok (.athrow, 1) := by decide +kernel
theorem dX1_plant_44 : decode cX1_plant 44 = .ok (.aload_n 0, 1) := by decide +kernel
theorem dX1_plant_45 : decode cX1_plant 45 = .ok (.getfield 10, 3) := by decide +kernel
theorem dX1_plant_48 : decode cX1_plant 48 = .ok (.iconst 0, 1) := by decide +kernel
theorem dX1_plant_49 : decode cX1_plant 49 = .ok (.iload_n 1, 1) := by decide +kernel
theorem dX1_plant_50 : decode cX1_plant 50 = .ok (.invokevirtual 73, 3) := by decide +kernel
theorem dX1_plant_53 : decode cX1_plant 53 = .ok (.aload_n 0, 1) := by decide +kernel
theorem dX1_plant_54 : decode cX1_plant 54 = .ok (.dup, 1) := by decide +kernel
theorem dX1_plant_55 : decode cX1_plant 55 = .ok (.getfield 37, 3) := by decide +kernel
theorem dX1_plant_58 : decode cX1_plant 58 = .ok (.iconst 1, 1) := by decide +kernel
theorem dX1_plant_59 : decode cX1_plant 59 = .ok (.iadd, 1) := by decide +kernel
theorem dX1_plant_60 : decode cX1_plant 60 = .ok (.putfield 37, 3) := by decide +kernel
theorem dX1_plant_63 : decode cX1_plant 63 = .ok (.return_, 1) := by decide +kernel
set_option maxRecDepth 20000 in
theorem ggX1_trellis_X1_requireColumn : GoodIn wsX1_trellis wsX1_requireColumn := goodIn_ca (goodIn_r _ [7, 8, 9] (by decide +kernel) (by decide +kernel)) (goodIn_sub (fun _ h => List.mem_cons_of_mem _ (List.mem_append_right _ h)) (by decide +kernel))
set_option maxRecDepth 20000 in
theorem gX1_trellis_X1_requireColumn : GoodIn wsX1_trellis (va_wsS RX1 61 yX1_requireColumn wsX1_requireColumn) := goodIn_app (goodIn_of _ (by decide +kernel)) ggX1_trellis_X1_requireColumn
theorem dX1_trellis_0 : decode cX1_trellis 0 = .ok (.iload_n 1, 1) := by decide +kernel
theorem dX1_trellis_1 : decode cX1_trellis 1 = .ok (.invokestatic 61, 3) := by decide +kernel
theorem dX1_trellis_4 : decode cX1_trellis 4 = .ok (.iload_n 2, 1) := by decide +kernel
theorem dX1_trellis_5 : decode cX1_trellis 5 = .ok (.iconst 1, 1) := by decide +kernel
theorem dX1_trellis_6 : decode cX1_trellis 6 = .ok (.if_icmp .lt 9, 3) := by decide +kernel
theorem dX1_trellis_9 : decode cX1_trellis 9 = .ok (.iload_n 2, 1) := by decide +kernel
theorem dX1_trellis_10 : decode cX1_trellis 10 = .ok (.bipush 8, 2) := by decide +kernel
theorem dX1_trellis_12 : decode cX1_trellis 12 = .ok (.if_icmp .le 13, 3) := by decide +kernel
theorem dX1_trellis_15 : decode cX1_trellis 15 = .ok (.new 49, 3) := by decide +kernel
theorem dX1_trellis_18 : decode cX1_trellis 18 = .ok (.dup, 1) := by decide +kernel
theorem dX1_trellis_19 : decode cX1_trellis 19 = .ok (.ldc 77, 2) := by decide +kernel
end
section
theorem dX1_trellis_21 : decode cX1_trellis 21 = .ok (.invokespecial 53, 3) := by decide +kernel
theorem dX1_trellis_24 : decode cX1_trellis 24 = .ok (.athrow, 1) := by decide +kernel
theorem dX1_trellis_25 : decode cX1_trellis 25 = .ok (.aload_n 0, 1) := by decide +kernel
theorem dX1_trellis_26 : decode cX1_trellis 26 = .ok (.getfield 29, 3) := by decide +kernel
theorem dX1_trellis_29 : decode cX1_trellis 29 = .ok (.iload_n 1, 1) := by decide +kernel
theorem dX1_trellis_30 : decode cX1_trellis 30 = .ok (.iaload, 1) := by decide +kernel
theorem dX1_trellis_31 : decode cX1_trellis 31 = .ok (.istore_n 3, 1) := by decide +kernel
theorem dX1_trellis_32 : decode cX1_trellis 32 = .ok (.aload_n 0, 1) := by decide +kernel
theorem dX1_trellis_33 : decode cX1_trellis 33 = .ok (.getfield 29, 3) := by decide +kernel
theorem dX1_trellis_36 : decode cX1_trellis 36 = .ok (.iload_n 1, 1) := by decide +kernel
theorem dX1_trellis_37 : decode cX1_trellis 37 = .ok (.iload_n 2, 1) := by decide +kernel
theorem dX1_trellis_38 : decode cX1_trellis 38 = .ok (.iastore, 1) := by decide +kernel
theorem dX1_trellis_39 : decode cX1_trellis 39 = .ok (.iload_n 3, 1) := by decide +kernel
theorem dX1_trellis_40 : decode cX1_trellis 40 = .ok (.ireturn, 1) := by decide +kernel
set_option maxRecDepth 20000 in
theorem ggX1_cut_X1_requireCell : GoodIn wsX1_cut wsX1_requireCell := goodIn_ca (goodIn_r _ [8, 9, 10, 11, 12, 7, 13] (by decide +kernel) (by decide +kernel)) (goodIn_sub (fun _ h => List.mem_cons_of_mem _ (List.mem_append_right _ h)) (by decide +kernel))
set_option maxRecDepth 20000 in
theorem gX1_cut_X1_requireCell : GoodIn wsX1_cut (va_wsS RX1 79 yX1_requireCell wsX1_requireCell) := goodIn_app (goodIn_of _ (by decide +kernel)) ggX1_cut_X1_requireCell
set_option maxRecDepth 20000 in
theorem ggX1_cut_X0_hasLeafAt : GoodIn wsX1_cut wsX0_hasLeafAt := goodIn_r _ [18, 19, 20, 21, 17, 22, 23, 48, 49] (by decide +kernel) (by decide +kernel)
set_option maxRecDepth 20000 in
theorem gX1_cut_X0_hasLeafAt : GoodIn wsX1_cut (wsV RX1 82 RX0 yX0_hasLeafAt wsX0_hasLeafAt) := goodIn_app (goodIn_of _ (by decide +kernel)) ggX1_cut_X0_hasLeafAt
set_option maxRecDepth 20000 in
theorem ggX1_cut_X1_cutsLeft : GoodIn wsX1_cut wsX1_cutsLeft := goodIn_r _ [27, 4, 37, 38, 39, 40, 41, 42, 43, 44, 45, 46, 47] (by decide +kernel) (by decide +kernel)
set_option maxRecDepth 20000 in
theorem gX1_cut_X1_cutsLeft : GoodIn wsX1_cut (wsV RX1 87 RX1 yX1_cutsLeft wsX1_cutsLeft) := goodIn_app (goodIn_of _ (by decide +kernel)) ggX1_cut_X1_cutsLeft
set_option maxRecDepth 20000 in
theorem ggX1_cut_X0_cutLeaf : GoodIn wsX1_cut wsX0_cutLeaf := goodIn_r _ [31, 32, 33, 34, 35, 17, 36, 23, 12, 7, 13, 48, 49] (by decide +kernel) (by decide +kernel)
set_option maxRecDepth 20000 in
theorem gX1_cut_X0_cutLeaf : GoodIn wsX1_cut (wsV RX1 93 RX0 yX0_cutLeaf wsX0_cutLeaf) := goodIn_app (goodIn_of _ (by decide +kernel)) ggX1_cut_X0_cutLeaf
theorem dX1_cut_0 : decode cX1_cut 0 = .ok (.iload_n 1, 1) := by decide +kernel
theorem dX1_cut_1 : decode cX1_cut 1 = .ok (.iload_n 2, 1) := by decide +kernel
theorem dX1_cut_2 : decode cX1_cut 2 = .ok (.invokestatic 79, 3) := by decide +kernel
theorem dX1_cut_5 : decode cX1_cut 5 = .ok (.aload_n 0, 1) := by decide +kernel
theorem dX1_cut_6 : decode cX1_cut 6 = .ok (.getfield 10, 3) := by decide +kernel
theorem dX1_cut_9 : decode cX1_cut 9 = .ok (.iload_n 1, 1) := by decide +kernel
theorem dX1_cut_10 : decode cX1_cut 10 = .ok (.iload_n 2, 1) := by decide +kernel
theorem dX1_cut_11 : decode cX1_cut 11 = .ok (.invokevirtual 82, 3) := by decide +kernel
theorem dX1_cut_14 : decode cX1_cut 14 = .ok (.ifCond .ne 13, 3) := by decide +kernel
theorem dX1_cut_17 : decode cX1_cut 17 = .ok (.new 56, 3) := by decide +kernel
theorem dX1_cut_20 : decode cX1_cut 20 = .ok (.dup, 1) := by decide +kernel
theorem dX1_cut_21 : decode cX1_cut 21 = .ok (.ldc 85, 2) := by decide +kernel
theorem dX1_cut_23 : decode cX1_cut 23 = .ok (.invokespecial 60, 3) := by decide +kernel
theorem dX1_cut_26 : decode cX1_cut 26 = .ok (.athrow, 1) := by decide +kernel
theorem dX1_cut_27 : decode cX1_cut 27 = .ok (.aload_n 0, 1) := by decide +kernel
theorem dX1_cut_28 : decode cX1_cut 28 = .ok (.invokevirtual 87, 3) := by decide +kernel
theorem dX1_cut_31 : decode cX1_cut 31 = .ok (.ifCond .ne 13, 3) := by decide +kernel
theorem dX1_cut_34 : decode cX1_cut 34 = .ok (.new 56, 3) := by decide +kernel
theorem dX1_cut_37 : decode cX1_cut 37 = .ok (.dup, 1) := by decide +kernel
theorem dX1_cut_38 : decode cX1_cut 38 = .ok (.ldc 91, 2) := by decide +kernel
theorem dX1_cut_40 : decode cX1_cut 40 = .ok (.invokespecial 60, 3) := by decide +kernel
theorem dX1_cut_43 : decode cX1_cut 43 = .ok (.athrow, 1) := by decide +kernel
theorem dX1_cut_44 : decode cX1_cut 44 = .ok (.aload_n 0, 1) := by decide +kernel
theorem dX1_cut_45 : decode cX1_cut 45 = .ok (.getfield 10, 3) := by decide +kernel
theorem dX1_cut_48 : decode cX1_cut 48 = .ok (.iload_n 1, 1) := by decide +kernel
theorem dX1_cut_49 : decode cX1_cut 49 = .ok (.iload_n 2, 1) := by decide +kernel
theorem dX1_cut_50 : decode cX1_cut 50 = .ok (.invokevirtual 93, 3) := by decide +kernel
theorem dX1_cut_53 : decode cX1_cut 53 = .ok (.aload_n 0, 1) := by decide +kernel
theorem dX1_cut_54 : decode cX1_cut 54 = .ok (.dup, 1) := by decide +kernel
theorem dX1_cut_55 : decode cX1_cut 55 = .ok (.getfield 40, 3) := by decide +kernel
theorem dX1_cut_58 : decode cX1_cut 58 = .ok (.iconst 1, 1) := by decide +kernel
theorem dX1_cut_59 : decode cX1_cut 59 = .ok (.iadd, 1) := by decide +kernel
theorem dX1_cut_60 : decode cX1_cut 60 = .ok (.putfield 40, 3) := by decide +kernel
theorem dX1_cut_63 : decode cX1_cut 63 = .ok (.aload_n 0, 1) := by decide +kernel
theorem dX1_cut_64 : decode cX1_cut 64 = .ok (.invokevirtual 87, 3) := by decide +kernel
theorem dX1_cut_67 : decode cX1_cut 67 = .ok (.ireturn, 1) := by decide +kernel
set_option maxRecDepth 20000 in
theorem ggX1_grow_X1_leaves : GoodIn wsX1_grow wsX1_leaves := goodIn_r _ [14, 6, 15, 16, 17, 18, 19, 20, 21, 22, 23, 24, 25, 26, 27, 85, 86, 87, 88, 89, 90, 91, 92, 93, 94, 95, 96, 97] (by decide +kernel) (by decide +kernel)
set_option maxRecDepth 20000 in
theorem gX1_grow_X1_leaves : GoodIn wsX1_grow (wsV RX1 98 RX1 yX1_leaves wsX1_leaves) := goodIn_app (goodIn_of _ (by decide +kernel)) ggX1_grow_X1_leaves
set_option maxRecDepth 20000 in
theorem ggX1_grow_X0_becomeNextOf : GoodIn wsX1_grow wsX0_becomeNextOf := goodIn_r _ [31, 20, 32, 33, 34, 35, 18, 36, 37, 38, 39, 40, 41, 42, 43, 44, 45, 46, 47, 21, 22, 23, 24, 25, 26, 27, 48, 49, 50, 51, 52, 53, 54, 55, 56, 57, 58, 59, 60, 61, 62, 63, 64, 65, 66, 67, 68, 69, 70, 71, 72, 73, 74, 75, 76, 77, 78, 79, 13, 80, 96, 97] (by decide +kernel) (by decide +kernel)
set_option maxRecDepth 20000 in
theorem gX1_grow_X0_becomeNextOf : GoodIn wsX1_grow (wsV RX1 101 RX0 yX0_becomeNextOf wsX0_becomeNextOf) := goodIn_app (goodIn_of _ (by decide +kernel)) ggX1_grow_X0_becomeNextOf
set_option maxRecDepth 20000 in
theorem ggX1_grow_X0_copyFrom : GoodIn wsX1_grow wsX0_copyFrom := goodIn_r _ [84, 20, 32, 96, 97] (by decide +kernel) (by decide +kernel)
set_option maxRecDepth 20000 in
theorem gX1_grow_X0_copyFrom : GoodIn wsX1_grow (wsV RX1 105 RX0 yX0_copyFrom wsX0_copyFrom) := goodIn_app (goodIn_of _ (by decide +kernel)) ggX1_grow_X0_copyFrom
theorem dX1_grow_0 : decode cX1_grow 0 = .ok (.aload_n 0, 1) := by decide +kernel
theorem dX1_grow_1 : decode cX1_grow 1 = .ok (.getfield 43, 3) := by decide +kernel
theorem dX1_grow_4 : decode cX1_grow 4 = .ok (.bipush 60, 2) := by decide +kernel
theorem dX1_grow_6 : decode cX1_grow 6 = .ok (.if_icmp .lt 13, 3) := by decide +kernel
theorem dX1_grow_9 : decode cX1_grow 9 = .ok (.new 56, 3) := by decide +kernel
theorem dX1_grow_12 : decode cX1_grow 12 = .ok (.dup, 1) := by decide +kernel
theorem dX1_grow_13 : decode cX1_grow 13 = .ok (.ldc 96, 2) := by decide +kernel
theorem dX1_grow_15 : decode cX1_grow 15 = .ok (.invokespecial 60, 3) := by decide +kernel
theorem dX1_grow_18 : decode cX1_grow 18 = .ok (.athrow, 1) := by decide +kernel
theorem dX1_grow_19 : decode cX1_grow 19 = .ok (.aload_n 0, 1) := by decide +kernel
theorem dX1_grow_20 : decode cX1_grow 20 = .ok (.invokevirtual 98, 3) := by decide +kernel
theorem dX1_grow_23 : decode cX1_grow 23 = .ok (.istore_n 1, 1) := by decide +kernel
theorem dX1_grow_24 : decode cX1_grow 24 = .ok (.aload_n 0, 1) := by decide +kernel
theorem dX1_grow_25 : decode cX1_grow 25 = .ok (.dup, 1) := by decide +kernel
theorem dX1_grow_26 : decode cX1_grow 26 = .ok (.getfield 46, 3) := by decide +kernel
theorem dX1_grow_29 : decode cX1_grow 29 = .ok (.aload_n 0, 1) := by decide +kernel
theorem dX1_grow_30 : decode cX1_grow 30 = .ok (.getfield 19, 3) := by decide +kernel
theorem dX1_grow_33 : decode cX1_grow 33 = .ok (.aload_n 0, 1) := by decide +kernel
theorem dX1_grow_34 : decode cX1_grow 34 = .ok (.getfield 10, 3) := by decide +kernel
theorem dX1_grow_37 : decode cX1_grow 37 = .ok (.aload_n 0, 1) := by decide +kernel
theorem dX1_grow_38 : decode cX1_grow 38 = .ok (.getfield 33, 3) := by decide +kernel
theorem dX1_grow_41 : decode cX1_grow 41 = .ok (.aload_n 0, 1) := by decide +kernel
theorem dX1_grow_42 : decode cX1_grow 42 = .ok (.getfield 29, 3) := by decide +kernel
theorem dX1_grow_45 : decode cX1_grow 45 = .ok (.invokevirtual 101, 3) := by decide +kernel
theorem dX1_grow_48 : decode cX1_grow 48 = .ok (.iadd, 1) := by decide +kernel
theorem dX1_grow_49 : decode cX1_grow 49 = .ok (.putfield 46, 3) := by decide +kernel
theorem dX1_grow_52 : decode cX1_grow 52 = .ok (.aload_n 0, 1) := by decide +kernel
theorem dX1_grow_53 : decode cX1_grow 53 = .ok (.getfield 10, 3) := by decide +kernel
theorem dX1_grow_56 : decode cX1_grow 56 = .ok (.aload_n 0, 1) := by decide +kernel
theorem dX1_grow_57 : decode cX1_grow 57 = .ok (.getfield 19, 3) := by decide +kernel
theorem dX1_grow_60 : decode cX1_grow 60 = .ok (.invokevirtual 105, 3) := by decide +kernel
theorem dX1_grow_63 : decode cX1_grow 63 = .ok (.aload_n 0, 1) := by decide +kernel
theorem dX1_grow_64 : decode cX1_grow 64 = .ok (.dup, 1) := by decide +kernel
theorem dX1_grow_65 : decode cX1_grow 65 = .ok (.getfield 43, 3) := by decide +kernel
theorem dX1_grow_68 : decode cX1_grow 68 = .ok (.iconst 1, 1) := by decide +kernel
theorem dX1_grow_69 : decode cX1_grow 69 = .ok (.iadd, 1) := by decide +kernel
theorem dX1_grow_70 : decode cX1_grow 70 = .ok (.putfield 43, 3) := by decide +kernel
theorem dX1_grow_73 : decode cX1_grow 73 = .ok (.aload_n 0, 1) := by decide +kernel
theorem dX1_grow_74 : decode cX1_grow 74 = .ok (.iconst 0, 1) := by decide +kernel
theorem dX1_grow_75 : decode cX1_grow 75 = .ok (.putfield 40, 3) := by decide +kernel
theorem dX1_grow_78 : decode cX1_grow 78 = .ok (.aload_n 0, 1) := by decide +kernel
theorem dX1_grow_79 : decode cX1_grow 79 = .ok (.invokevirtual 98, 3) := by decide +kernel
theorem dX1_grow_82 : decode cX1_grow 82 = .ok (.iload_n 1, 1) := by decide +kernel
theorem dX1_grow_83 : decode cX1_grow 83 = .ok (.isub, 1) := by decide +kernel
theorem dX1_grow_84 : decode cX1_grow 84 = .ok (.ireturn, 1) := by decide +kernel
set_option maxRecDepth 20000 in
theorem ggX1_look_X1_requireCell : GoodIn wsX1_look wsX1_requireCell := goodIn_ca (goodIn_r _ [5, 6, 7, 8, 9, 4, 10] (by decide +kernel) (by decide +kernel)) (goodIn_sub (fun _ h => List.mem_cons_of_mem _ (List.mem_append_right _ h)) (by decide +kernel))
set_option maxRecDepth 20000 in
theorem gX1_look_X1_requireCell : GoodIn wsX1_look (va_wsS RX1 79 yX1_requireCell wsX1_requireCell) := goodIn_app (goodIn_of _ (by decide +kernel)) ggX1_look_X1_requireCell
set_option maxRecDepth 20000 in
theorem ggX1_look_X0_hasLeafAt : GoodIn wsX1_look wsX0_hasLeafAt := goodIn_r _ [15, 16, 17, 18, 14, 19, 20, 42, 43] (by decide +kernel) (by decide +kernel)
set_option maxRecDepth 20000 in
theorem gX1_look_X0_hasLeafAt : GoodIn wsX1_look (wsV RX1 82 RX0 yX0_hasLeafAt wsX0_hasLeafAt) := goodIn_app (goodIn_of _ (by decide +kernel)) ggX1_look_X0_hasLeafAt
set_option maxRecDepth 20000 in
theorem ggX1_look_X0_isBareAt : GoodIn wsX1_look wsX0_isBareAt := goodIn_r _ [24, 25, 12, 13, 14, 15, 16, 17, 18, 19, 20, 26, 27, 28, 29, 30, 42, 43] (by decide +kernel) (by decide +kernel)
set_option maxRecDepth 20000 in
theorem gX1_look_X0_isBareAt : GoodIn wsX1_look (wsV RX1 65 RX0 yX0_isBareAt wsX0_isBareAt) := goodIn_app (goodIn_of _ (by decide +kernel)) ggX1_look_X0_isBareAt
theorem dX1_look_0 : decode cX1_look 0 = .ok (.iload_n 1, 1) := by decide +kernel
theorem dX1_look_1 : decode cX1_look 1 = .ok (.iload_n 2, 1) := by decide +kernel
theorem dX1_look_2 : decode cX1_look 2 = .ok (.invokestatic 79, 3) := by decide +kernel
theorem dX1_look_5 : decode cX1_look 5 = .ok (.aload_n 0, 1) := by decide +kernel
theorem dX1_look_6 : decode cX1_look 6 = .ok (.getfield 10, 3) := by decide +kernel
theorem dX1_look_9 : decode cX1_look 9 = .ok (.iload_n 1, 1) := by decide +kernel
theorem dX1_look_10 : decode cX1_look 10 = .ok (.iload_n 2, 1) := by decide +kernel
theorem dX1_look_11 : decode cX1_look 11 = .ok (.invokevirtual 82, 3) := by decide +kernel
theorem dX1_look_14 : decode cX1_look 14 = .ok (.ifCond .eq 6, 3) := by decide +kernel
theorem dX1_look_17 : decode cX1_look 17 = .ok (.bipush 35, 2) := by decide +kernel
theorem dX1_look_19 : decode cX1_look 19 = .ok (.ireturn, 1) := by decide +kernel
theorem dX1_look_20 : decode cX1_look 20 = .ok (.aload_n 0, 1) := by decide +kernel
theorem dX1_look_21 : decode cX1_look 21 = .ok (.getfield 10, 3) := by decide +kernel
theorem dX1_look_24 : decode cX1_look 24 = .ok (.iload_n 1, 1) := by decide +kernel
theorem dX1_look_25 : decode cX1_look 25 = .ok (.iload_n 2, 1) := by decide +kernel
theorem dX1_look_26 : decode cX1_look 26 = .ok (.invokevirtual 65, 3) := by decide +kernel
theorem dX1_look_29 : decode cX1_look 29 = .ok (.ifCond .eq 8, 3) := by decide +kernel
theorem dX1_look_32 : decode cX1_look 32 = .ok (.bipush 46, 2) := by decide +kernel
theorem dX1_look_34 : decode cX1_look 34 = .ok (.goto 5, 3) := by decide +kernel
theorem dX1_look_37 : decode cX1_look 37 = .ok (.bipush 120, 2) := by decide +kernel
theorem dX1_look_39 : decode cX1_look 39 = .ok (.ireturn, 1) := by decide +kernel
set_option maxRecDepth 20000 in
theorem ggX1_shadeOf_X1_requireCell : GoodIn wsX1_shadeOf wsX1_requireCell := goodIn_ca (goodIn_r _ [5, 6, 7, 8, 9, 4, 10] (by decide +kernel) (by decide +kernel)) (goodIn_sub (fun _ h => List.mem_cons_of_mem _ (List.mem_append_right _ h)) (by decide +kernel))
set_option maxRecDepth 20000 in
theorem gX1_shadeOf_X1_requireCell : GoodIn wsX1_shadeOf (va_wsS RX1 79 yX1_requireCell wsX1_requireCell) := goodIn_app (goodIn_of _ (by decide +kernel)) ggX1_shadeOf_X1_requireCell
set_option maxRecDepth 20000 in
theorem ggX1_shadeOf_X0_shadeAt : GoodIn wsX1_shadeOf wsX0_shadeAt := goodIn_r _ [15, 16, 17, 18, 14, 19, 20, 32, 33] (by decide +kernel) (by decide +kernel)
set_option maxRecDepth 20000 in
theorem gX1_shadeOf_X0_shadeAt : GoodIn wsX1_shadeOf (wsV RX1 109 RX0 yX0_shadeAt wsX0_shadeAt) := goodIn_app (goodIn_of _ (by decide +kernel)) ggX1_shadeOf_X0_shadeAt
theorem dX1_shadeOf_0 : decode cX1_shadeOf 0 = .ok (.iload_n 1, 1) := by decide +kernel
theorem dX1_shadeOf_1 : decode cX1_shadeOf 1 = .ok (.iload_n 2, 1) := by decide +kernel
theorem dX1_shadeOf_2 : decode cX1_shadeOf 2 = .ok (.invokestatic 79, 3) := by decide +kernel
theorem dX1_shadeOf_5 : decode cX1_shadeOf 5 = .ok (.aload_n 0, 1) := by decide +kernel
theorem dX1_shadeOf_6 : decode cX1_shadeOf 6 = .ok (.getfield 10, 3) := by decide +kernel
theorem dX1_shadeOf_9 : decode cX1_shadeOf 9 = .ok (.iload_n 1, 1) := by decide +kernel
theorem dX1_shadeOf_10 : decode cX1_shadeOf 10 = .ok (.iload_n 2, 1) := by decide +kernel
theorem dX1_shadeOf_11 : decode cX1_shadeOf 11 = .ok (.invokevirtual 109, 3) := by decide +kernel
theorem dX1_shadeOf_14 : decode cX1_shadeOf 14 = .ok (.ireturn, 1) := by decide +kernel
set_option maxRecDepth 20000 in
theorem ggX1_holdersOf_X1_requireCell : GoodIn wsX1_holdersOf wsX1_requireCell := goodIn_ca (goodIn_r _ [6, 7, 8, 9, 10, 5, 11] (by decide +kernel) (by decide +kernel)) (goodIn_sub (fun _ h => List.mem_cons_of_mem _ (List.mem_append_right _ h)) (by decide +kernel))
set_option maxRecDepth 20000 in
theorem gX1_holdersOf_X1_requireCell : GoodIn wsX1_holdersOf (va_wsS RX1 79 yX1_requireCell wsX1_requireCell) := goodIn_app (goodIn_of _ (by decide +kernel)) ggX1_holdersOf_X1_requireCell
set_option maxRecDepth 20000 in
theorem ggX1_holdersOf_X0_holdersAt : GoodIn wsX1_holdersOf wsX0_holdersAt := goodIn_r _ [16, 17, 18, 19, 15, 20, 21, 22, 23, 24, 25, 26, 27, 28, 29, 30, 31, 32, 33, 34, 35, 47, 48] (by decide +kernel) (by decide +kernel)
set_option maxRecDepth 20000 in
theorem gX1_holdersOf_X0_holdersAt : GoodIn wsX1_holdersOf (wsV RX1 113 RX0 yX0_holdersAt wsX0_holdersAt) := goodIn_app (goodIn_of _ (by decide +kernel)) ggX1_holdersOf_X0_holdersAt
theorem dX1_holdersOf_0 : decode cX1_holdersOf 0 = .ok (.iload_n 1, 1) := by decide +kernel
theorem dX1_holdersOf_1 : decode cX1_holdersOf 1 = .ok (.iload_n 2, 1) := by decide +kernel
theorem dX1_holdersOf_2 : decode cX1_holdersOf 2 = .ok (.invokestatic 79, 3) := by decide +kernel
theorem dX1_holdersOf_5 : decode cX1_holdersOf 5 = .ok (.aload_n 0, 1) := by decide +kernel
theorem dX1_holdersOf_6 : decode cX1_holdersOf 6 = .ok (.getfield 10, 3) := by decide +kernel
theorem dX1_holdersOf_9 : decode cX1_holdersOf 9 = .ok (.iload_n 1, 1) := by decide +kernel
theorem dX1_holdersOf_10 : decode cX1_holdersOf 10 = .ok (.iload_n 2, 1) := by decide +kernel
theorem dX1_holdersOf_11 : decode cX1_holdersOf 11 = .ok (.aload_n 0, 1) := by decide +kernel
theorem dX1_holdersOf_12 : decode cX1_holdersOf 12 = .ok (.getfield 33, 3) := by decide +kernel
theorem dX1_holdersOf_15 : decode cX1_holdersOf 15 = .ok (.invokevirtual 113, 3) := by decide +kernel
theorem dX1_holdersOf_18 : decode cX1_holdersOf 18 = .ok (.ireturn, 1) := by decide +kernel
set_option maxRecDepth 20000 in
theorem ggX1_neighboursOf_X1_requireCell : GoodIn wsX1_neighboursOf wsX1_requireCell := goodIn_ca (goodIn_r _ [6, 7, 8, 9, 10, 5, 11] (by decide +kernel) (by decide +kernel)) (goodIn_sub (fun _ h => List.mem_cons_of_mem _ (List.mem_append_right _ h)) (by decide +kernel))
set_option maxRecDepth 20000 in
theorem gX1_neighboursOf_X1_requireCell : GoodIn wsX1_neighboursOf (va_wsS RX1 79 yX1_requireCell wsX1_requireCell) := goodIn_app (goodIn_of _ (by decide +kernel)) ggX1_neighboursOf_X1_requireCell
set_option maxRecDepth 20000 in
theorem ggX1_neighboursOf_X0_neighboursAt : GoodIn wsX1_neighboursOf wsX0_neighboursAt := goodIn_r _ [16, 17, 18, 19, 15, 20, 21, 22, 23, 24, 25, 26, 27, 28, 29, 30, 31, 32, 33, 34, 35, 47, 48] (by decide +kernel) (by decide +kernel)
set_option maxRecDepth 20000 in
theorem gX1_neighboursOf_X0_neighboursAt : GoodIn wsX1_neighboursOf (wsV RX1 117 RX0 yX0_neighboursAt wsX0_neighboursAt) := goodIn_app (goodIn_of _ (by decide +kernel)) ggX1_neighboursOf_X0_neighboursAt
theorem dX1_neighboursOf_0 : decode cX1_neighboursOf 0 = .ok (.iload_n 1, 1) := by decide +kernel
theorem dX1_neighboursOf_1 : decode cX1_neighboursOf 1 = .ok (.iload_n 2, 1) := by decide +kernel
theorem dX1_neighboursOf_2 : decode cX1_neighboursOf 2 = .ok (.invokestatic 79, 3) := by decide +kernel
theorem dX1_neighboursOf_5 : decode cX1_neighboursOf 5 = .ok (.aload_n 0, 1) := by decide +kernel
theorem dX1_neighboursOf_6 : decode cX1_neighboursOf 6 = .ok (.getfield 10, 3) := by decide +kernel
theorem dX1_neighboursOf_9 : decode cX1_neighboursOf 9 = .ok (.iload_n 1, 1) := by decide +kernel
theorem dX1_neighboursOf_10 : decode cX1_neighboursOf 10 = .ok (.iload_n 2, 1) := by decide +kernel
theorem dX1_neighboursOf_11 : decode cX1_neighboursOf 11 = .ok (.aload_n 0, 1) := by decide +kernel
theorem dX1_neighboursOf_12 : decode cX1_neighboursOf 12 = .ok (.getfield 33, 3) := by decide +kernel
theorem dX1_neighboursOf_15 : decode cX1_neighboursOf 15 = .ok (.invokevirtual 117, 3) := by decide +kernel
theorem dX1_neighboursOf_18 : decode cX1_neighboursOf 18 = .ok (.ireturn, 1) := by decide +kernel
set_option maxRecDepth 20000 in
theorem ggX1_leavesIn_X1_requireColumn : GoodIn wsX1_leavesIn wsX1_requireColumn := goodIn_ca (goodIn_r _ [5, 6, 7] (by decide +kernel) (by decide +kernel)) (goodIn_sub (fun _ h => List.mem_cons_of_mem _ (List.mem_append_right _ h)) (by decide +kernel))
set_option maxRecDepth 20000 in
theorem gX1_leavesIn_X1_requireColumn : GoodIn wsX1_leavesIn (va_wsS RX1 61 yX1_requireColumn wsX1_requireColumn) := goodIn_app (goodIn_of _ (by decide +kernel)) ggX1_leavesIn_X1_requireColumn
set_option maxRecDepth 20000 in
theorem ggX1_leavesIn_X0_countInColumn : GoodIn wsX1_leavesIn wsX0_countInColumn := goodIn_r _ [12, 13, 14, 15, 11, 16, 17, 18, 19, 20, 21, 33, 34] (by decide +kernel) (by decide +kernel)
set_option maxRecDepth 20000 in
theorem gX1_leavesIn_X0_countInColumn : GoodIn wsX1_leavesIn (wsV RX1 120 RX0 yX0_countInColumn wsX0_countInColumn) := goodIn_app (goodIn_of _ (by decide +kernel)) ggX1_leavesIn_X0_countInColumn
theorem dX1_leavesIn_0 : decode cX1_leavesIn 0 = .ok (.iload_n 1, 1) := by decide +kernel
theorem dX1_leavesIn_1 : decode cX1_leavesIn 1 = .ok (.invokestatic 61, 3) := by decide +kernel
theorem dX1_leavesIn_4 : decode cX1_leavesIn 4 = .ok (.aload_n 0, 1) := by decide +kernel
theorem dX1_leavesIn_5 : decode cX1_leavesIn 5 = .ok (.getfield 10, 3) := by decide +kernel
theorem dX1_leavesIn_8 : decode cX1_leavesIn 8 = .ok (.iload_n 1, 1) := by decide +kernel
theorem dX1_leavesIn_9 : decode cX1_leavesIn 9 = .ok (.invokevirtual 120, 3) := by decide +kernel
theorem dX1_leavesIn_12 : decode cX1_leavesIn 12 = .ok (.ireturn, 1) := by decide +kernel
set_option maxRecDepth 20000 in
theorem ggX1_leaves_X0_countLeaves : GoodIn wsX1_leaves wsX0_countLeaves := goodIn_r _ [6, 7, 8, 9, 10, 11, 12, 13, 14, 26, 27] (by decide +kernel) (by decide +kernel)
set_option maxRecDepth 20000 in
theorem gX1_leaves_X0_countLeaves : GoodIn wsX1_leaves (wsV RX1 124 RX0 yX0_countLeaves wsX0_countLeaves) := goodIn_app (goodIn_of _ (by decide +kernel)) ggX1_leaves_X0_countLeaves
theorem dX1_leaves_0 : decode cX1_leaves 0 = .ok (.aload_n 0, 1) := by decide +kernel
theorem dX1_leaves_1 : decode cX1_leaves 1 = .ok (.getfield 10, 3) := by decide +kernel
theorem dX1_leaves_4 : decode cX1_leaves 4 = .ok (.invokevirtual 124, 3) := by decide +kernel
theorem dX1_leaves_7 : decode cX1_leaves 7 = .ok (.ireturn, 1) := by decide +kernel
set_option maxRecDepth 20000 in
theorem ggX1_lit_X0_countLit : GoodIn wsX1_lit wsX0_countLit := goodIn_r _ [6, 7, 8, 9, 10, 11, 12, 13, 14, 26, 27] (by decide +kernel) (by decide +kernel)
set_option maxRecDepth 20000 in
theorem gX1_lit_X0_countLit : GoodIn wsX1_lit (wsV RX1 127 RX0 yX0_countLit wsX0_countLit) := goodIn_app (goodIn_of _ (by decide +kernel)) ggX1_lit_X0_countLit
theorem dX1_lit_0 : decode cX1_lit 0 = .ok (.aload_n 0, 1) := by decide +kernel
theorem dX1_lit_1 : decode cX1_lit 1 = .ok (.getfield 10, 3) := by decide +kernel
theorem dX1_lit_4 : decode cX1_lit 4 = .ok (.invokevirtual 127, 3) := by decide +kernel
theorem dX1_lit_7 : decode cX1_lit 7 = .ok (.ireturn, 1) := by decide +kernel
theorem dX1_generation_0 : decode cX1_generation 0 = .ok (.aload_n 0, 1) := by decide +kernel
theorem dX1_generation_1 : decode cX1_generation 1 = .ok (.getfield 43, 3) := by decide +kernel
theorem dX1_generation_4 : decode cX1_generation 4 = .ok (.ireturn, 1) := by decide +kernel
theorem dX1_cutsLeft_0 : decode cX1_cutsLeft 0 = .ok (.iconst 3, 1) := by decide +kernel
theorem dX1_cutsLeft_1 : decode cX1_cutsLeft 1 = .ok (.aload_n 0, 1) := by decide +kernel
theorem dX1_cutsLeft_2 : decode cX1_cutsLeft 2 = .ok (.getfield 40, 3) := by decide +kernel
theorem dX1_cutsLeft_5 : decode cX1_cutsLeft 5 = .ok (.isub, 1) := by decide +kernel
theorem dX1_cutsLeft_6 : decode cX1_cutsLeft 6 = .ok (.ireturn, 1) := by decide +kernel
theorem dX1_broken_0 : decode cX1_broken 0 = .ok (.aload_n 0, 1) := by decide +kernel
theorem dX1_broken_1 : decode cX1_broken 1 = .ok (.getfield 46, 3) := by decide +kernel
theorem dX1_broken_4 : decode cX1_broken 4 = .ok (.ireturn, 1) := by decide +kernel
set_option maxRecDepth 20000 in
theorem ggX1_leavesNext_X0_becomeNextOf : GoodIn wsX1_leavesNext wsX0_becomeNextOf := goodIn_r _ [9, 10, 11, 12, 13, 14, 8, 15, 16, 17, 18, 19, 20, 21, 22, 23, 24, 25, 26, 27, 28, 29, 30, 31, 32, 33, 34, 35, 36, 37, 38, 39, 40, 41, 42, 43, 44, 45, 46, 47, 48, 49, 50, 51, 52, 53, 54, 55, 56, 57, 58, 59, 60, 61, 62, 63, 64, 65, 66, 67, 83, 84] (by decide +kernel) (by decide +kernel)
set_option maxRecDepth 20000 in
theorem gX1_leavesNext_X0_becomeNextOf : GoodIn wsX1_leavesNext (wsV RX1 101 RX0 yX0_becomeNextOf wsX0_becomeNextOf) := goodIn_app (goodIn_of _ (by decide +kernel)) ggX1_leavesNext_X0_becomeNextOf
set_option maxRecDepth 20000 in
theorem ggX1_leavesNext_X0_countLeaves : GoodIn wsX1_leavesNext wsX0_countLeaves := goodIn_r _ [71, 10, 27, 28, 29, 30, 31, 32, 33, 83, 84] (by decide +kernel) (by decide +kernel)
set_option maxRecDepth 20000 in
theorem gX1_leavesNext_X0_countLeaves : GoodIn wsX1_leavesNext (wsV RX1 124 RX0 yX0_countLeaves wsX0_countLeaves) := goodIn_app (goodIn_of _ (by decide +kernel)) ggX1_leavesNext_X0_countLeaves
theorem dX1_leavesNext_0 : decode cX1_leavesNext 0 = .ok (.aload_n 0, 1) := by decide +kernel
theorem dX1_leavesNext_1 : decode cX1_leavesNext 1 = .ok (.getfield 19, 3) := by decide +kernel
theorem dX1_leavesNext_4 : decode cX1_leavesNext 4 = .ok (.aload_n 0, 1) := by decide +kernel
theorem dX1_leavesNext_5 : decode cX1_leavesNext 5 = .ok (.getfield 10, 3) := by decide +kernel
theorem dX1_leavesNext_8 : decode cX1_leavesNext 8 = .ok (.aload_n 0, 1) := by decide +kernel
theorem dX1_leavesNext_9 : decode cX1_leavesNext 9 = .ok (.getfield 33, 3) := by decide +kernel
theorem dX1_leavesNext_12 : decode cX1_leavesNext 12 = .ok (.aload_n 0, 1) := by decide +kernel
theorem dX1_leavesNext_13 : decode cX1_leavesNext 13 = .ok (.getfield 29, 3) := by decide +kernel
theorem dX1_leavesNext_16 : decode cX1_leavesNext 16 = .ok (.invokevirtual 101, 3) := by decide +kernel
theorem dX1_leavesNext_19 : decode cX1_leavesNext 19 = .ok (.pop, 1) := by decide +kernel
theorem dX1_leavesNext_20 : decode cX1_leavesNext 20 = .ok (.aload_n 0, 1) := by decide +kernel
theorem dX1_leavesNext_21 : decode cX1_leavesNext 21 = .ok (.getfield 19, 3) := by decide +kernel
theorem dX1_leavesNext_24 : decode cX1_leavesNext 24 = .ok (.invokevirtual 124, 3) := by decide +kernel
theorem dX1_leavesNext_27 : decode cX1_leavesNext 27 = .ok (.ireturn, 1) := by decide +kernel
set_option maxRecDepth 20000 in
theorem ggX1_repeatsIn_X0_hasCuts : GoodIn wsX1_repeatsIn wsX0_hasCuts := goodIn_r _ [10, 11, 102, 103] (by decide +kernel) (by decide +kernel)
set_option maxRecDepth 20000 in
theorem gX1_repeatsIn_X0_hasCuts : GoodIn wsX1_repeatsIn (wsV RX1 130 RX0 yX0_hasCuts wsX0_hasCuts) := goodIn_app (goodIn_of _ (by decide +kernel)) ggX1_repeatsIn_X0_hasCuts
set_option maxRecDepth 20000 in
theorem ggX1_repeatsIn_X0_copyFrom : GoodIn wsX1_repeatsIn wsX0_copyFrom := goodIn_r _ [15, 16, 11, 102, 103] (by decide +kernel) (by decide +kernel)
set_option maxRecDepth 20000 in
theorem gX1_repeatsIn_X0_copyFrom : GoodIn wsX1_repeatsIn (wsV RX1 105 RX0 yX0_copyFrom wsX0_copyFrom) := goodIn_app (goodIn_of _ (by decide +kernel)) ggX1_repeatsIn_X0_copyFrom
set_option maxRecDepth 20000 in
theorem ggX1_repeatsIn_X1_remember : GoodIn wsX1_repeatsIn wsX1_remember := goodIn_r _ [21, 22, 2, 23, 24, 25, 26, 9, 27, 28, 29, 30, 31, 16, 91, 92, 93, 94, 95, 96, 97, 98, 99, 100, 101, 102, 103] (by decide +kernel) (by decide +kernel)
set_option maxRecDepth 20000 in
theorem gX1_repeatsIn_X1_remember : GoodIn wsX1_repeatsIn (wsV RX1 134 RX1 yX1_remember wsX1_remember) := goodIn_app (goodIn_of _ (by decide +kernel)) ggX1_repeatsIn_X1_remember
set_option maxRecDepth 20000 in
theorem ggX1_repeatsIn_X0_becomeNextOf : GoodIn wsX1_repeatsIn wsX0_becomeNextOf := goodIn_r _ [35, 16, 11, 36, 37, 38, 9, 39, 28, 29, 30, 31, 40, 41, 42, 43, 44, 45, 46, 47, 48, 49, 50, 51, 52, 53, 54, 55, 56, 57, 58, 59, 60, 61, 62, 63, 64, 65, 66, 67, 68, 69, 70, 71, 72, 73, 74, 75, 76, 77, 78, 79, 80, 81, 82, 83, 84, 85, 20, 86, 102, 103] (by decide +kernel) (by decide +kernel)
set_option maxRecDepth 20000 in
theorem gX1_repeatsIn_X0_becomeNextOf : GoodIn wsX1_repeatsIn (wsV RX1 101 RX0 yX0_becomeNextOf wsX0_becomeNextOf) := goodIn_app (goodIn_of _ (by decide +kernel)) ggX1_repeatsIn_X0_becomeNextOf
set_option maxRecDepth 20000 in
theorem ggX1_repeatsIn_X1_looksAsBefore : GoodIn wsX1_repeatsIn wsX1_looksAsBefore := goodIn_r _ [90, 22, 23, 91, 92, 93, 94, 95, 96, 97, 98, 99, 100, 101] (by decide +kernel) (by decide +kernel)
set_option maxRecDepth 20000 in
theorem gX1_repeatsIn_X1_looksAsBefore : GoodIn wsX1_repeatsIn (wsV RX1 137 RX1 yX1_looksAsBefore wsX1_looksAsBefore) := goodIn_app (goodIn_of _ (by decide +kernel)) ggX1_repeatsIn_X1_looksAsBefore
theorem dX1_repeatsIn_0 : decode cX1_repeatsIn 0 = .ok (.aload_n 0, 1) := by decide +kernel
theorem dX1_repeatsIn_1 : decode cX1_repeatsIn 1 = .ok (.getfield 10, 3) := by decide +kernel
theorem dX1_repeatsIn_4 : decode cX1_repeatsIn 4 = .ok (.invokevirtual 130, 3) := by decide +kernel
theorem dX1_repeatsIn_7 : decode cX1_repeatsIn 7 = .ok (.ifCond .eq 7, 3) := by decide +kernel
theorem dX1_repeatsIn_10 : decode cX1_repeatsIn 10 = .ok (.iconst 1, 1) := by decide +kernel
theorem dX1_repeatsIn_11 : decode cX1_repeatsIn 11 = .ok (.goto 4, 3) := by decide +kernel
theorem dX1_repeatsIn_14 : decode cX1_repeatsIn 14 = .ok (.iconst 0, 1) := by decide +kernel
theorem dX1_repeatsIn_15 : decode cX1_repeatsIn 15 = .ok (.istore_n 1, 1) := by decide +kernel
theorem dX1_repeatsIn_16 : decode cX1_repeatsIn 16 = .ok (.aload_n 0, 1) := by decide +kernel
theorem dX1_repeatsIn_17 : decode cX1_repeatsIn 17 = .ok (.getfield 16, 3) := by decide +kernel
theorem dX1_repeatsIn_20 : decode cX1_repeatsIn 20 = .ok (.aload_n 0, 1) := by decide +kernel
theorem dX1_repeatsIn_21 : decode cX1_repeatsIn 21 = .ok (.getfield 10, 3) := by decide +kernel
theorem dX1_repeatsIn_24 : decode cX1_repeatsIn 24 = .ok (.invokevirtual 105, 3) := by decide +kernel
theorem dX1_repeatsIn_27 : decode cX1_repeatsIn 27 = .ok (.aload_n 0, 1) := by decide +kernel
theorem dX1_repeatsIn_28 : decode cX1_repeatsIn 28 = .ok (.iconst 0, 1) := by decide +kernel
theorem dX1_repeatsIn_29 : decode cX1_repeatsIn 29 = .ok (.invokevirtual 134, 3) := by decide +kernel
theorem dX1_repeatsIn_32 : decode cX1_repeatsIn 32 = .ok (.iconst 1, 1) := by decide +kernel
theorem dX1_repeatsIn_33 : decode cX1_repeatsIn 33 = .ok (.istore_n 2, 1) := by decide +kernel
theorem dX1_repeatsIn_34 : decode cX1_repeatsIn 34 = .ok (.iload_n 2, 1) := by decide +kernel
theorem dX1_repeatsIn_35 : decode cX1_repeatsIn 35 = .ok (.bipush 60, 2) := by decide +kernel
theorem dX1_repeatsIn_37 : decode cX1_repeatsIn 37 = .ok (.if_icmp .gt 56, 3) := by decide +kernel
theorem dX1_repeatsIn_40 : decode cX1_repeatsIn 40 = .ok (.aload_n 0, 1) := by decide +kernel
theorem dX1_repeatsIn_41 : decode cX1_repeatsIn 41 = .ok (.getfield 19, 3) := by decide +kernel
theorem dX1_repeatsIn_44 : decode cX1_repeatsIn 44 = .ok (.aload_n 0, 1) := by decide +kernel
theorem dX1_repeatsIn_45 : decode cX1_repeatsIn 45 = .ok (.getfield 16, 3) := by decide +kernel
theorem dX1_repeatsIn_48 : decode cX1_repeatsIn 48 = .ok (.aload_n 0, 1) := by decide +kernel
theorem dX1_repeatsIn_49 : decode cX1_repeatsIn 49 = .ok (.getfield 33, 3) := by decide +kernel
theorem dX1_repeatsIn_52 : decode cX1_repeatsIn 52 = .ok (.aload_n 0, 1) := by decide +kernel
theorem dX1_repeatsIn_53 : decode cX1_repeatsIn 53 = .ok (.getfield 29, 3) := by decide +kernel
theorem dX1_repeatsIn_56 : decode cX1_repeatsIn 56 = .ok (.invokevirtual 101, 3) := by decide +kernel
theorem dX1_repeatsIn_59 : decode cX1_repeatsIn 59 = .ok (.pop, 1) := by decide +kernel
theorem dX1_repeatsIn_60 : decode cX1_repeatsIn 60 = .ok (.aload_n 0, 1) := by decide +kernel
theorem dX1_repeatsIn_61 : decode cX1_repeatsIn 61 = .ok (.getfield 16, 3) := by decide +kernel
theorem dX1_repeatsIn_64 : decode cX1_repeatsIn 64 = .ok (.aload_n 0, 1) := by decide +kernel
theorem dX1_repeatsIn_65 : decode cX1_repeatsIn 65 = .ok (.getfield 19, 3) := by decide +kernel
theorem dX1_repeatsIn_68 : decode cX1_repeatsIn 68 = .ok (.invokevirtual 105, 3) := by decide +kernel
theorem dX1_repeatsIn_71 : decode cX1_repeatsIn 71 = .ok (.aload_n 0, 1) := by decide +kernel
theorem dX1_repeatsIn_72 : decode cX1_repeatsIn 72 = .ok (.iload_n 2, 1) := by decide +kernel
theorem dX1_repeatsIn_73 : decode cX1_repeatsIn 73 = .ok (.invokevirtual 134, 3) := by decide +kernel
theorem dX1_repeatsIn_76 : decode cX1_repeatsIn 76 = .ok (.aload_n 0, 1) := by decide +kernel
theorem dX1_repeatsIn_77 : decode cX1_repeatsIn 77 = .ok (.iload_n 2, 1) := by decide +kernel
theorem dX1_repeatsIn_78 : decode cX1_repeatsIn 78 = .ok (.iload_n 1, 1) := by decide +kernel
theorem dX1_repeatsIn_79 : decode cX1_repeatsIn 79 = .ok (.invokevirtual 137, 3) := by decide +kernel
theorem dX1_repeatsIn_82 : decode cX1_repeatsIn 82 = .ok (.ifCond .eq 5, 3) := by decide +kernel
theorem dX1_repeatsIn_85 : decode cX1_repeatsIn 85 = .ok (.iload_n 2, 1) := by decide +kernel
theorem dX1_repeatsIn_86 : decode cX1_repeatsIn 86 = .ok (.ireturn, 1) := by decide +kernel
theorem dX1_repeatsIn_87 : decode cX1_repeatsIn 87 = .ok (.iinc 2 1, 3) := by decide +kernel
theorem dX1_repeatsIn_90 : decode cX1_repeatsIn 90 = .ok (.goto (-56), 3) := by decide +kernel
theorem dX1_repeatsIn_93 : decode cX1_repeatsIn 93 = .ok (.iconst (-1), 1) := by decide +kernel
theorem dX1_repeatsIn_94 : decode cX1_repeatsIn 94 = .ok (.ireturn, 1) := by decide +kernel
set_option maxRecDepth 20000 in
theorem ggX1_bestCut_X0_hasLeafAt : GoodIn wsX1_bestCut wsX0_hasLeafAt := goodIn_r _ [6, 7, 8, 9, 5, 10, 11, 97, 98] (by decide +kernel) (by decide +kernel)
set_option maxRecDepth 20000 in
theorem gX1_bestCut_X0_hasLeafAt : GoodIn wsX1_bestCut (wsV RX1 82 RX0 yX0_hasLeafAt wsX0_hasLeafAt) := goodIn_app (goodIn_of _ (by decide +kernel)) ggX1_bestCut_X0_hasLeafAt
set_option maxRecDepth 20000 in
theorem ggX1_bestCut_X1_litBehindCut : GoodIn wsX1_bestCut wsX1_litBehindCut := goodIn_r _ [16, 17, 1, 18, 19, 20, 21, 22, 23, 5, 24, 11, 25, 26, 27, 28, 29, 30, 31, 32, 33, 34, 15, 35, 36, 37, 38, 39, 40, 41, 42, 43, 7, 8, 9, 10, 44, 45, 46, 47, 48, 49, 50, 51, 52, 53, 54, 55, 56, 57, 58, 59, 60, 61, 62, 63, 64, 65, 66, 67, 68, 69, 70, 71, 72, 73, 3, 4, 6, 74, 75, 76, 77, 78, 79, 80, 81, 82, 83, 84, 85, 86, 87, 88, 89, 90, 91, 92, 93, 94, 95, 96, 97, 98] (by decide +kernel) (by decide +kernel)
set_option maxRecDepth 20000 in
theorem gX1_bestCut_X1_litBehindCut : GoodIn wsX1_bestCut (wsV RX1 140 RX1 yX1_litBehindCut wsX1_litBehindCut) := goodIn_app (goodIn_of _ (by decide +kernel)) ggX1_bestCut_X1_litBehindCut
theorem dX1_bestCut_0 : decode cX1_bestCut 0 = .ok (.iconst (-1), 1) := by decide +kernel
theorem dX1_bestCut_1 : decode cX1_bestCut 1 = .ok (.istore_n 1, 1) := by decide +kernel
theorem dX1_bestCut_2 : decode cX1_bestCut 2 = .ok (.iconst (-1), 1) := by decide +kernel
theorem dX1_bestCut_3 : decode cX1_bestCut 3 = .ok (.istore_n 2, 1) := by decide +kernel
theorem dX1_bestCut_4 : decode cX1_bestCut 4 = .ok (.iconst 0, 1) := by decide +kernel
theorem dX1_bestCut_5 : decode cX1_bestCut 5 = .ok (.istore_n 3, 1) := by decide +kernel
theorem dX1_bestCut_6 : decode cX1_bestCut 6 = .ok (.iload_n 3, 1) := by decide +kernel
theorem dX1_bestCut_7 : decode cX1_bestCut 7 = .ok (.bipush 96, 2) := by decide +kernel
theorem dX1_bestCut_9 : decode cX1_bestCut 9 = .ok (.if_icmp .ge 56, 3) := by decide +kernel
theorem dX1_bestCut_12 : decode cX1_bestCut 12 = .ok (.iload_n 3, 1) := by decide +kernel
theorem dX1_bestCut_13 : decode cX1_bestCut 13 = .ok (.bipush 12, 2) := by decide +kernel
theorem dX1_bestCut_15 : decode cX1_bestCut 15 = .ok (.idiv, 1) := by decide +kernel
theorem dX1_bestCut_16 : decode cX1_bestCut 16 = .ok (.istore 4, 2) := by decide +kernel
theorem dX1_bestCut_18 : decode cX1_bestCut 18 = .ok (.iload_n 3, 1) := by decide +kernel
theorem dX1_bestCut_19 : decode cX1_bestCut 19 = .ok (.bipush 12, 2) := by decide +kernel
theorem dX1_bestCut_21 : decode cX1_bestCut 21 = .ok (.irem, 1) := by decide +kernel
theorem dX1_bestCut_22 : decode cX1_bestCut 22 = .ok (.istore 5, 2) := by decide +kernel
theorem dX1_bestCut_24 : decode cX1_bestCut 24 = .ok (.aload_n 0, 1) := by decide +kernel
theorem dX1_bestCut_25 : decode cX1_bestCut 25 = .ok (.getfield 10, 3) := by decide +kernel
theorem dX1_bestCut_28 : decode cX1_bestCut 28 = .ok (.iload 4, 2) := by decide +kernel
theorem dX1_bestCut_30 : decode cX1_bestCut 30 = .ok (.iload 5, 2) := by decide +kernel
theorem dX1_bestCut_32 : decode cX1_bestCut 32 = .ok (.invokevirtual 82, 3) := by decide +kernel
theorem dX1_bestCut_35 : decode cX1_bestCut 35 = .ok (.ifCond .eq 24, 3) := by decide +kernel
theorem dX1_bestCut_38 : decode cX1_bestCut 38 = .ok (.aload_n 0, 1) := by decide +kernel
theorem dX1_bestCut_39 : decode cX1_bestCut 39 = .ok (.iload 4, 2) := by decide +kernel
theorem dX1_bestCut_41 : decode cX1_bestCut 41 = .ok (.iload 5, 2) := by decide +kernel
theorem dX1_bestCut_43 : decode cX1_bestCut 43 = .ok (.invokevirtual 140, 3) := by decide +kernel
theorem dX1_bestCut_46 : decode cX1_bestCut 46 = .ok (.istore 6, 2) := by decide +kernel
theorem dX1_bestCut_48 : decode cX1_bestCut 48 = .ok (.iload 6, 2) := by decide +kernel
theorem dX1_bestCut_50 : decode cX1_bestCut 50 = .ok (.iload_n 2, 1) := by decide +kernel
theorem dX1_bestCut_51 : decode cX1_bestCut 51 = .ok (.if_icmp .le 8, 3) := by decide +kernel
theorem dX1_bestCut_54 : decode cX1_bestCut 54 = .ok (.iload 6, 2) := by decide +kernel
theorem dX1_bestCut_56 : decode cX1_bestCut 56 = .ok (.istore_n 2, 1) := by decide +kernel
theorem dX1_bestCut_57 : decode cX1_bestCut 57 = .ok (.iload_n 3, 1) := by decide +kernel
theorem dX1_bestCut_58 : decode cX1_bestCut 58 = .ok (.istore_n 1, 1) := by decide +kernel
theorem dX1_bestCut_59 : decode cX1_bestCut 59 = .ok (.iinc 3 1, 3) := by decide +kernel
theorem dX1_bestCut_62 : decode cX1_bestCut 62 = .ok (.goto (-56), 3) := by decide +kernel
theorem dX1_bestCut_65 : decode cX1_bestCut 65 = .ok (.iload_n 1, 1) := by decide +kernel
theorem dX1_bestCut_66 : decode cX1_bestCut 66 = .ok (.ireturn, 1) := by decide +kernel
set_option maxRecDepth 20000 in
theorem ggX1_litBehindCut_X0_copyFrom : GoodIn wsX1_litBehindCut wsX0_copyFrom := goodIn_r _ [10, 11, 12, 92, 93] (by decide +kernel) (by decide +kernel)
set_option maxRecDepth 20000 in
theorem gX1_litBehindCut_X0_copyFrom : GoodIn wsX1_litBehindCut (wsV RX1 105 RX0 yX0_copyFrom wsX0_copyFrom) := goodIn_app (goodIn_of _ (by decide +kernel)) ggX1_litBehindCut_X0_copyFrom
set_option maxRecDepth 20000 in
theorem ggX1_litBehindCut_X0_cutLeaf : GoodIn wsX1_litBehindCut wsX0_cutLeaf := goodIn_r _ [16, 12, 17, 18, 19, 9, 20, 11, 21, 22, 23, 92, 93] (by decide +kernel) (by decide +kernel)
set_option maxRecDepth 20000 in
theorem gX1_litBehindCut_X0_cutLeaf : GoodIn wsX1_litBehindCut (wsV RX1 93 RX0 yX0_cutLeaf wsX0_cutLeaf) := goodIn_app (goodIn_of _ (by decide +kernel)) ggX1_litBehindCut_X0_cutLeaf
set_option maxRecDepth 20000 in
theorem ggX1_litBehindCut_X0_becomeNextOf : GoodIn wsX1_litBehindCut wsX0_becomeNextOf := goodIn_r _ [27, 11, 12, 28, 29, 30, 9, 31, 32, 33, 34, 35, 36, 37, 38, 39, 40, 41, 42, 43, 44, 45, 46, 47, 48, 49, 50, 51, 52, 53, 54, 55, 56, 57, 58, 59, 60, 61, 62, 63, 64, 65, 66, 67, 68, 69, 70, 71, 72, 73, 74, 75, 76, 17, 18, 19, 20, 21, 22, 23, 92, 93] (by decide +kernel) (by decide +kernel)
set_option maxRecDepth 20000 in
theorem gX1_litBehindCut_X0_becomeNextOf : GoodIn wsX1_litBehindCut (wsV RX1 101 RX0 yX0_becomeNextOf wsX0_becomeNextOf) := goodIn_app (goodIn_of _ (by decide +kernel)) ggX1_litBehindCut_X0_becomeNextOf
set_option maxRecDepth 20000 in
theorem ggX1_litBehindCut_X0_countLit : GoodIn wsX1_litBehindCut wsX0_countLit := goodIn_r _ [80, 11, 43, 44, 45, 46, 47, 48, 49, 92, 93] (by decide +kernel) (by decide +kernel)
set_option maxRecDepth 20000 in
theorem gX1_litBehindCut_X0_countLit : GoodIn wsX1_litBehindCut (wsV RX1 127 RX0 yX0_countLit wsX0_countLit) := goodIn_app (goodIn_of _ (by decide +kernel)) ggX1_litBehindCut_X0_countLit
theorem dX1_litBehindCut_0 : decode cX1_litBehindCut 0 = .ok (.aload_n 0, 1) := by decide +kernel
theorem dX1_litBehindCut_1 : decode cX1_litBehindCut 1 = .ok (.getfield 16, 3) := by decide +kernel
theorem dX1_litBehindCut_4 : decode cX1_litBehindCut 4 = .ok (.aload_n 0, 1) := by decide +kernel
theorem dX1_litBehindCut_5 : decode cX1_litBehindCut 5 = .ok (.getfield 10, 3) := by decide +kernel
theorem dX1_litBehindCut_8 : decode cX1_litBehindCut 8 = .ok (.invokevirtual 105, 3) := by decide +kernel
theorem dX1_litBehindCut_11 : decode cX1_litBehindCut 11 = .ok (.aload_n 0, 1) := by decide +kernel
theorem dX1_litBehindCut_12 : decode cX1_litBehindCut 12 = .ok (.getfield 16, 3) := by decide +kernel
theorem dX1_litBehindCut_15 : decode cX1_litBehindCut 15 = .ok (.iload_n 1, 1) := by decide +kernel
theorem dX1_litBehindCut_16 : decode cX1_litBehindCut 16 = .ok (.iload_n 2, 1) := by decide +kernel
theorem dX1_litBehindCut_17 : decode cX1_litBehindCut 17 = .ok (.invokevirtual 93, 3) := by decide +kernel
theorem dX1_litBehindCut_20 : decode cX1_litBehindCut 20 = .ok (.aload_n 0, 1) := by decide +kernel
theorem dX1_litBehindCut_21 : decode cX1_litBehindCut 21 = .ok (.getfield 19, 3) := by decide +kernel
theorem dX1_litBehindCut_24 : decode cX1_litBehindCut 24 = .ok (.aload_n 0, 1) := by decide +kernel
theorem dX1_litBehindCut_25 : decode cX1_litBehindCut 25 = .ok (.getfield 16, 3) := by decide +kernel
theorem dX1_litBehindCut_28 : decode cX1_litBehindCut 28 = .ok (.aload_n 0, 1) := by decide +kernel
theorem dX1_litBehindCut_29 : decode cX1_litBehindCut 29 = .ok (.getfield 33, 3) := by decide +kernel
theorem dX1_litBehindCut_32 : decode cX1_litBehindCut 32 = .ok (.aload_n 0, 1) := by decide +kernel
theorem dX1_litBehindCut_33 : decode cX1_litBehindCut 33 = .ok (.getfield 29, 3) := by decide +kernel
theorem dX1_litBehindCut_36 : decode cX1_litBehindCut 36 = .ok (.invokevirtual 101, 3) := by decide +kernel
theorem dX1_litBehindCut_39 : decode cX1_litBehindCut 39 = .ok (.pop, 1) := by decide +kernel
theorem dX1_litBehindCut_40 : decode cX1_litBehindCut 40 = .ok (.aload_n 0, 1) := by decide +kernel
theorem dX1_litBehindCut_41 : decode cX1_litBehindCut 41 = .ok (.getfield 19, 3) := by decide +kernel
theorem dX1_litBehindCut_44 : decode cX1_litBehindCut 44 = .ok (.invokevirtual 127, 3) := by decide +kernel
theorem dX1_litBehindCut_47 : decode cX1_litBehindCut 47 = .ok (.ireturn, 1) := by decide +kernel
set_option maxRecDepth 20000 in
theorem ggX1_remember_X0_leavesOfHalf : GoodIn wsX1_remember wsX0_leavesOfHalf := goodIn_r _ [8, 9, 10, 11, 7, 12, 13, 25, 26] (by decide +kernel) (by decide +kernel)
set_option maxRecDepth 20000 in
theorem gX1_remember_X0_leavesOfHalf : GoodIn wsX1_remember (wsV RX1 146 RX0 yX0_leavesOfHalf wsX0_leavesOfHalf) := goodIn_app (goodIn_of _ (by decide +kernel)) ggX1_remember_X0_leavesOfHalf
theorem dX1_remember_0 : decode cX1_remember 0 = .ok (.aload_n 0, 1) := by decide +kernel
theorem dX1_remember_1 : decode cX1_remember 1 = .ok (.getfield 22, 3) := by decide +kernel
theorem dX1_remember_4 : decode cX1_remember 4 = .ok (.iload_n 1, 1) := by decide +kernel
theorem dX1_remember_5 : decode cX1_remember 5 = .ok (.aload_n 0, 1) := by decide +kernel
theorem dX1_remember_6 : decode cX1_remember 6 = .ok (.getfield 16, 3) := by decide +kernel
theorem dX1_remember_9 : decode cX1_remember 9 = .ok (.iconst 0, 1) := by decide +kernel
theorem dX1_remember_10 : decode cX1_remember 10 = .ok (.invokevirtual 146, 3) := by decide +kernel
theorem dX1_remember_13 : decode cX1_remember 13 = .ok (.lastore, 1) := by decide +kernel
theorem dX1_remember_14 : decode cX1_remember 14 = .ok (.aload_n 0, 1) := by decide +kernel
theorem dX1_remember_15 : decode cX1_remember 15 = .ok (.getfield 26, 3) := by decide +kernel
theorem dX1_remember_18 : decode cX1_remember 18 = .ok (.iload_n 1, 1) := by decide +kernel
theorem dX1_remember_19 : decode cX1_remember 19 = .ok (.aload_n 0, 1) := by decide +kernel
theorem dX1_remember_20 : decode cX1_remember 20 = .ok (.getfield 16, 3) := by decide +kernel
theorem dX1_remember_23 : decode cX1_remember 23 = .ok (.iconst 4, 1) := by decide +kernel
theorem dX1_remember_24 : decode cX1_remember 24 = .ok (.invokevirtual 146, 3) := by decide +kernel
theorem dX1_remember_27 : decode cX1_remember 27 = .ok (.lastore, 1) := by decide +kernel
theorem dX1_remember_28 : decode cX1_remember 28 = .ok (.return_, 1) := by decide +kernel
theorem dX1_looksAsBefore_0 : decode cX1_looksAsBefore 0 = .ok (.iload_n 2, 1) := by decide +kernel
theorem dX1_looksAsBefore_1 : decode cX1_looksAsBefore 1 = .ok (.istore_n 3, 1) := by decide +kernel
theorem dX1_looksAsBefore_2 : decode cX1_looksAsBefore 2 = .ok (.iload_n 3, 1) := by decide +kernel
theorem dX1_looksAsBefore_3 : decode cX1_looksAsBefore 3 = .ok (.iload_n 1, 1) := by decide +kernel
theorem dX1_looksAsBefore_4 : decode cX1_looksAsBefore 4 = .ok (.if_icmp .ge 43, 3) := by decide +kernel
theorem dX1_looksAsBefore_7 : decode cX1_looksAsBefore 7 = .ok (.aload_n 0, 1) := by decide +kernel
theorem dX1_looksAsBefore_8 : decode cX1_looksAsBefore 8 = .ok (.getfield 22, 3) := by decide +kernel
theorem dX1_looksAsBefore_11 : decode cX1_looksAsBefore 11 = .ok (.iload_n 3, 1) := by decide +kernel
theorem dX1_looksAsBefore_12 : decode cX1_looksAsBefore 12 = .ok (.laload, 1) := by decide +kernel
theorem dX1_looksAsBefore_13 : decode cX1_looksAsBefore 13 = .ok (.aload_n 0, 1) := by decide +kernel
theorem dX1_looksAsBefore_14 : decode cX1_looksAsBefore 14 = .ok (.getfield 22, 3) := by decide +kernel
theorem dX1_looksAsBefore_17 : decode cX1_looksAsBefore 17 = .ok (.iload_n 1, 1) := by decide +kernel
theorem dX1_looksAsBefore_18 : decode cX1_looksAsBefore 18 = .ok (.laload, 1) := by decide +kernel
theorem dX1_looksAsBefore_19 : decode cX1_looksAsBefore 19 = .ok (.lcmp, 1) := by decide +kernel
theorem dX1_looksAsBefore_20 : decode cX1_looksAsBefore 20 = .ok (.ifCond .ne 21, 3) := by decide +kernel
theorem dX1_looksAsBefore_23 : decode cX1_looksAsBefore 23 = .ok (.aload_n 0, 1) := by decide +kernel
theorem dX1_looksAsBefore_24 : decode cX1_looksAsBefore 24 = .ok (.getfield 26, 3) := by decide +kernel
theorem dX1_looksAsBefore_27 : decode cX1_looksAsBefore 27 = .ok (.iload_n 3, 1) := by decide +kernel
theorem dX1_looksAsBefore_28 : decode cX1_looksAsBefore 28 = .ok (.laload, 1) := by decide +kernel
theorem dX1_looksAsBefore_29 : decode cX1_looksAsBefore 29 = .ok (.aload_n 0, 1) := by decide +kernel
theorem dX1_looksAsBefore_30 : decode cX1_looksAsBefore 30 = .ok (.getfield 26, 3) := by decide +kernel
theorem dX1_looksAsBefore_33 : decode cX1_looksAsBefore 33 = .ok (.iload_n 1, 1) := by decide +kernel
theorem dX1_looksAsBefore_34 : decode cX1_looksAsBefore 34 = .ok (.laload, 1) := by decide +kernel
theorem dX1_looksAsBefore_35 : decode cX1_looksAsBefore 35 = .ok (.lcmp, 1) := by decide +kernel
theorem dX1_looksAsBefore_36 : decode cX1_looksAsBefore 36 = .ok (.ifCond .ne 5, 3) := by decide +kernel
theorem dX1_looksAsBefore_39 : decode cX1_looksAsBefore 39 = .ok (.iconst 1, 1) := by decide +kernel
theorem dX1_looksAsBefore_40 : decode cX1_looksAsBefore 40 = .ok (.ireturn, 1) := by decide +kernel
theorem dX1_looksAsBefore_41 : decode cX1_looksAsBefore 41 = .ok (.iinc 3 1, 3) := by decide +kernel
theorem dX1_looksAsBefore_44 : decode cX1_looksAsBefore 44 = .ok (.goto (-42), 3) := by decide +kernel
theorem dX1_looksAsBefore_47 : decode cX1_looksAsBefore 47 = .ok (.iconst 0, 1) := by decide +kernel
theorem dX1_looksAsBefore_48 : decode cX1_looksAsBefore 48 = .ok (.ireturn, 1) := by decide +kernel
theorem dX1_requireColumn_0 : decode cX1_requireColumn 0 = .ok (.iload_n 0, 1) := by decide +kernel
theorem dX1_requireColumn_1 : decode cX1_requireColumn 1 = .ok (.ifCond .lt 9, 3) := by decide +kernel
theorem dX1_requireColumn_4 : decode cX1_requireColumn 4 = .ok (.iload_n 0, 1) := by decide +kernel
theorem dX1_requireColumn_5 : decode cX1_requireColumn 5 = .ok (.bipush 12, 2) := by decide +kernel
theorem dX1_requireColumn_7 : decode cX1_requireColumn 7 = .ok (.if_icmp .lt 13, 3) := by decide +kernel
theorem dX1_requireColumn_10 : decode cX1_requireColumn 10 = .ok (.new 150, 3) := by decide +kernel
theorem dX1_requireColumn_13 : decode cX1_requireColumn 13 = .ok (.dup, 1) := by decide +kernel
theorem dX1_requireColumn_14 : decode cX1_requireColumn 14 = .ok (.ldc 152, 2) := by decide +kernel
theorem dX1_requireColumn_16 : decode cX1_requireColumn 16 = .ok (.invokespecial 154, 3) := by decide +kernel
theorem dX1_requireColumn_19 : decode cX1_requireColumn 19 = .ok (.athrow, 1) := by decide +kernel
theorem dX1_requireColumn_20 : decode cX1_requireColumn 20 = .ok (.return_, 1) := by decide +kernel
set_option maxRecDepth 20000 in
theorem ggX1_requireCell_X1_isCell : GoodIn wsX1_requireCell wsX1_isCell := goodIn_r _ [6] (by decide +kernel) (by decide +kernel)
set_option maxRecDepth 20000 in
theorem gX1_requireCell_X1_isCell : GoodIn wsX1_requireCell (va_wsS RX1 155 yX1_isCell wsX1_isCell) := goodIn_app (goodIn_of _ (by decide +kernel)) ggX1_requireCell_X1_isCell
theorem dX1_requireCell_0 : decode cX1_requireCell 0 = .ok (.iload_n 0, 1) := by decide +kernel
theorem dX1_requireCell_1 : decode cX1_requireCell 1 = .ok (.iload_n 1, 1) := by decide +kernel
theorem dX1_requireCell_2 : decode cX1_requireCell 2 = .ok (.invokestatic 155, 3) := by decide +kernel
theorem dX1_requireCell_5 : decode cX1_requireCell 5 = .ok (.ifCond .ne 13, 3) := by decide +kernel
theorem dX1_requireCell_8 : decode cX1_requireCell 8 = .ok (.new 150, 3) := by decide +kernel
theorem dX1_requireCell_11 : decode cX1_requireCell 11 = .ok (.dup, 1) := by decide +kernel
theorem dX1_requireCell_12 : decode cX1_requireCell 12 = .ok (.ldc 158, 2) := by decide +kernel
theorem dX1_requireCell_14 : decode cX1_requireCell 14 = .ok (.invokespecial 154, 3) := by decide +kernel
theorem dX1_requireCell_17 : decode cX1_requireCell 17 = .ok (.athrow, 1) := by decide +kernel
theorem dX1_requireCell_18 : decode cX1_requireCell 18 = .ok (.return_, 1) := by decide +kernel
theorem dX1_isCell_0 : decode cX1_isCell 0 = .ok (.iload_n 0, 1) := by decide +kernel
theorem dX1_isCell_1 : decode cX1_isCell 1 = .ok (.ifCond .lt 23, 3) := by decide +kernel
theorem dX1_isCell_4 : decode cX1_isCell 4 = .ok (.iload_n 0, 1) := by decide +kernel
theorem dX1_isCell_5 : decode cX1_isCell 5 = .ok (.bipush 8, 2) := by decide +kernel
theorem dX1_isCell_7 : decode cX1_isCell 7 = .ok (.if_icmp .ge 17, 3) := by decide +kernel
theorem dX1_isCell_10 : decode cX1_isCell 10 = .ok (.iload_n 1, 1) := by decide +kernel
theorem dX1_isCell_11 : decode cX1_isCell 11 = .ok (.ifCond .lt 13, 3) := by decide +kernel
theorem dX1_isCell_14 : decode cX1_isCell 14 = .ok (.iload_n 1, 1) := by decide +kernel
theorem dX1_isCell_15 : decode cX1_isCell 15 = .ok (.bipush 12, 2) := by decide +kernel
theorem dX1_isCell_17 : decode cX1_isCell 17 = .ok (.if_icmp .ge 7, 3) := by decide +kernel
theorem dX1_isCell_20 : decode cX1_isCell 20 = .ok (.iconst 1, 1) := by decide +kernel
theorem dX1_isCell_21 : decode cX1_isCell 21 = .ok (.goto 4, 3) := by decide +kernel
theorem dX1_isCell_24 : decode cX1_isCell 24 = .ok (.iconst 0, 1) := by decide +kernel
theorem dX1_isCell_25 : decode cX1_isCell 25 = .ok (.ireturn, 1) := by decide +kernel
theorem dJ6_bitCount_0f7a4_0 : decode cJ6_bitCount_0f7a4 0 = .ok (.iload_n 0, 1) := by decide +kernel
theorem dJ6_bitCount_0f7a4_1 : decode cJ6_bitCount_0f7a4 1 = .ok (.iload_n 0, 1) := by decide +kernel
theorem dJ6_bitCount_0f7a4_2 : decode cJ6_bitCount_0f7a4 2 = .ok (.iconst 1, 1) := by decide +kernel
theorem dJ6_bitCount_0f7a4_3 : decode cJ6_bitCount_0f7a4 3 = .ok (.iushr, 1) := by decide +kernel
theorem dJ6_bitCount_0f7a4_4 : decode cJ6_bitCount_0f7a4 4 = .ok (.ldc_w 265, 3) := by decide +kernel
theorem dJ6_bitCount_0f7a4_7 : decode cJ6_bitCount_0f7a4 7 = .ok (.iand, 1) := by decide +kernel
theorem dJ6_bitCount_0f7a4_8 : decode cJ6_bitCount_0f7a4 8 = .ok (.isub, 1) := by decide +kernel
theorem dJ6_bitCount_0f7a4_9 : decode cJ6_bitCount_0f7a4 9 = .ok (.istore_n 0, 1) := by decide +kernel
theorem dJ6_bitCount_0f7a4_10 : decode cJ6_bitCount_0f7a4 10 = .ok (.iload_n 0, 1) := by decide +kernel
theorem dJ6_bitCount_0f7a4_11 : decode cJ6_bitCount_0f7a4 11 = .ok (.ldc_w 266, 3) := by decide +kernel
theorem dJ6_bitCount_0f7a4_14 : decode cJ6_bitCount_0f7a4 14 = .ok (.iand, 1) := by decide +kernel
theorem dJ6_bitCount_0f7a4_15 : decode cJ6_bitCount_0f7a4 15 = .ok (.iload_n 0, 1) := by decide +kernel
theorem dJ6_bitCount_0f7a4_16 : decode cJ6_bitCount_0f7a4 16 = .ok (.iconst 2, 1) := by decide +kernel
theorem dJ6_bitCount_0f7a4_17 : decode cJ6_bitCount_0f7a4 17 = .ok (.iushr, 1) := by decide +kernel
theorem dJ6_bitCount_0f7a4_18 : decode cJ6_bitCount_0f7a4 18 = .ok (.ldc_w 266, 3) := by decide +kernel
theorem dJ6_bitCount_0f7a4_21 : decode cJ6_bitCount_0f7a4 21 = .ok (.iand, 1) := by decide +kernel
theorem dJ6_bitCount_0f7a4_22 : decode cJ6_bitCount_0f7a4 22 = .ok (.iadd, 1) := by decide +kernel
theorem dJ6_bitCount_0f7a4_23 : decode cJ6_bitCount_0f7a4 23 = .ok (.istore_n 0, 1) := by decide +kernel
theorem dJ6_bitCount_0f7a4_24 : decode cJ6_bitCount_0f7a4 24 = .ok (.iload_n 0, 1) := by decide +kernel
theorem dJ6_bitCount_0f7a4_25 : decode cJ6_bitCount_0f7a4 25 = .ok (.iload_n 0, 1) := by decide +kernel
theorem dJ6_bitCount_0f7a4_26 : decode cJ6_bitCount_0f7a4 26 = .ok (.iconst 4, 1) := by decide +kernel
theorem dJ6_bitCount_0f7a4_27 : decode cJ6_bitCount_0f7a4 27 = .ok (.iushr, 1) := by decide +kernel
theorem dJ6_bitCount_0f7a4_28 : decode cJ6_bitCount_0f7a4 28 = .ok (.iadd, 1) := by decide +kernel
theorem dJ6_bitCount_0f7a4_29 : decode cJ6_bitCount_0f7a4 29 = .ok (.ldc_w 267, 3) := by decide +kernel
theorem dJ6_bitCount_0f7a4_32 : decode cJ6_bitCount_0f7a4 32 = .ok (.iand, 1) := by decide +kernel
theorem dJ6_bitCount_0f7a4_33 : decode cJ6_bitCount_0f7a4 33 = .ok (.istore_n 0, 1) := by decide +kernel
theorem dJ6_bitCount_0f7a4_34 : decode cJ6_bitCount_0f7a4 34 = .ok (.iload_n 0, 1) := by decide +kernel
theorem dJ6_bitCount_0f7a4_35 : decode cJ6_bitCount_0f7a4 35 = .ok (.iload_n 0, 1) := by decide +kernel
theorem dJ6_bitCount_0f7a4_36 : decode cJ6_bitCount_0f7a4 36 = .ok (.bipush 8, 2) := by decide +kernel
theorem dJ6_bitCount_0f7a4_38 : decode cJ6_bitCount_0f7a4 38 = .ok (.iushr, 1) := by decide +kernel
theorem dJ6_bitCount_0f7a4_39 : decode cJ6_bitCount_0f7a4 39 = .ok (.iadd, 1) := by decide +kernel
theorem dJ6_bitCount_0f7a4_40 : decode cJ6_bitCount_0f7a4 40 = .ok (.istore_n 0, 1) := by decide +kernel
theorem dJ6_bitCount_0f7a4_41 : decode cJ6_bitCount_0f7a4 41 = .ok (.iload_n 0, 1) := by decide +kernel
theorem dJ6_bitCount_0f7a4_42 : decode cJ6_bitCount_0f7a4 42 = .ok (.iload_n 0, 1) := by decide +kernel
theorem dJ6_bitCount_0f7a4_43 : decode cJ6_bitCount_0f7a4 43 = .ok (.bipush 16, 2) := by decide +kernel
theorem dJ6_bitCount_0f7a4_45 : decode cJ6_bitCount_0f7a4 45 = .ok (.iushr, 1) := by decide +kernel
theorem dJ6_bitCount_0f7a4_46 : decode cJ6_bitCount_0f7a4 46 = .ok (.iadd, 1) := by decide +kernel
theorem dJ6_bitCount_0f7a4_47 : decode cJ6_bitCount_0f7a4 47 = .ok (.istore_n 0, 1) := by decide +kernel
theorem dJ6_bitCount_0f7a4_48 : decode cJ6_bitCount_0f7a4 48 = .ok (.iload_n 0, 1) := by decide +kernel
theorem dJ6_bitCount_0f7a4_49 : decode cJ6_bitCount_0f7a4 49 = .ok (.bipush 63, 2) := by decide +kernel
theorem dJ6_bitCount_0f7a4_51 : decode cJ6_bitCount_0f7a4 51 = .ok (.iand, 1) := by decide +kernel
theorem dJ6_bitCount_0f7a4_52 : decode cJ6_bitCount_0f7a4 52 = .ok (.ireturn, 1) := by decide +kernel
theorem dL_drawn_0 : decode cL_drawn 0 = .ok (.iload_n 1, 1) := by decide +kernel
theorem dL_drawn_1 : decode cL_drawn 1 = .ok (.aload_n 0, 1) := by decide +kernel
theorem dL_drawn_2 : decode cL_drawn 2 = .ok (.arraylength, 1) := by decide +kernel
theorem dL_drawn_3 : decode cL_drawn 3 = .ok (.if_icmp .ge 9, 3) := by decide +kernel
theorem dL_drawn_6 : decode cL_drawn 6 = .ok (.aload_n 0, 1) := by decide +kernel
theorem dL_drawn_7 : decode cL_drawn 7 = .ok (.iload_n 1, 1) := by decide +kernel
theorem dL_drawn_8 : decode cL_drawn 8 = .ok (.iaload, 1) := by decide +kernel
theorem dL_drawn_9 : decode cL_drawn 9 = .ok (.goto 11, 3) := by decide +kernel
theorem dL_drawn_12 : decode cL_drawn 12 = .ok (.ldc 7, 2) := by decide +kernel
theorem dL_drawn_14 : decode cL_drawn 14 = .ok (.iload_n 1, 1) := by decide +kernel
theorem dL_drawn_15 : decode cL_drawn 15 = .ok (.imul, 1) := by decide +kernel
theorem dL_drawn_16 : decode cL_drawn 16 = .ok (.sipush 7841, 3) := by decide +kernel
theorem dL_drawn_19 : decode cL_drawn 19 = .ok (.iadd, 1) := by decide +kernel
theorem dL_drawn_20 : decode cL_drawn 20 = .ok (.istore_n 3, 1) := by decide +kernel
theorem dL_drawn_21 : decode cL_drawn 21 = .ok (.iload_n 3, 1) := by decide +kernel
theorem dL_drawn_22 : decode cL_drawn 22 = .ok (.iconst 1, 1) := by decide +kernel
theorem dL_drawn_23 : decode cL_drawn 23 = .ok (.iushr, 1) := by decide +kernel
theorem dL_drawn_24 : decode cL_drawn 24 = .ok (.iload_n 2, 1) := by decide +kernel
theorem dL_drawn_25 : decode cL_drawn 25 = .ok (.irem, 1) := by decide +kernel
theorem dL_drawn_26 : decode cL_drawn 26 = .ok (.ireturn, 1) := by decide +kernel
set_option maxRecDepth 20000 in
theorem ggL_cutsAfter_X1_cut : GoodIn wsL_cutsAfter wsX1_cut := goodIn_ca (goodIn_ca (goodIn_r _ [6, 7, 8, 9, 10, 11, 12, 5, 13, 14, 15, 16, 17, 18, 19, 20, 21, 22, 23, 24, 25, 26, 27, 28, 29, 30, 31, 32, 33, 34, 35, 36, 37, 38, 39, 40, 41, 42, 43, 44, 45, 46, 47, 48, 49, 50, 51, 52, 53, 54] (by decide +kernel) (by decide +kernel)) (goodIn_sub (fun _ h => List.mem_cons_of_mem _ (List.mem_append_left _ (List.mem_append_right _ h))) (by decide +kernel))) (goodIn_sub (fun _ h => List.mem_cons_of_mem _ (List.mem_append_right _ h)) (by decide +kernel))
set_option maxRecDepth 20000 in
theorem gL_cutsAfter_X1_cut : GoodIn wsL_cutsAfter (wsV RL 8 RX1 yX1_cut wsX1_cut) := goodIn_app (goodIn_of _ (by decide +kernel)) ggL_cutsAfter_X1_cut
theorem dL_cutsAfter_0 : decode cL_cutsAfter 0 = .ok (.aload_n 0, 1) := by decide +kernel
theorem dL_cutsAfter_1 : decode cL_cutsAfter 1 = .ok (.iload_n 1, 1) := by decide +kernel
theorem dL_cutsAfter_2 : decode cL_cutsAfter 2 = .ok (.iload_n 2, 1) := by decide +kernel
theorem dL_cutsAfter_3 : decode cL_cutsAfter 3 = .ok (.invokevirtual 8, 3) := by decide +kernel
theorem dL_cutsAfter_6 : decode cL_cutsAfter 6 = .ok (.ireturn, 1) := by decide +kernel
theorem dL_cutsAfter_7 : decode cL_cutsAfter 7 = .ok (.astore_n 3, 1) := by decide +kernel
theorem dL_cutsAfter_8 : decode cL_cutsAfter 8 = .ok (.iconst (-1), 1) := by decide +kernel
theorem dL_cutsAfter_9 : decode cL_cutsAfter 9 = .ok (.ireturn, 1) := by decide +kernel
set_option maxRecDepth 20000 in
theorem ggL_grownBy_X1_grow : GoodIn wsL_grownBy wsX1_grow := goodIn_ca (goodIn_r _ [6, 7, 8, 9, 10, 11, 12, 13, 14, 15, 16, 17, 18, 5, 19, 20, 21, 22, 23, 24, 25, 26, 27, 28, 29, 30, 31, 32, 33, 34, 35, 36, 37, 38, 39, 40, 41, 42, 43, 44, 45, 46, 47, 48, 49, 50, 51, 52, 53, 54, 55, 56, 57, 58, 59, 60, 61, 62, 63, 64, 65, 66, 67, 68, 69, 70, 71, 72, 73, 74, 75, 76, 77, 78, 79, 80, 81, 82, 83, 84, 85, 86, 87, 88, 89, 90, 91, 92, 93, 94, 95, 96, 97, 98, 99, 100, 101, 102] (by decide +kernel) (by decide +kernel)) (goodIn_sub (fun _ h => List.mem_cons_of_mem _ (List.mem_append_right _ h)) (by decide +kernel))
set_option maxRecDepth 20000 in
theorem gL_grownBy_X1_grow : GoodIn wsL_grownBy (wsV RL 16 RX1 yX1_grow wsX1_grow) := goodIn_app (goodIn_of _ (by decide +kernel)) ggL_grownBy_X1_grow
theorem dL_grownBy_0 : decode cL_grownBy 0 = .ok (.aload_n 0, 1) := by decide +kernel
theorem dL_grownBy_1 : decode cL_grownBy 1 = .ok (.invokevirtual 16, 3) := by decide +kernel
theorem dL_grownBy_4 : decode cL_grownBy 4 = .ok (.ireturn, 1) := by decide +kernel
theorem dL_grownBy_5 : decode cL_grownBy 5 = .ok (.astore_n 1, 1) := by decide +kernel
theorem dL_grownBy_6 : decode cL_grownBy 6 = .ok (.bipush (-99), 2) := by decide +kernel
theorem dL_grownBy_8 : decode cL_grownBy 8 = .ok (.ireturn, 1) := by decide +kernel
set_option maxRecDepth 20000 in
theorem ggL_areMirrored_X1_leaves : GoodIn wsL_areMirrored wsX1_leaves := goodIn_r _ [5, 6, 7, 8, 9, 10, 11, 12, 13, 14, 15, 16, 17, 18, 19, 164, 165, 166, 167, 168, 169, 170, 171, 172, 173, 174, 175, 176] (by decide +kernel) (by decide +kernel)
set_option maxRecDepth 20000 in
theorem gL_areMirrored_X1_leaves : GoodIn wsL_areMirrored (wsV RL 20 RX1 yX1_leaves wsX1_leaves) := goodIn_app (goodIn_of _ (by decide +kernel)) ggL_areMirrored_X1_leaves
set_option maxRecDepth 20000 in
theorem ggL_areMirrored_X1_lit : GoodIn wsL_areMirrored wsX1_lit := goodIn_r _ [23, 6, 24, 25, 26, 10, 27, 12, 13, 14, 15, 16, 17, 18, 19, 164, 165, 166, 167, 168, 169, 170, 171, 172, 173, 174, 175, 176] (by decide +kernel) (by decide +kernel)
set_option maxRecDepth 20000 in
theorem gL_areMirrored_X1_lit : GoodIn wsL_areMirrored (wsV RL 23 RX1 yX1_lit wsX1_lit) := goodIn_app (goodIn_of _ (by decide +kernel)) ggL_areMirrored_X1_lit
set_option maxRecDepth 20000 in
theorem ggL_areMirrored_X1_generation : GoodIn wsL_areMirrored wsX1_generation := goodIn_r _ [31, 32, 164, 165, 166, 167, 168, 169, 170, 171, 172, 173, 174] (by decide +kernel) (by decide +kernel)
set_option maxRecDepth 20000 in
theorem gL_areMirrored_X1_generation : GoodIn wsL_areMirrored (wsV RL 26 RX1 yX1_generation wsX1_generation) := goodIn_app (goodIn_of _ (by decide +kernel)) ggL_areMirrored_X1_generation
set_option maxRecDepth 20000 in
theorem ggL_areMirrored_X1_cutsLeft : GoodIn wsL_areMirrored wsX1_cutsLeft := goodIn_r _ [36, 37, 164, 165, 166, 167, 168, 169, 170, 171, 172, 173, 174] (by decide +kernel) (by decide +kernel)
set_option maxRecDepth 20000 in
theorem gL_areMirrored_X1_cutsLeft : GoodIn wsL_areMirrored (wsV RL 29 RX1 yX1_cutsLeft wsX1_cutsLeft) := goodIn_app (goodIn_of _ (by decide +kernel)) ggL_areMirrored_X1_cutsLeft
set_option maxRecDepth 20000 in
theorem ggL_areMirrored_X1_broken : GoodIn wsL_areMirrored wsX1_broken := goodIn_r _ [41, 42, 164, 165, 166, 167, 168, 169, 170, 171, 172, 173, 174] (by decide +kernel) (by decide +kernel)
set_option maxRecDepth 20000 in
theorem gL_areMirrored_X1_broken : GoodIn wsL_areMirrored (wsV RL 32 RX1 yX1_broken wsX1_broken) := goodIn_app (goodIn_of _ (by decide +kernel)) ggL_areMirrored_X1_broken
set_option maxRecDepth 20000 in
theorem ggL_areMirrored_X1_leavesNext : GoodIn wsL_areMirrored wsX1_leavesNext := goodIn_r _ [46, 47, 6, 48, 49, 50, 51, 52, 10, 53, 12, 54, 55, 56, 57, 58, 59, 60, 61, 62, 63, 64, 65, 66, 67, 68, 69, 13, 14, 15, 16, 17, 18, 19, 70, 71, 72, 73, 74, 75, 76, 77, 78, 79, 80, 81, 82, 83, 84, 85, 86, 87, 88, 89, 90, 91, 92, 93, 94, 95, 96, 97, 98, 99, 100, 101, 4, 102, 7, 8, 9, 11, 164, 165, 166, 167, 168, 169, 170, 171, 172, 173, 174, 175, 176] (by decide +kernel) (by decide +kernel)
set_option maxRecDepth 20000 in
theorem gL_areMirrored_X1_leavesNext : GoodIn wsL_areMirrored (wsV RL 35 RX1 yX1_leavesNext wsX1_leavesNext) := goodIn_app (goodIn_of _ (by decide +kernel)) ggL_areMirrored_X1_leavesNext
set_option maxRecDepth 20000 in
theorem ggL_areMirrored_X1_look : GoodIn wsL_areMirrored wsX1_look := goodIn_ca (goodIn_r _ [106, 6, 107, 108, 4, 109, 110, 111, 112, 101, 102, 113, 86, 87, 10, 88, 59, 60, 61, 62, 12, 114, 115, 116, 117, 85, 77, 78, 79, 80, 54, 164, 165, 166, 167, 168, 169, 170, 171, 172, 173, 174, 175, 176] (by decide +kernel) (by decide +kernel)) (goodIn_sub (fun _ h => List.mem_cons_of_mem _ (List.mem_append_right _ h)) (by decide +kernel))
set_option maxRecDepth 20000 in
theorem gL_areMirrored_X1_look : GoodIn wsL_areMirrored (wsV RL 38 RX1 yX1_look wsX1_look) := goodIn_app (goodIn_of _ (by decide +kernel)) ggL_areMirrored_X1_look
set_option maxRecDepth 20000 in
theorem ggL_areMirrored_X1_shadeOf : GoodIn wsL_areMirrored wsX1_shadeOf := goodIn_ca (goodIn_r _ [121, 6, 107, 108, 4, 109, 110, 111, 112, 101, 102, 122, 82, 83, 10, 84, 59, 60, 61, 62, 12, 164, 165, 166, 167, 168, 169, 170, 171, 172, 173, 174, 175, 176] (by decide +kernel) (by decide +kernel)) (goodIn_sub (fun _ h => List.mem_cons_of_mem _ (List.mem_append_right _ h)) (by decide +kernel))
set_option maxRecDepth 20000 in
theorem gL_areMirrored_X1_shadeOf : GoodIn wsL_areMirrored (wsV RL 42 RX1 yX1_shadeOf wsX1_shadeOf) := goodIn_app (goodIn_of _ (by decide +kernel)) ggL_areMirrored_X1_shadeOf
set_option maxRecDepth 20000 in
theorem ggL_areMirrored_X1_holdersOf : GoodIn wsL_areMirrored wsX1_holdersOf := goodIn_ca (goodIn_r _ [126, 6, 48, 107, 108, 4, 109, 110, 111, 112, 101, 102, 127, 128, 129, 10, 130, 63, 64, 65, 66, 59, 60, 61, 62, 12, 67, 68, 69, 13, 14, 15, 16, 17, 18, 19, 164, 165, 166, 167, 168, 169, 170, 171, 172, 173, 174, 175, 176] (by decide +kernel) (by decide +kernel)) (goodIn_sub (fun _ h => List.mem_cons_of_mem _ (List.mem_append_right _ h)) (by decide +kernel))
set_option maxRecDepth 20000 in
theorem gL_areMirrored_X1_holdersOf : GoodIn wsL_areMirrored (wsV RL 45 RX1 yX1_holdersOf wsX1_holdersOf) := goodIn_app (goodIn_of _ (by decide +kernel)) ggL_areMirrored_X1_holdersOf
set_option maxRecDepth 20000 in
theorem ggL_areMirrored_X1_neighboursOf : GoodIn wsL_areMirrored wsX1_neighboursOf := goodIn_ca (goodIn_r _ [134, 6, 48, 107, 108, 4, 109, 110, 111, 112, 101, 102, 135, 136, 137, 10, 138, 63, 64, 65, 66, 59, 60, 61, 62, 12, 70, 71, 72, 13, 14, 15, 16, 17, 18, 19, 164, 165, 166, 167, 168, 169, 170, 171, 172, 173, 174, 175, 176] (by decide +kernel) (by decide +kernel)) (goodIn_sub (fun _ h => List.mem_cons_of_mem _ (List.mem_append_right _ h)) (by decide +kernel))
set_option maxRecDepth 20000 in
theorem gL_areMirrored_X1_neighboursOf : GoodIn wsL_areMirrored (wsV RL 48 RX1 yX1_neighboursOf wsX1_neighboursOf) := goodIn_app (goodIn_of _ (by decide +kernel)) ggL_areMirrored_X1_neighboursOf
set_option maxRecDepth 20000 in
theorem ggL_areMirrored_X1_leavesIn : GoodIn wsL_areMirrored wsX1_leavesIn := goodIn_ca (goodIn_r _ [142, 6, 143, 144, 4, 145, 110, 111, 146, 90, 91, 10, 92, 81, 82, 83, 84, 59, 60, 61, 62, 12, 164, 165, 166, 167, 168, 169, 170, 171, 172, 173, 174, 175, 176] (by decide +kernel) (by decide +kernel)) (goodIn_sub (fun _ h => List.mem_cons_of_mem _ (List.mem_append_right _ h)) (by decide +kernel))
set_option maxRecDepth 20000 in
theorem gL_areMirrored_X1_leavesIn : GoodIn wsL_areMirrored (wsV RL 51 RX1 yX1_leavesIn wsX1_leavesIn) := goodIn_app (goodIn_of _ (by decide +kernel)) ggL_areMirrored_X1_leavesIn
set_option maxRecDepth 20000 in
theorem ggL_areMirrored_X1_bestCut : GoodIn wsL_areMirrored wsX1_bestCut := goodIn_r _ [150, 6, 113, 86, 87, 10, 88, 59, 60, 61, 62, 12, 151, 152, 153, 4, 154, 155, 47, 48, 49, 156, 157, 158, 159, 54, 160, 161, 162, 163, 97, 98, 99, 100, 101, 102, 50, 51, 52, 53, 55, 56, 57, 58, 63, 64, 65, 66, 67, 68, 69, 13, 14, 15, 16, 17, 18, 19, 70, 71, 72, 73, 74, 75, 76, 77, 78, 79, 80, 81, 82, 83, 84, 85, 89, 90, 91, 92, 93, 94, 95, 96, 24, 25, 26, 27, 164, 165, 166, 167, 168, 169, 170, 171, 172, 173, 174, 175, 176] (by decide +kernel) (by decide +kernel)
set_option maxRecDepth 20000 in
theorem gL_areMirrored_X1_bestCut : GoodIn wsL_areMirrored (wsV RL 55 RX1 yX1_bestCut wsX1_bestCut) := goodIn_app (goodIn_of _ (by decide +kernel)) ggL_areMirrored_X1_bestCut
theorem dL_areMirrored_0 : decode cL_areMirrored 0 = .ok (.aload_n 0, 1) := by decide +kernel
theorem dL_areMirrored_1 : decode cL_areMirrored 1 = .ok (.invokevirtual 20, 3) := by decide +kernel
theorem dL_areMirrored_4 : decode cL_areMirrored 4 = .ok (.aload_n 1, 1) := by decide +kernel
theorem dL_areMirrored_5 : decode cL_areMirrored 5 = .ok (.invokevirtual 20, 3) := by decide +kernel
theorem dL_areMirrored_8 : decode cL_areMirrored 8 = .ok (.if_icmp .ne 62, 3) := by decide +kernel
theorem dL_areMirrored_11 : decode cL_areMirrored 11 = .ok (.aload_n 0, 1) := by decide +kernel
theorem dL_areMirrored_12 : decode cL_areMirrored 12 = .ok (.invokevirtual 23, 3) := by decide +kernel
theorem dL_areMirrored_15 : decode cL_areMirrored 15 = .ok (.aload_n 1, 1) := by decide +kernel
theorem dL_areMirrored_16 : decode cL_areMirrored 16 = .ok (.invokevirtual 23, 3) := by decide +kernel
theorem dL_areMirrored_19 : decode cL_areMirrored 19 = .ok (.if_icmp .ne 51, 3) := by decide +kernel
theorem dL_areMirrored_22 : decode cL_areMirrored 22 = .ok (.aload_n 0, 1) := by decide +kernel
theorem dL_areMirrored_23 : decode cL_areMirrored 23 = .ok (.invokevirtual 26, 3) := by decide +kernel
theorem dL_areMirrored_26 : decode cL_areMirrored 26 = .ok (.aload_n 1, 1) := by decide +kernel
theorem dL_areMirrored_27 : decode cL_areMirrored 27 = .ok (.invokevirtual 26, 3) := by decide +kernel
theorem dL_areMirrored_30 : decode cL_areMirrored 30 = .ok (.if_icmp .ne 40, 3) := by decide +kernel
theorem dL_areMirrored_33 : decode cL_areMirrored 33 = .ok (.aload_n 0, 1) := by decide +kernel
theorem dL_areMirrored_34 : decode cL_areMirrored 34 = .ok (.invokevirtual 29, 3) := by decide +kernel
theorem dL_areMirrored_37 : decode cL_areMirrored 37 = .ok (.aload_n 1, 1) := by decide +kernel
theorem dL_areMirrored_38 : decode cL_areMirrored 38 = .ok (.invokevirtual 29, 3) := by decide +kernel
theorem dL_areMirrored_41 : decode cL_areMirrored 41 = .ok (.if_icmp .ne 29, 3) := by decide +kernel
theorem dL_areMirrored_44 : decode cL_areMirrored 44 = .ok (.aload_n 0, 1) := by decide +kernel
theorem dL_areMirrored_45 : decode cL_areMirrored 45 = .ok (.invokevirtual 32, 3) := by decide +kernel
theorem dL_areMirrored_48 : decode cL_areMirrored 48 = .ok (.aload_n 1, 1) := by decide +kernel
theorem dL_areMirrored_49 : decode cL_areMirrored 49 = .ok (.invokevirtual 32, 3) := by decide +kernel
theorem dL_areMirrored_52 : decode cL_areMirrored 52 = .ok (.if_icmp .ne 18, 3) := by decide +kernel
theorem dL_areMirrored_55 : decode cL_areMirrored 55 = .ok (.aload_n 0, 1) := by decide +kernel
theorem dL_areMirrored_56 : decode cL_areMirrored 56 = .ok (.invokevirtual 35, 3) := by decide +kernel
theorem dL_areMirrored_59 : decode cL_areMirrored 59 = .ok (.aload_n 1, 1) := by decide +kernel
theorem dL_areMirrored_60 : decode cL_areMirrored 60 = .ok (.invokevirtual 35, 3) := by decide +kernel
theorem dL_areMirrored_63 : decode cL_areMirrored 63 = .ok (.if_icmp .ne 7, 3) := by decide +kernel
theorem dL_areMirrored_66 : decode cL_areMirrored 66 = .ok (.iconst 1, 1) := by decide +kernel
theorem dL_areMirrored_67 : decode cL_areMirrored 67 = .ok (.goto 4, 3) := by decide +kernel
theorem dL_areMirrored_70 : decode cL_areMirrored 70 = .ok (.iconst 0, 1) := by decide +kernel
theorem dL_areMirrored_71 : decode cL_areMirrored 71 = .ok (.istore_n 2, 1) := by decide +kernel
theorem dL_areMirrored_72 : decode cL_areMirrored 72 = .ok (.iconst 0, 1) := by decide +kernel
theorem dL_areMirrored_73 : decode cL_areMirrored 73 = .ok (.istore_n 3, 1) := by decide +kernel
theorem dL_areMirrored_74 : decode cL_areMirrored 74 = .ok (.iload_n 3, 1) := by decide +kernel
theorem dL_areMirrored_75 : decode cL_areMirrored 75 = .ok (.bipush 96, 2) := by decide +kernel
theorem dL_areMirrored_77 : decode cL_areMirrored 77 = .ok (.if_icmp .ge 134, 3) := by decide +kernel
theorem dL_areMirrored_80 : decode cL_areMirrored 80 = .ok (.iload_n 3, 1) := by decide +kernel
theorem dL_areMirrored_81 : decode cL_areMirrored 81 = .ok (.bipush 12, 2) := by decide +kernel
theorem dL_areMirrored_83 : decode cL_areMirrored 83 = .ok (.idiv, 1) := by decide +kernel
theorem dL_areMirrored_84 : decode cL_areMirrored 84 = .ok (.istore 4, 2) := by decide +kernel
theorem dL_areMirrored_86 : decode cL_areMirrored 86 = .ok (.iload_n 3, 1) := by decide +kernel
theorem dL_areMirrored_87 : decode cL_areMirrored 87 = .ok (.bipush 12, 2) := by decide +kernel
theorem dL_areMirrored_89 : decode cL_areMirrored 89 = .ok (.irem, 1) := by decide +kernel
theorem dL_areMirrored_90 : decode cL_areMirrored 90 = .ok (.istore 5, 2) := by decide +kernel
theorem dL_areMirrored_92 : decode cL_areMirrored 92 = .ok (.bipush 11, 2) := by decide +kernel
theorem dL_areMirrored_94 : decode cL_areMirrored 94 = .ok (.iload 5, 2) := by decide +kernel
theorem dL_areMirrored_96 : decode cL_areMirrored 96 = .ok (.isub, 1) := by decide +kernel
theorem dL_areMirrored_97 : decode cL_areMirrored 97 = .ok (.istore 6, 2) := by decide +kernel
theorem dL_areMirrored_99 : decode cL_areMirrored 99 = .ok (.iload_n 2, 1) := by decide +kernel
theorem dL_areMirrored_100 : decode cL_areMirrored 100 = .ok (.ifCond .eq 103, 3) := by decide +kernel
theorem dL_areMirrored_103 : decode cL_areMirrored 103 = .ok (.aload_n 0, 1) := by decide +kernel
theorem dL_areMirrored_104 : decode cL_areMirrored 104 = .ok (.iload 4, 2) := by decide +kernel
theorem dL_areMirrored_106 : decode cL_areMirrored 106 = .ok (.iload 5, 2) := by decide +kernel
theorem dL_areMirrored_108 : decode cL_areMirrored 108 = .ok (.invokevirtual 38, 3) := by decide +kernel
theorem dL_areMirrored_111 : decode cL_areMirrored 111 = .ok (.aload_n 1, 1) := by decide +kernel
theorem dL_areMirrored_112 : decode cL_areMirrored 112 = .ok (.iload 4, 2) := by decide +kernel
theorem dL_areMirrored_114 : decode cL_areMirrored 114 = .ok (.iload 6, 2) := by decide +kernel
theorem dL_areMirrored_116 : decode cL_areMirrored 116 = .ok (.invokevirtual 38, 3) := by decide +kernel
theorem dL_areMirrored_119 : decode cL_areMirrored 119 = .ok (.if_icmp .ne 84, 3) := by decide +kernel
theorem dL_areMirrored_122 : decode cL_areMirrored 122 = .ok (.aload_n 0, 1) := by decide +kernel
theorem dL_areMirrored_123 : decode cL_areMirrored 123 = .ok (.iload 4, 2) := by decide +kernel
theorem dL_areMirrored_125 : decode cL_areMirrored 125 = .ok (.iload 5, 2) := by decide +kernel
theorem dL_areMirrored_127 : decode cL_areMirrored 127 = .ok (.invokevirtual 42, 3) := by decide +kernel
theorem dL_areMirrored_130 : decode cL_areMirrored 130 = .ok (.aload_n 1, 1) := by decide +kernel
theorem dL_areMirrored_131 : decode cL_areMirrored 131 = .ok (.iload 4, 2) := by decide +kernel
theorem dL_areMirrored_133 : decode cL_areMirrored 133 = .ok (.iload 6, 2) := by decide +kernel
theorem dL_areMirrored_135 : decode cL_areMirrored 135 = .ok (.invokevirtual 42, 3) := by decide +kernel
theorem dL_areMirrored_138 : decode cL_areMirrored 138 = .ok (.if_icmp .ne 65, 3) := by decide +kernel
theorem dL_areMirrored_141 : decode cL_areMirrored 141 = .ok (.aload_n 0, 1) := by decide +kernel
theorem dL_areMirrored_142 : decode cL_areMirrored 142 = .ok (.iload 4, 2) := by decide +kernel
theorem dL_areMirrored_144 : decode cL_areMirrored 144 = .ok (.iload 5, 2) := by decide +kernel
theorem dL_areMirrored_146 : decode cL_areMirrored 146 = .ok (.invokevirtual 45, 3) := by decide +kernel
theorem dL_areMirrored_149 : decode cL_areMirrored 149 = .ok (.aload_n 1, 1) := by decide +kernel
theorem dL_areMirrored_150 : decode cL_areMirrored 150 = .ok (.iload 4, 2) := by decide +kernel
theorem dL_areMirrored_152 : decode cL_areMirrored 152 = .ok (.iload 6, 2) := by decide +kernel
theorem dL_areMirrored_154 : decode cL_areMirrored 154 = .ok (.invokevirtual 45, 3) := by decide +kernel
theorem dL_areMirrored_157 : decode cL_areMirrored 157 = .ok (.if_icmp .ne 46, 3) := by decide +kernel
theorem dL_areMirrored_160 : decode cL_areMirrored 160 = .ok (.aload_n 0, 1) := by decide +kernel
theorem dL_areMirrored_161 : decode cL_areMirrored 161 = .ok (.iload 4, 2) := by decide +kernel
theorem dL_areMirrored_163 : decode cL_areMirrored 163 = .ok (.iload 5, 2) := by decide +kernel
theorem dL_areMirrored_165 : decode cL_areMirrored 165 = .ok (.invokevirtual 48, 3) := by decide +kernel
theorem dL_areMirrored_168 : decode cL_areMirrored 168 = .ok (.aload_n 1, 1) := by decide +kernel
theorem dL_areMirrored_169 : decode cL_areMirrored 169 = .ok (.iload 4, 2) := by decide +kernel
theorem dL_areMirrored_171 : decode cL_areMirrored 171 = .ok (.iload 6, 2) := by decide +kernel
theorem dL_areMirrored_173 : decode cL_areMirrored 173 = .ok (.invokevirtual 48, 3) := by decide +kernel
theorem dL_areMirrored_176 : decode cL_areMirrored 176 = .ok (.if_icmp .ne 27, 3) := by decide +kernel
theorem dL_areMirrored_179 : decode cL_areMirrored 179 = .ok (.iload 4, 2) := by decide +kernel
theorem dL_areMirrored_181 : decode cL_areMirrored 181 = .ok (.ifCond .gt 18, 3) := by decide +kernel
theorem dL_areMirrored_184 : decode cL_areMirrored 184 = .ok (.aload_n 0, 1) := by decide +kernel
theorem dL_areMirrored_185 : decode cL_areMirrored 185 = .ok (.iload 5, 2) := by decide +kernel
theorem dL_areMirrored_187 : decode cL_areMirrored 187 = .ok (.invokevirtual 51, 3) := by decide +kernel
theorem dL_areMirrored_190 : decode cL_areMirrored 190 = .ok (.aload_n 1, 1) := by decide +kernel
theorem dL_areMirrored_191 : decode cL_areMirrored 191 = .ok (.iload 6, 2) := by decide +kernel
theorem dL_areMirrored_193 : decode cL_areMirrored 193 = .ok (.invokevirtual 51, 3) := by decide +kernel
theorem dL_areMirrored_196 : decode cL_areMirrored 196 = .ok (.if_icmp .ne 7, 3) := by decide +kernel
theorem dL_areMirrored_199 : decode cL_areMirrored 199 = .ok (.iconst 1, 1) := by decide +kernel
theorem dL_areMirrored_200 : decode cL_areMirrored 200 = .ok (.goto 4, 3) := by decide +kernel
theorem dL_areMirrored_203 : decode cL_areMirrored 203 = .ok (.iconst 0, 1) := by decide +kernel
theorem dL_areMirrored_204 : decode cL_areMirrored 204 = .ok (.istore_n 2, 1) := by decide +kernel
theorem dL_areMirrored_205 : decode cL_areMirrored 205 = .ok (.iinc 3 1, 3) := by decide +kernel
theorem dL_areMirrored_208 : decode cL_areMirrored 208 = .ok (.goto (-134), 3) := by decide +kernel
theorem dL_areMirrored_211 : decode cL_areMirrored 211 = .ok (.aload_n 0, 1) := by decide +kernel
theorem dL_areMirrored_212 : decode cL_areMirrored 212 = .ok (.invokevirtual 55, 3) := by decide +kernel
theorem dL_areMirrored_215 : decode cL_areMirrored 215 = .ok (.istore_n 3, 1) := by decide +kernel
theorem dL_areMirrored_216 : decode cL_areMirrored 216 = .ok (.aload_n 1, 1) := by decide +kernel
theorem dL_areMirrored_217 : decode cL_areMirrored 217 = .ok (.invokevirtual 55, 3) := by decide +kernel
theorem dL_areMirrored_220 : decode cL_areMirrored 220 = .ok (.istore 4, 2) := by decide +kernel
theorem dL_areMirrored_222 : decode cL_areMirrored 222 = .ok (.iload_n 2, 1) := by decide +kernel
theorem dL_areMirrored_223 : decode cL_areMirrored 223 = .ok (.ifCond .eq 72, 3) := by decide +kernel
theorem dL_areMirrored_226 : decode cL_areMirrored 226 = .ok (.iload_n 3, 1) := by decide +kernel
theorem dL_areMirrored_227 : decode cL_areMirrored 227 = .ok (.ifCond .ge 7, 3) := by decide +kernel
theorem dL_areMirrored_230 : decode cL_areMirrored 230 = .ok (.iconst 1, 1) := by decide +kernel
theorem dL_areMirrored_231 : decode cL_areMirrored 231 = .ok (.goto 4, 3) := by decide +kernel
theorem dL_areMirrored_234 : decode cL_areMirrored 234 = .ok (.iconst 0, 1) := by decide +kernel
theorem dL_areMirrored_235 : decode cL_areMirrored 235 = .ok (.aload_n 0, 1) := by decide +kernel
theorem dL_areMirrored_236 : decode cL_areMirrored 236 = .ok (.invokevirtual 20, 3) := by decide +kernel
theorem dL_areMirrored_239 : decode cL_areMirrored 239 = .ok (.ifCond .ne 7, 3) := by decide +kernel
theorem dL_areMirrored_242 : decode cL_areMirrored 242 = .ok (.iconst 1, 1) := by decide +kernel
theorem dL_areMirrored_243 : decode cL_areMirrored 243 = .ok (.goto 4, 3) := by decide +kernel
theorem dL_areMirrored_246 : decode cL_areMirrored 246 = .ok (.iconst 0, 1) := by decide +kernel
theorem dL_areMirrored_247 : decode cL_areMirrored 247 = .ok (.if_icmp .ne 48, 3) := by decide +kernel
theorem dL_areMirrored_250 : decode cL_areMirrored 250 = .ok (.iload_n 3, 1) := by decide +kernel
theorem dL_areMirrored_251 : decode cL_areMirrored 251 = .ok (.ifCond .ge 11, 3) := by decide +kernel
theorem dL_areMirrored_254 : decode cL_areMirrored 254 = .ok (.iload 4, 2) := by decide +kernel
theorem dL_areMirrored_256 : decode cL_areMirrored 256 = .ok (.ifCond .ge 39, 3) := by decide +kernel
theorem dL_areMirrored_259 : decode cL_areMirrored 259 = .ok (.goto 32, 3) := by decide +kernel
theorem dL_areMirrored_262 : decode cL_areMirrored 262 = .ok (.iload_n 3, 1) := by decide +kernel
theorem dL_areMirrored_263 : decode cL_areMirrored 263 = .ok (.bipush 12, 2) := by decide +kernel
theorem dL_areMirrored_265 : decode cL_areMirrored 265 = .ok (.idiv, 1) := by decide +kernel
theorem dL_areMirrored_266 : decode cL_areMirrored 266 = .ok (.iload 4, 2) := by decide +kernel
theorem dL_areMirrored_268 : decode cL_areMirrored 268 = .ok (.bipush 12, 2) := by decide +kernel
theorem dL_areMirrored_270 : decode cL_areMirrored 270 = .ok (.idiv, 1) := by decide +kernel
theorem dL_areMirrored_271 : decode cL_areMirrored 271 = .ok (.if_icmp .ne 24, 3) := by decide +kernel
theorem dL_areMirrored_274 : decode cL_areMirrored 274 = .ok (.aload_n 0, 1) := by decide +kernel
theorem dL_areMirrored_275 : decode cL_areMirrored 275 = .ok (.iload_n 3, 1) := by decide +kernel
theorem dL_areMirrored_276 : decode cL_areMirrored 276 = .ok (.bipush 12, 2) := by decide +kernel
theorem dL_areMirrored_278 : decode cL_areMirrored 278 = .ok (.idiv, 1) := by decide +kernel
theorem dL_areMirrored_279 : decode cL_areMirrored 279 = .ok (.iload_n 3, 1) := by decide +kernel
theorem dL_areMirrored_280 : decode cL_areMirrored 280 = .ok (.bipush 12, 2) := by decide +kernel
theorem dL_areMirrored_282 : decode cL_areMirrored 282 = .ok (.irem, 1) := by decide +kernel
theorem dL_areMirrored_283 : decode cL_areMirrored 283 = .ok (.invokevirtual 38, 3) := by decide +kernel
theorem dL_areMirrored_286 : decode cL_areMirrored 286 = .ok (.bipush 35, 2) := by decide +kernel
end
section
theorem dL_areMirrored_288 : decode cL_areMirrored 288 = .ok (.if_icmp .ne 7, 3) := by decide +kernel
theorem dL_areMirrored_291 : decode cL_areMirrored 291 = .ok (.iconst 1, 1) := by decide +kernel
theorem dL_areMirrored_292 : decode cL_areMirrored 292 = .ok (.goto 4, 3) := by decide +kernel
theorem dL_areMirrored_295 : decode cL_areMirrored 295 = .ok (.iconst 0, 1) := by decide +kernel
theorem dL_areMirrored_296 : decode cL_areMirrored 296 = .ok (.ireturn, 1) := by decide +kernel
set_option maxRecDepth 20000 in
theorem ggL_isGrownRight_X1_look : GoodIn wsL_isGrownRight wsX1_look := goodIn_ca (goodIn_r _ [5, 6, 7, 8, 4, 9, 10, 11, 12, 13, 14, 15, 16, 17, 18, 19, 20, 21, 22, 23, 24, 25, 26, 27, 28, 29, 30, 31, 32, 33, 34, 110, 111, 112, 113, 114, 115, 116, 117, 118, 119, 120, 121, 122] (by decide +kernel) (by decide +kernel)) (goodIn_sub (fun _ h => List.mem_cons_of_mem _ (List.mem_append_right _ h)) (by decide +kernel))
set_option maxRecDepth 20000 in
theorem gL_isGrownRight_X1_look : GoodIn wsL_isGrownRight (wsV RL 38 RX1 yX1_look wsX1_look) := goodIn_app (goodIn_of _ (by decide +kernel)) ggL_isGrownRight_X1_look
set_option maxRecDepth 20000 in
theorem ggL_isGrownRight_X1_shadeOf : GoodIn wsL_isGrownRight wsX1_shadeOf := goodIn_ca (goodIn_r _ [38, 6, 7, 8, 4, 9, 10, 11, 12, 13, 14, 39, 40, 41, 18, 42, 20, 21, 22, 23, 24, 110, 111, 112, 113, 114, 115, 116, 117, 118, 119, 120, 121, 122] (by decide +kernel) (by decide +kernel)) (goodIn_sub (fun _ h => List.mem_cons_of_mem _ (List.mem_append_right _ h)) (by decide +kernel))
set_option maxRecDepth 20000 in
theorem gL_isGrownRight_X1_shadeOf : GoodIn wsL_isGrownRight (wsV RL 42 RX1 yX1_shadeOf wsX1_shadeOf) := goodIn_app (goodIn_of _ (by decide +kernel)) ggL_isGrownRight_X1_shadeOf
set_option maxRecDepth 20000 in
theorem ggL_isGrownRight_X1_holdersOf : GoodIn wsL_isGrownRight wsX1_holdersOf := goodIn_ca (goodIn_r _ [46, 6, 47, 7, 8, 4, 9, 10, 11, 12, 13, 14, 48, 49, 50, 18, 51, 52, 53, 54, 55, 20, 21, 22, 23, 24, 56, 57, 58, 59, 60, 61, 62, 63, 64, 65, 110, 111, 112, 113, 114, 115, 116, 117, 118, 119, 120, 121, 122] (by decide +kernel) (by decide +kernel)) (goodIn_sub (fun _ h => List.mem_cons_of_mem _ (List.mem_append_right _ h)) (by decide +kernel))
set_option maxRecDepth 20000 in
theorem gL_isGrownRight_X1_holdersOf : GoodIn wsL_isGrownRight (wsV RL 45 RX1 yX1_holdersOf wsX1_holdersOf) := goodIn_app (goodIn_of _ (by decide +kernel)) ggL_isGrownRight_X1_holdersOf
set_option maxRecDepth 20000 in
theorem ggL_isGrownRight_X1_neighboursOf : GoodIn wsL_isGrownRight wsX1_neighboursOf := goodIn_ca (goodIn_r _ [69, 6, 47, 7, 8, 4, 9, 10, 11, 12, 13, 14, 70, 71, 72, 18, 73, 52, 53, 54, 55, 20, 21, 22, 23, 24, 74, 75, 76, 59, 60, 61, 62, 63, 64, 65, 110, 111, 112, 113, 114, 115, 116, 117, 118, 119, 120, 121, 122] (by decide +kernel) (by decide +kernel)) (goodIn_sub (fun _ h => List.mem_cons_of_mem _ (List.mem_append_right _ h)) (by decide +kernel))
set_option maxRecDepth 20000 in
theorem gL_isGrownRight_X1_neighboursOf : GoodIn wsL_isGrownRight (wsV RL 48 RX1 yX1_neighboursOf wsX1_neighboursOf) := goodIn_app (goodIn_of _ (by decide +kernel)) ggL_isGrownRight_X1_neighboursOf
set_option maxRecDepth 20000 in
theorem ggL_isGrownRight_X1_leavesIn : GoodIn wsL_isGrownRight wsX1_leavesIn := goodIn_ca (goodIn_r _ [80, 6, 81, 82, 4, 83, 10, 11, 84, 85, 86, 18, 87, 88, 40, 41, 42, 20, 21, 22, 23, 24, 110, 111, 112, 113, 114, 115, 116, 117, 118, 119, 120, 121, 122] (by decide +kernel) (by decide +kernel)) (goodIn_sub (fun _ h => List.mem_cons_of_mem _ (List.mem_append_right _ h)) (by decide +kernel))
set_option maxRecDepth 20000 in
theorem gL_isGrownRight_X1_leavesIn : GoodIn wsL_isGrownRight (wsV RL 51 RX1 yX1_leavesIn wsX1_leavesIn) := goodIn_app (goodIn_of _ (by decide +kernel)) ggL_isGrownRight_X1_leavesIn
set_option maxRecDepth 20000 in
theorem ggL_isGrownRight_X1_leaves : GoodIn wsL_isGrownRight wsX1_leaves := goodIn_r _ [92, 6, 93, 94, 95, 18, 96, 24, 59, 60, 61, 62, 63, 64, 65, 110, 111, 112, 113, 114, 115, 116, 117, 118, 119, 120, 121, 122] (by decide +kernel) (by decide +kernel)
set_option maxRecDepth 20000 in
theorem gL_isGrownRight_X1_leaves : GoodIn wsL_isGrownRight (wsV RL 20 RX1 yX1_leaves wsX1_leaves) := goodIn_app (goodIn_of _ (by decide +kernel)) ggL_isGrownRight_X1_leaves
set_option maxRecDepth 20000 in
theorem ggL_isGrownRight_X1_lit : GoodIn wsL_isGrownRight wsX1_lit := goodIn_r _ [100, 6, 101, 102, 103, 18, 104, 24, 59, 60, 61, 62, 63, 64, 65, 110, 111, 112, 113, 114, 115, 116, 117, 118, 119, 120, 121, 122] (by decide +kernel) (by decide +kernel)
set_option maxRecDepth 20000 in
theorem gL_isGrownRight_X1_lit : GoodIn wsL_isGrownRight (wsV RL 23 RX1 yX1_lit wsX1_lit) := goodIn_app (goodIn_of _ (by decide +kernel)) ggL_isGrownRight_X1_lit
set_option maxRecDepth 20000 in
theorem ggL_isGrownRight_X1_cutsLeft : GoodIn wsL_isGrownRight wsX1_cutsLeft := goodIn_r _ [108, 109, 110, 111, 112, 113, 114, 115, 116, 117, 118, 119, 120] (by decide +kernel) (by decide +kernel)
set_option maxRecDepth 20000 in
theorem gL_isGrownRight_X1_cutsLeft : GoodIn wsL_isGrownRight (wsV RL 29 RX1 yX1_cutsLeft wsX1_cutsLeft) := goodIn_app (goodIn_of _ (by decide +kernel)) ggL_isGrownRight_X1_cutsLeft
theorem dL_isGrownRight_0 : decode cL_isGrownRight 0 = .ok (.iconst 0, 1) := by decide +kernel
theorem dL_isGrownRight_1 : decode cL_isGrownRight 1 = .ok (.istore_n 2, 1) := by decide +kernel
theorem dL_isGrownRight_2 : decode cL_isGrownRight 2 = .ok (.iconst 0, 1) := by decide +kernel
theorem dL_isGrownRight_3 : decode cL_isGrownRight 3 = .ok (.istore_n 3, 1) := by decide +kernel
theorem dL_isGrownRight_4 : decode cL_isGrownRight 4 = .ok (.iconst 1, 1) := by decide +kernel
theorem dL_isGrownRight_5 : decode cL_isGrownRight 5 = .ok (.istore 4, 2) := by decide +kernel
theorem dL_isGrownRight_7 : decode cL_isGrownRight 7 = .ok (.iconst 0, 1) := by decide +kernel
theorem dL_isGrownRight_8 : decode cL_isGrownRight 8 = .ok (.istore 5, 2) := by decide +kernel
theorem dL_isGrownRight_10 : decode cL_isGrownRight 10 = .ok (.iload 5, 2) := by decide +kernel
theorem dL_isGrownRight_12 : decode cL_isGrownRight 12 = .ok (.bipush 12, 2) := by decide +kernel
theorem dL_isGrownRight_14 : decode cL_isGrownRight 14 = .ok (.if_icmp .ge 174, 3) := by decide +kernel
theorem dL_isGrownRight_17 : decode cL_isGrownRight 17 = .ok (.iconst 0, 1) := by decide +kernel
theorem dL_isGrownRight_18 : decode cL_isGrownRight 18 = .ok (.istore 6, 2) := by decide +kernel
theorem dL_isGrownRight_20 : decode cL_isGrownRight 20 = .ok (.bipush 7, 2) := by decide +kernel
theorem dL_isGrownRight_22 : decode cL_isGrownRight 22 = .ok (.istore 7, 2) := by decide +kernel
theorem dL_isGrownRight_24 : decode cL_isGrownRight 24 = .ok (.iload 7, 2) := by decide +kernel
theorem dL_isGrownRight_26 : decode cL_isGrownRight 26 = .ok (.ifCond .lt 119, 3) := by decide +kernel
theorem dL_isGrownRight_29 : decode cL_isGrownRight 29 = .ok (.aload_n 0, 1) := by decide +kernel
theorem dL_isGrownRight_30 : decode cL_isGrownRight 30 = .ok (.iload 7, 2) := by decide +kernel
theorem dL_isGrownRight_32 : decode cL_isGrownRight 32 = .ok (.iload 5, 2) := by decide +kernel
theorem dL_isGrownRight_34 : decode cL_isGrownRight 34 = .ok (.invokevirtual 38, 3) := by decide +kernel
theorem dL_isGrownRight_37 : decode cL_isGrownRight 37 = .ok (.bipush 35, 2) := by decide +kernel
theorem dL_isGrownRight_39 : decode cL_isGrownRight 39 = .ok (.if_icmp .ne 7, 3) := by decide +kernel
theorem dL_isGrownRight_42 : decode cL_isGrownRight 42 = .ok (.iconst 1, 1) := by decide +kernel
theorem dL_isGrownRight_43 : decode cL_isGrownRight 43 = .ok (.goto 4, 3) := by decide +kernel
theorem dL_isGrownRight_46 : decode cL_isGrownRight 46 = .ok (.iconst 0, 1) := by decide +kernel
theorem dL_isGrownRight_47 : decode cL_isGrownRight 47 = .ok (.istore 8, 2) := by decide +kernel
theorem dL_isGrownRight_49 : decode cL_isGrownRight 49 = .ok (.iload 4, 2) := by decide +kernel
theorem dL_isGrownRight_51 : decode cL_isGrownRight 51 = .ok (.ifCond .eq 52, 3) := by decide +kernel
theorem dL_isGrownRight_54 : decode cL_isGrownRight 54 = .ok (.aload_n 0, 1) := by decide +kernel
theorem dL_isGrownRight_55 : decode cL_isGrownRight 55 = .ok (.iload 7, 2) := by decide +kernel
theorem dL_isGrownRight_57 : decode cL_isGrownRight 57 = .ok (.iload 5, 2) := by decide +kernel
theorem dL_isGrownRight_59 : decode cL_isGrownRight 59 = .ok (.invokevirtual 42, 3) := by decide +kernel
theorem dL_isGrownRight_62 : decode cL_isGrownRight 62 = .ok (.iload 6, 2) := by decide +kernel
theorem dL_isGrownRight_64 : decode cL_isGrownRight 64 = .ok (.if_icmp .ne 39, 3) := by decide +kernel
theorem dL_isGrownRight_67 : decode cL_isGrownRight 67 = .ok (.aload_n 0, 1) := by decide +kernel
theorem dL_isGrownRight_68 : decode cL_isGrownRight 68 = .ok (.iload 7, 2) := by decide +kernel
theorem dL_isGrownRight_70 : decode cL_isGrownRight 70 = .ok (.iload 5, 2) := by decide +kernel
theorem dL_isGrownRight_72 : decode cL_isGrownRight 72 = .ok (.invokevirtual 45, 3) := by decide +kernel
theorem dL_isGrownRight_75 : decode cL_isGrownRight 75 = .ok (.aload_n 0, 1) := by decide +kernel
theorem dL_isGrownRight_76 : decode cL_isGrownRight 76 = .ok (.iload 7, 2) := by decide +kernel
theorem dL_isGrownRight_78 : decode cL_isGrownRight 78 = .ok (.iload 5, 2) := by decide +kernel
theorem dL_isGrownRight_80 : decode cL_isGrownRight 80 = .ok (.invokevirtual 48, 3) := by decide +kernel
theorem dL_isGrownRight_83 : decode cL_isGrownRight 83 = .ok (.if_icmp .gt 20, 3) := by decide +kernel
theorem dL_isGrownRight_86 : decode cL_isGrownRight 86 = .ok (.aload_n 0, 1) := by decide +kernel
theorem dL_isGrownRight_87 : decode cL_isGrownRight 87 = .ok (.iload 7, 2) := by decide +kernel
theorem dL_isGrownRight_89 : decode cL_isGrownRight 89 = .ok (.iload 5, 2) := by decide +kernel
theorem dL_isGrownRight_91 : decode cL_isGrownRight 91 = .ok (.invokevirtual 38, 3) := by decide +kernel
theorem dL_isGrownRight_94 : decode cL_isGrownRight 94 = .ok (.bipush 120, 2) := by decide +kernel
theorem dL_isGrownRight_96 : decode cL_isGrownRight 96 = .ok (.if_icmp .eq 7, 3) := by decide +kernel
theorem dL_isGrownRight_99 : decode cL_isGrownRight 99 = .ok (.iconst 1, 1) := by decide +kernel
theorem dL_isGrownRight_100 : decode cL_isGrownRight 100 = .ok (.goto 4, 3) := by decide +kernel
theorem dL_isGrownRight_103 : decode cL_isGrownRight 103 = .ok (.iconst 0, 1) := by decide +kernel
theorem dL_isGrownRight_104 : decode cL_isGrownRight 104 = .ok (.istore 4, 2) := by decide +kernel
theorem dL_isGrownRight_106 : decode cL_isGrownRight 106 = .ok (.iload_n 3, 1) := by decide +kernel
theorem dL_isGrownRight_107 : decode cL_isGrownRight 107 = .ok (.iload 8, 2) := by decide +kernel
theorem dL_isGrownRight_109 : decode cL_isGrownRight 109 = .ok (.ifCond .eq 12, 3) := by decide +kernel
theorem dL_isGrownRight_112 : decode cL_isGrownRight 112 = .ok (.iload 6, 2) := by decide +kernel
theorem dL_isGrownRight_114 : decode cL_isGrownRight 114 = .ok (.ifCond .ne 7, 3) := by decide +kernel
theorem dL_isGrownRight_117 : decode cL_isGrownRight 117 = .ok (.iconst 1, 1) := by decide +kernel
theorem dL_isGrownRight_118 : decode cL_isGrownRight 118 = .ok (.goto 4, 3) := by decide +kernel
theorem dL_isGrownRight_121 : decode cL_isGrownRight 121 = .ok (.iconst 0, 1) := by decide +kernel
theorem dL_isGrownRight_122 : decode cL_isGrownRight 122 = .ok (.iadd, 1) := by decide +kernel
theorem dL_isGrownRight_123 : decode cL_isGrownRight 123 = .ok (.istore_n 3, 1) := by decide +kernel
theorem dL_isGrownRight_124 : decode cL_isGrownRight 124 = .ok (.iload 6, 2) := by decide +kernel
theorem dL_isGrownRight_126 : decode cL_isGrownRight 126 = .ok (.iload 8, 2) := by decide +kernel
theorem dL_isGrownRight_128 : decode cL_isGrownRight 128 = .ok (.ifCond .eq 7, 3) := by decide +kernel
theorem dL_isGrownRight_131 : decode cL_isGrownRight 131 = .ok (.iconst 1, 1) := by decide +kernel
theorem dL_isGrownRight_132 : decode cL_isGrownRight 132 = .ok (.goto 4, 3) := by decide +kernel
theorem dL_isGrownRight_135 : decode cL_isGrownRight 135 = .ok (.iconst 0, 1) := by decide +kernel
theorem dL_isGrownRight_136 : decode cL_isGrownRight 136 = .ok (.iadd, 1) := by decide +kernel
theorem dL_isGrownRight_137 : decode cL_isGrownRight 137 = .ok (.istore 6, 2) := by decide +kernel
theorem dL_isGrownRight_139 : decode cL_isGrownRight 139 = .ok (.iinc 7 (-1), 3) := by decide +kernel
theorem dL_isGrownRight_142 : decode cL_isGrownRight 142 = .ok (.goto (-118), 3) := by decide +kernel
theorem dL_isGrownRight_145 : decode cL_isGrownRight 145 = .ok (.iload_n 2, 1) := by decide +kernel
theorem dL_isGrownRight_146 : decode cL_isGrownRight 146 = .ok (.iload 6, 2) := by decide +kernel
theorem dL_isGrownRight_148 : decode cL_isGrownRight 148 = .ok (.iadd, 1) := by decide +kernel
theorem dL_isGrownRight_149 : decode cL_isGrownRight 149 = .ok (.istore_n 2, 1) := by decide +kernel
theorem dL_isGrownRight_150 : decode cL_isGrownRight 150 = .ok (.iload 4, 2) := by decide +kernel
theorem dL_isGrownRight_152 : decode cL_isGrownRight 152 = .ok (.ifCond .eq 27, 3) := by decide +kernel
theorem dL_isGrownRight_155 : decode cL_isGrownRight 155 = .ok (.aload_n 0, 1) := by decide +kernel
theorem dL_isGrownRight_156 : decode cL_isGrownRight 156 = .ok (.iload 5, 2) := by decide +kernel
theorem dL_isGrownRight_158 : decode cL_isGrownRight 158 = .ok (.invokevirtual 51, 3) := by decide +kernel
theorem dL_isGrownRight_161 : decode cL_isGrownRight 161 = .ok (.iload 6, 2) := by decide +kernel
theorem dL_isGrownRight_163 : decode cL_isGrownRight 163 = .ok (.if_icmp .ne 16, 3) := by decide +kernel
theorem dL_isGrownRight_166 : decode cL_isGrownRight 166 = .ok (.iload 6, 2) := by decide +kernel
theorem dL_isGrownRight_168 : decode cL_isGrownRight 168 = .ok (.aload_n 1, 1) := by decide +kernel
theorem dL_isGrownRight_169 : decode cL_isGrownRight 169 = .ok (.iload 5, 2) := by decide +kernel
theorem dL_isGrownRight_171 : decode cL_isGrownRight 171 = .ok (.iaload, 1) := by decide +kernel
theorem dL_isGrownRight_172 : decode cL_isGrownRight 172 = .ok (.if_icmp .gt 7, 3) := by decide +kernel
theorem dL_isGrownRight_175 : decode cL_isGrownRight 175 = .ok (.iconst 1, 1) := by decide +kernel
theorem dL_isGrownRight_176 : decode cL_isGrownRight 176 = .ok (.goto 4, 3) := by decide +kernel
theorem dL_isGrownRight_179 : decode cL_isGrownRight 179 = .ok (.iconst 0, 1) := by decide +kernel
theorem dL_isGrownRight_180 : decode cL_isGrownRight 180 = .ok (.istore 4, 2) := by decide +kernel
theorem dL_isGrownRight_182 : decode cL_isGrownRight 182 = .ok (.iinc 5 1, 3) := by decide +kernel
theorem dL_isGrownRight_185 : decode cL_isGrownRight 185 = .ok (.goto (-175), 3) := by decide +kernel
theorem dL_isGrownRight_188 : decode cL_isGrownRight 188 = .ok (.iload 4, 2) := by decide +kernel
theorem dL_isGrownRight_190 : decode cL_isGrownRight 190 = .ok (.ifCond .eq 40, 3) := by decide +kernel
theorem dL_isGrownRight_193 : decode cL_isGrownRight 193 = .ok (.aload_n 0, 1) := by decide +kernel
theorem dL_isGrownRight_194 : decode cL_isGrownRight 194 = .ok (.invokevirtual 20, 3) := by decide +kernel
theorem dL_isGrownRight_197 : decode cL_isGrownRight 197 = .ok (.iload_n 2, 1) := by decide +kernel
theorem dL_isGrownRight_198 : decode cL_isGrownRight 198 = .ok (.if_icmp .ne 32, 3) := by decide +kernel
theorem dL_isGrownRight_201 : decode cL_isGrownRight 201 = .ok (.aload_n 0, 1) := by decide +kernel
theorem dL_isGrownRight_202 : decode cL_isGrownRight 202 = .ok (.invokevirtual 23, 3) := by decide +kernel
theorem dL_isGrownRight_205 : decode cL_isGrownRight 205 = .ok (.iload_n 3, 1) := by decide +kernel
theorem dL_isGrownRight_206 : decode cL_isGrownRight 206 = .ok (.if_icmp .ne 24, 3) := by decide +kernel
theorem dL_isGrownRight_209 : decode cL_isGrownRight 209 = .ok (.aload_n 0, 1) := by decide +kernel
theorem dL_isGrownRight_210 : decode cL_isGrownRight 210 = .ok (.invokevirtual 23, 3) := by decide +kernel
theorem dL_isGrownRight_213 : decode cL_isGrownRight 213 = .ok (.bipush 12, 2) := by decide +kernel
theorem dL_isGrownRight_215 : decode cL_isGrownRight 215 = .ok (.if_icmp .gt 15, 3) := by decide +kernel
theorem dL_isGrownRight_218 : decode cL_isGrownRight 218 = .ok (.aload_n 0, 1) := by decide +kernel
theorem dL_isGrownRight_219 : decode cL_isGrownRight 219 = .ok (.invokevirtual 29, 3) := by decide +kernel
theorem dL_isGrownRight_222 : decode cL_isGrownRight 222 = .ok (.iconst 3, 1) := by decide +kernel
theorem dL_isGrownRight_223 : decode cL_isGrownRight 223 = .ok (.if_icmp .ne 7, 3) := by decide +kernel
theorem dL_isGrownRight_226 : decode cL_isGrownRight 226 = .ok (.iconst 1, 1) := by decide +kernel
theorem dL_isGrownRight_227 : decode cL_isGrownRight 227 = .ok (.goto 4, 3) := by decide +kernel
theorem dL_isGrownRight_230 : decode cL_isGrownRight 230 = .ok (.iconst 0, 1) := by decide +kernel
theorem dL_isGrownRight_231 : decode cL_isGrownRight 231 = .ok (.ireturn, 1) := by decide +kernel
set_option maxRecDepth 20000 in
theorem ggL_law_X1_init : GoodIn wsL_law wsX1_init := goodIn_r _ [6, 7, 8, 9, 10, 11, 12, 13, 14, 15, 16, 17, 18, 3, 19, 20, 21, 22, 23, 24, 25, 26, 27, 28, 29, 260, 261, 249, 250, 251, 252, 253, 254, 255, 256, 257, 258, 259] (by decide +kernel) (by decide +kernel)
set_option maxRecDepth 20000 in
theorem gL_law_X1_init : GoodIn wsL_law (wsX1_init) := ggL_law_X1_init
set_option maxRecDepth 20000 in
theorem ggL_law_L_drawn : GoodIn wsL_law wsL_drawn := goodIn_r _ [33, 34] (by decide +kernel) (by decide +kernel)
set_option maxRecDepth 20000 in
theorem gL_law_L_drawn : GoodIn wsL_law (va_wsS RL 59 yL_drawn wsL_drawn) := goodIn_app (goodIn_of _ (by decide +kernel)) ggL_law_L_drawn
set_option maxRecDepth 20000 in
theorem ggL_law_X1_sides : GoodIn wsL_law wsX1_sides := goodIn_ca (goodIn_ca (goodIn_r _ [38, 39, 40, 41, 42, 23, 20, 249, 250, 251, 252, 253, 254, 255, 256, 257, 258, 259] (by decide +kernel) (by decide +kernel)) (goodIn_sub (fun _ h => List.mem_append_left _ (List.mem_append_left _ (List.mem_append_right _ h))) (by decide +kernel))) (goodIn_sub (fun _ h => List.mem_append_left _ (List.mem_append_right _ h)) (by decide +kernel))
set_option maxRecDepth 20000 in
theorem gL_law_X1_sides : GoodIn wsL_law (wsV RL 65 RX1 yX1_sides wsX1_sides) := goodIn_app (goodIn_of _ (by decide +kernel)) ggL_law_X1_sides
set_option maxRecDepth 20000 in
theorem ggL_law_X1_look : GoodIn wsL_law wsX1_look := goodIn_ca (goodIn_r _ [46, 13, 47, 48, 2, 49, 50, 51, 52, 53, 54, 55, 56, 57, 12, 58, 59, 60, 61, 62, 28, 63, 64, 65, 66, 67, 68, 69, 70, 71, 29, 249, 250, 251, 252, 253, 254, 255, 256, 257, 258, 259, 260, 261] (by decide +kernel) (by decide +kernel)) (goodIn_sub (fun _ h => List.mem_append_right _ h) (by decide +kernel))
set_option maxRecDepth 20000 in
theorem gL_law_X1_look : GoodIn wsL_law (wsV RL 38 RX1 yX1_look wsX1_look) := goodIn_app (goodIn_of _ (by decide +kernel)) ggL_law_X1_look
set_option maxRecDepth 20000 in
theorem ggL_law_X1_plant : GoodIn wsL_law wsX1_plant := goodIn_ca (goodIn_ca (goodIn_r _ [75, 41, 42, 13, 21, 76, 77, 2, 78, 50, 51, 63, 64, 65, 12, 66, 67, 56, 57, 58, 59, 60, 61, 62, 28, 68, 69, 70, 71, 29, 79, 80, 81, 82, 53, 54, 249, 250, 251, 252, 253, 254, 255, 256, 257, 258, 259, 260, 261] (by decide +kernel) (by decide +kernel)) (goodIn_sub (fun _ h => List.mem_append_left _ (List.mem_append_right _ h)) (by decide +kernel))) (goodIn_sub (fun _ h => List.mem_append_right _ h) (by decide +kernel))
set_option maxRecDepth 20000 in
theorem gL_law_X1_plant : GoodIn wsL_law (wsV RL 69 RX1 yX1_plant wsX1_plant) := goodIn_app (goodIn_of _ (by decide +kernel)) ggL_law_X1_plant
set_option maxRecDepth 20000 in
theorem ggL_law_L_cutsAfter : GoodIn wsL_law wsL_cutsAfter := goodIn_ca (goodIn_ca (goodIn_r _ [85, 86, 87, 88, 89, 2, 90, 41, 42, 13, 22, 47, 48, 49, 50, 51, 52, 53, 54, 55, 56, 57, 12, 58, 59, 60, 61, 62, 28, 91, 92, 93, 94, 95, 96, 97, 98, 29, 99, 100, 101, 102, 249, 250, 251, 252, 253, 254, 255, 256, 257, 258, 259, 260, 261] (by decide +kernel) (by decide +kernel)) (goodIn_sub (fun _ h => List.mem_append_left _ (List.mem_append_right _ h)) (by decide +kernel))) (goodIn_sub (fun _ h => List.mem_append_right _ h) (by decide +kernel))
set_option maxRecDepth 20000 in
theorem gL_law_L_cutsAfter : GoodIn wsL_law (va_wsS RL 72 yL_cutsAfter wsL_cutsAfter) := goodIn_app (goodIn_of _ (by decide +kernel)) ggL_law_L_cutsAfter
set_option maxRecDepth 20000 in
theorem ggL_law_X1_trellis : GoodIn wsL_law wsX1_trellis := goodIn_ca (goodIn_ca (goodIn_r _ [106, 39, 40, 19, 76, 77, 2, 78, 50, 51, 249, 250, 251, 252, 253, 254, 255, 256, 257, 258, 259] (by decide +kernel) (by decide +kernel)) (goodIn_sub (fun _ h => List.mem_append_left _ (List.mem_append_left _ (List.mem_append_right _ h))) (by decide +kernel))) (goodIn_sub (fun _ h => List.mem_append_right _ h) (by decide +kernel))
set_option maxRecDepth 20000 in
theorem gL_law_X1_trellis : GoodIn wsL_law (wsV RL 76 RX1 yX1_trellis wsX1_trellis) := goodIn_app (goodIn_of _ (by decide +kernel)) ggL_law_X1_trellis
set_option maxRecDepth 20000 in
theorem ggL_law_X1_leaves : GoodIn wsL_law wsX1_leaves := goodIn_r _ [110, 13, 111, 112, 113, 12, 114, 28, 115, 116, 117, 118, 119, 120, 121, 249, 250, 251, 252, 253, 254, 255, 256, 257, 258, 259, 260, 261] (by decide +kernel) (by decide +kernel)
set_option maxRecDepth 20000 in
theorem gL_law_X1_leaves : GoodIn wsL_law (wsV RL 20 RX1 yX1_leaves wsX1_leaves) := goodIn_app (goodIn_of _ (by decide +kernel)) ggL_law_X1_leaves
set_option maxRecDepth 20000 in
theorem ggL_law_X1_leavesNext : GoodIn wsL_law wsX1_leavesNext := goodIn_r _ [125, 15, 13, 20, 19, 126, 127, 128, 12, 129, 28, 29, 130, 131, 132, 133, 59, 60, 61, 62, 134, 135, 136, 137, 138, 139, 140, 115, 116, 117, 118, 119, 120, 121, 141, 142, 143, 144, 145, 146, 147, 68, 69, 70, 71, 148, 149, 150, 151, 67, 56, 57, 58, 152, 153, 154, 155, 156, 157, 158, 159, 99, 100, 101, 102, 53, 2, 54, 111, 112, 113, 114, 249, 250, 251, 252, 253, 254, 255, 256, 257, 258, 259, 260, 261] (by decide +kernel) (by decide +kernel)
set_option maxRecDepth 20000 in
theorem gL_law_X1_leavesNext : GoodIn wsL_law (wsV RL 35 RX1 yX1_leavesNext wsX1_leavesNext) := goodIn_app (goodIn_of _ (by decide +kernel)) ggL_law_X1_leavesNext
set_option maxRecDepth 20000 in
theorem ggL_law_X1_broken : GoodIn wsL_law wsX1_broken := goodIn_r _ [163, 24, 249, 250, 251, 252, 253, 254, 255, 256, 257, 258, 259] (by decide +kernel) (by decide +kernel)
set_option maxRecDepth 20000 in
theorem gL_law_X1_broken : GoodIn wsL_law (wsV RL 32 RX1 yX1_broken wsX1_broken) := goodIn_app (goodIn_of _ (by decide +kernel)) ggL_law_X1_broken
set_option maxRecDepth 20000 in
theorem ggL_law_L_grownBy : GoodIn wsL_law wsL_grownBy := goodIn_ca (goodIn_r _ [166, 86, 167, 168, 169, 2, 170, 41, 42, 23, 24, 15, 13, 20, 19, 22, 171, 108, 109, 110, 111, 112, 113, 12, 114, 28, 115, 116, 117, 118, 119, 120, 121, 126, 127, 128, 129, 29, 130, 131, 132, 133, 59, 60, 61, 62, 134, 135, 136, 137, 138, 139, 140, 141, 142, 143, 144, 145, 146, 147, 68, 69, 70, 71, 148, 149, 150, 151, 67, 56, 57, 58, 152, 153, 154, 155, 156, 157, 158, 159, 99, 100, 101, 102, 53, 54, 172, 173, 174, 175, 249, 250, 251, 252, 253, 254, 255, 256, 257, 258, 259, 260, 261] (by decide +kernel) (by decide +kernel)) (goodIn_sub (fun _ h => List.mem_append_left _ (List.mem_append_right _ h)) (by decide +kernel))
set_option maxRecDepth 20000 in
theorem gL_law_L_grownBy : GoodIn wsL_law (va_wsS RL 79 yL_grownBy wsL_grownBy) := goodIn_app (goodIn_of _ (by decide +kernel)) ggL_law_L_grownBy
set_option maxRecDepth 20000 in
theorem ggL_law_X1_generation : GoodIn wsL_law wsX1_generation := goodIn_r _ [179, 23, 249, 250, 251, 252, 253, 254, 255, 256, 257, 258, 259] (by decide +kernel) (by decide +kernel)
set_option maxRecDepth 20000 in
theorem gL_law_X1_generation : GoodIn wsL_law (wsV RL 26 RX1 yX1_generation wsX1_generation) := goodIn_app (goodIn_of _ (by decide +kernel)) ggL_law_X1_generation
set_option maxRecDepth 20000 in
theorem ggL_law_L_isGrownRight : GoodIn wsL_law wsL_isGrownRight := goodIn_ca (goodIn_r _ [182, 43, 44, 45, 2, 46, 13, 47, 48, 49, 50, 51, 52, 53, 54, 55, 56, 57, 12, 58, 59, 60, 61, 62, 28, 63, 64, 65, 66, 67, 68, 69, 70, 71, 29, 183, 184, 185, 186, 187, 149, 150, 151, 188, 189, 190, 191, 20, 192, 193, 194, 195, 134, 135, 136, 137, 138, 139, 140, 115, 116, 117, 118, 119, 120, 121, 196, 197, 198, 199, 200, 201, 202, 203, 141, 142, 143, 204, 205, 206, 207, 76, 77, 78, 208, 153, 154, 155, 148, 107, 108, 109, 110, 111, 112, 113, 114, 209, 210, 211, 212, 213, 214, 215, 216, 217, 92, 93, 94, 22, 249, 250, 251, 252, 253, 254, 255, 256, 257, 258, 259, 260, 261] (by decide +kernel) (by decide +kernel)) (goodIn_sub (fun _ h => List.mem_append_right _ h) (by decide +kernel))
set_option maxRecDepth 20000 in
theorem gL_law_L_isGrownRight : GoodIn wsL_law (va_wsS RL 83 yL_isGrownRight wsL_isGrownRight) := goodIn_app (goodIn_of _ (by decide +kernel)) ggL_law_L_isGrownRight
set_option maxRecDepth 20000 in
theorem ggL_law_L_areMirrored : GoodIn wsL_law wsL_areMirrored := goodIn_ca (goodIn_r _ [220, 107, 108, 109, 2, 110, 13, 111, 112, 113, 12, 114, 28, 115, 116, 117, 118, 119, 120, 121, 209, 210, 211, 212, 213, 214, 215, 216, 176, 177, 178, 179, 23, 217, 92, 93, 94, 22, 160, 161, 162, 163, 24, 122, 123, 124, 125, 15, 20, 19, 126, 127, 128, 129, 29, 130, 131, 132, 133, 59, 60, 61, 62, 134, 135, 136, 137, 138, 139, 140, 141, 142, 143, 144, 145, 146, 147, 68, 69, 70, 71, 148, 149, 150, 151, 67, 56, 57, 58, 152, 153, 154, 155, 156, 157, 158, 159, 99, 100, 101, 102, 53, 54, 43, 44, 45, 46, 47, 48, 49, 50, 51, 52, 55, 63, 64, 65, 66, 183, 184, 185, 186, 187, 188, 189, 190, 191, 192, 193, 194, 195, 196, 197, 198, 199, 200, 201, 202, 203, 204, 205, 206, 207, 76, 77, 78, 208, 221, 222, 223, 224, 225, 226, 227, 228, 14, 172, 173, 174, 175, 95, 96, 97, 98, 249, 250, 251, 252, 253, 254, 255, 256, 257, 258, 259, 260, 261] (by decide +kernel) (by decide +kernel)) (goodIn_sub (fun _ h => List.mem_append_right _ h) (by decide +kernel))
set_option maxRecDepth 20000 in
theorem gL_law_L_areMirrored : GoodIn wsL_law (va_wsS RL 87 yL_areMirrored wsL_areMirrored) := goodIn_app (goodIn_of _ (by decide +kernel)) ggL_law_L_areMirrored
set_option maxRecDepth 20000 in
theorem ggL_law_X1_repeatsIn : GoodIn wsL_law wsX1_repeatsIn := goodIn_r _ [232, 13, 14, 15, 20, 19, 233, 234, 235, 12, 236, 29, 172, 173, 174, 175, 28, 237, 238, 239, 2, 240, 17, 18, 241, 242, 243, 244, 59, 60, 61, 62, 126, 127, 128, 129, 130, 131, 132, 133, 134, 135, 136, 137, 138, 139, 140, 115, 116, 117, 118, 119, 120, 121, 141, 142, 143, 144, 145, 146, 147, 68, 69, 70, 71, 148, 149, 150, 151, 67, 56, 57, 58, 152, 153, 154, 155, 156, 157, 158, 159, 99, 100, 101, 102, 53, 54, 245, 246, 247, 248, 249, 250, 251, 252, 253, 254, 255, 256, 257, 258, 259, 260, 261] (by decide +kernel) (by decide +kernel)
set_option maxRecDepth 20000 in
theorem gL_law_X1_repeatsIn : GoodIn wsL_law (wsV RL 91 RX1 yX1_repeatsIn wsX1_repeatsIn) := goodIn_app (goodIn_of _ (by decide +kernel)) ggL_law_X1_repeatsIn
theorem dL_law_0 : decode cL_law 0 = .ok (.new 9, 3) := by decide +kernel
theorem dL_law_3 : decode cL_law 3 = .ok (.dup, 1) := by decide +kernel
theorem dL_law_4 : decode cL_law 4 = .ok (.invokespecial 58, 3) := by decide +kernel
theorem dL_law_7 : decode cL_law 7 = .ok (.astore_n 1, 1) := by decide +kernel
theorem dL_law_8 : decode cL_law 8 = .ok (.new 9, 3) := by decide +kernel
theorem dL_law_11 : decode cL_law 11 = .ok (.dup, 1) := by decide +kernel
theorem dL_law_12 : decode cL_law 12 = .ok (.invokespecial 58, 3) := by decide +kernel
theorem dL_law_15 : decode cL_law 15 = .ok (.astore_n 2, 1) := by decide +kernel
theorem dL_law_16 : decode cL_law 16 = .ok (.bipush 12, 2) := by decide +kernel
theorem dL_law_18 : decode cL_law 18 = .ok (.newarray .int, 2) := by decide +kernel
theorem dL_law_20 : decode cL_law 20 = .ok (.astore_n 3, 1) := by decide +kernel
theorem dL_law_21 : decode cL_law 21 = .ok (.iconst 0, 1) := by decide +kernel
theorem dL_law_22 : decode cL_law 22 = .ok (.istore 4, 2) := by decide +kernel
theorem dL_law_24 : decode cL_law 24 = .ok (.iload 4, 2) := by decide +kernel
theorem dL_law_26 : decode cL_law 26 = .ok (.bipush 12, 2) := by decide +kernel
theorem dL_law_28 : decode cL_law 28 = .ok (.if_icmp .ge 14, 3) := by decide +kernel
theorem dL_law_31 : decode cL_law 31 = .ok (.aload_n 3, 1) := by decide +kernel
theorem dL_law_32 : decode cL_law 32 = .ok (.iload 4, 2) := by decide +kernel
theorem dL_law_34 : decode cL_law 34 = .ok (.iconst 5, 1) := by decide +kernel
theorem dL_law_35 : decode cL_law 35 = .ok (.iastore, 1) := by decide +kernel
theorem dL_law_36 : decode cL_law 36 = .ok (.iinc 4 1, 3) := by decide +kernel
theorem dL_law_39 : decode cL_law 39 = .ok (.goto (-15), 3) := by decide +kernel
theorem dL_law_42 : decode cL_law 42 = .ok (.aload_n 0, 1) := by decide +kernel
theorem dL_law_43 : decode cL_law 43 = .ok (.iconst 0, 1) := by decide +kernel
theorem dL_law_44 : decode cL_law 44 = .ok (.iconst 3, 1) := by decide +kernel
theorem dL_law_45 : decode cL_law 45 = .ok (.invokestatic 59, 3) := by decide +kernel
theorem dL_law_48 : decode cL_law 48 = .ok (.istore 4, 2) := by decide +kernel
theorem dL_law_50 : decode cL_law 50 = .ok (.aload_n 1, 1) := by decide +kernel
theorem dL_law_51 : decode cL_law 51 = .ok (.iload 4, 2) := by decide +kernel
theorem dL_law_53 : decode cL_law 53 = .ok (.invokevirtual 65, 3) := by decide +kernel
theorem dL_law_56 : decode cL_law 56 = .ok (.aload_n 2, 1) := by decide +kernel
theorem dL_law_57 : decode cL_law 57 = .ok (.iload 4, 2) := by decide +kernel
theorem dL_law_59 : decode cL_law 59 = .ok (.invokevirtual 65, 3) := by decide +kernel
theorem dL_law_62 : decode cL_law 62 = .ok (.iconst 1, 1) := by decide +kernel
theorem dL_law_63 : decode cL_law 63 = .ok (.istore 5, 2) := by decide +kernel
theorem dL_law_65 : decode cL_law 65 = .ok (.iconst 0, 1) := by decide +kernel
theorem dL_law_66 : decode cL_law 66 = .ok (.istore 6, 2) := by decide +kernel
theorem dL_law_68 : decode cL_law 68 = .ok (.iload 6, 2) := by decide +kernel
theorem dL_law_70 : decode cL_law 70 = .ok (.iconst 4, 1) := by decide +kernel
theorem dL_law_71 : decode cL_law 71 = .ok (.if_icmp .ge 48, 3) := by decide +kernel
theorem dL_law_74 : decode cL_law 74 = .ok (.aload_n 0, 1) := by decide +kernel
theorem dL_law_75 : decode cL_law 75 = .ok (.iconst 1, 1) := by decide +kernel
theorem dL_law_76 : decode cL_law 76 = .ok (.iload 6, 2) := by decide +kernel
theorem dL_law_78 : decode cL_law 78 = .ok (.iadd, 1) := by decide +kernel
theorem dL_law_79 : decode cL_law 79 = .ok (.bipush 12, 2) := by decide +kernel
theorem dL_law_81 : decode cL_law 81 = .ok (.invokestatic 59, 3) := by decide +kernel
theorem dL_law_84 : decode cL_law 84 = .ok (.istore 7, 2) := by decide +kernel
theorem dL_law_86 : decode cL_law 86 = .ok (.aload_n 1, 1) := by decide +kernel
theorem dL_law_87 : decode cL_law 87 = .ok (.iconst 0, 1) := by decide +kernel
theorem dL_law_88 : decode cL_law 88 = .ok (.iload 7, 2) := by decide +kernel
theorem dL_law_90 : decode cL_law 90 = .ok (.invokevirtual 38, 3) := by decide +kernel
theorem dL_law_93 : decode cL_law 93 = .ok (.bipush 46, 2) := by decide +kernel
theorem dL_law_95 : decode cL_law 95 = .ok (.if_icmp .ne 18, 3) := by decide +kernel
theorem dL_law_98 : decode cL_law 98 = .ok (.aload_n 1, 1) := by decide +kernel
theorem dL_law_99 : decode cL_law 99 = .ok (.iload 7, 2) := by decide +kernel
theorem dL_law_101 : decode cL_law 101 = .ok (.invokevirtual 69, 3) := by decide +kernel
theorem dL_law_104 : decode cL_law 104 = .ok (.aload_n 2, 1) := by decide +kernel
theorem dL_law_105 : decode cL_law 105 = .ok (.bipush 11, 2) := by decide +kernel
theorem dL_law_107 : decode cL_law 107 = .ok (.iload 7, 2) := by decide +kernel
theorem dL_law_109 : decode cL_law 109 = .ok (.isub, 1) := by decide +kernel
theorem dL_law_110 : decode cL_law 110 = .ok (.invokevirtual 69, 3) := by decide +kernel
theorem dL_law_113 : decode cL_law 113 = .ok (.iinc 6 1, 3) := by decide +kernel
theorem dL_law_116 : decode cL_law 116 = .ok (.goto (-48), 3) := by decide +kernel
theorem dL_law_119 : decode cL_law 119 = .ok (.iconst 0, 1) := by decide +kernel
theorem dL_law_120 : decode cL_law 120 = .ok (.istore 6, 2) := by decide +kernel
theorem dL_law_122 : decode cL_law 122 = .ok (.iload 6, 2) := by decide +kernel
theorem dL_law_124 : decode cL_law 124 = .ok (.bipush 70, 2) := by decide +kernel
theorem dL_law_126 : decode cL_law 126 = .ok (.if_icmp .ge 274, 3) := by decide +kernel
theorem dL_law_129 : decode cL_law 129 = .ok (.iload 5, 2) := by decide +kernel
theorem dL_law_131 : decode cL_law 131 = .ok (.ifCond .eq 269, 3) := by decide +kernel
theorem dL_law_134 : decode cL_law 134 = .ok (.aload_n 0, 1) := by decide +kernel
theorem dL_law_135 : decode cL_law 135 = .ok (.iload 6, 2) := by decide +kernel
theorem dL_law_137 : decode cL_law 137 = .ok (.iconst 5, 1) := by decide +kernel
theorem dL_law_138 : decode cL_law 138 = .ok (.iadd, 1) := by decide +kernel
theorem dL_law_139 : decode cL_law 139 = .ok (.sipush 30000, 3) := by decide +kernel
theorem dL_law_142 : decode cL_law 142 = .ok (.invokestatic 59, 3) := by decide +kernel
theorem dL_law_145 : decode cL_law 145 = .ok (.istore 7, 2) := by decide +kernel
theorem dL_law_147 : decode cL_law 147 = .ok (.iload 7, 2) := by decide +kernel
theorem dL_law_149 : decode cL_law 149 = .ok (.bipush 12, 2) := by decide +kernel
theorem dL_law_151 : decode cL_law 151 = .ok (.irem, 1) := by decide +kernel
theorem dL_law_152 : decode cL_law 152 = .ok (.istore 8, 2) := by decide +kernel
theorem dL_law_154 : decode cL_law 154 = .ok (.iload 7, 2) := by decide +kernel
theorem dL_law_156 : decode cL_law 156 = .ok (.bipush 12, 2) := by decide +kernel
theorem dL_law_158 : decode cL_law 158 = .ok (.idiv, 1) := by decide +kernel
theorem dL_law_159 : decode cL_law 159 = .ok (.bipush 8, 2) := by decide +kernel
theorem dL_law_161 : decode cL_law 161 = .ok (.irem, 1) := by decide +kernel
theorem dL_law_162 : decode cL_law 162 = .ok (.istore 9, 2) := by decide +kernel
theorem dL_law_164 : decode cL_law 164 = .ok (.iload 9, 2) := by decide +kernel
theorem dL_law_166 : decode cL_law 166 = .ok (.iconst 3, 1) := by decide +kernel
theorem dL_law_167 : decode cL_law 167 = .ok (.if_icmp .ge 47, 3) := by decide +kernel
theorem dL_law_170 : decode cL_law 170 = .ok (.aload_n 1, 1) := by decide +kernel
theorem dL_law_171 : decode cL_law 171 = .ok (.iload 7, 2) := by decide +kernel
theorem dL_law_173 : decode cL_law 173 = .ok (.bipush 96, 2) := by decide +kernel
theorem dL_law_175 : decode cL_law 175 = .ok (.idiv, 1) := by decide +kernel
theorem dL_law_176 : decode cL_law 176 = .ok (.bipush 8, 2) := by decide +kernel
theorem dL_law_178 : decode cL_law 178 = .ok (.irem, 1) := by decide +kernel
theorem dL_law_179 : decode cL_law 179 = .ok (.iload 8, 2) := by decide +kernel
theorem dL_law_181 : decode cL_law 181 = .ok (.invokestatic 72, 3) := by decide +kernel
theorem dL_law_184 : decode cL_law 184 = .ok (.aload_n 2, 1) := by decide +kernel
theorem dL_law_185 : decode cL_law 185 = .ok (.iload 7, 2) := by decide +kernel
theorem dL_law_187 : decode cL_law 187 = .ok (.bipush 96, 2) := by decide +kernel
theorem dL_law_189 : decode cL_law 189 = .ok (.idiv, 1) := by decide +kernel
theorem dL_law_190 : decode cL_law 190 = .ok (.bipush 8, 2) := by decide +kernel
theorem dL_law_192 : decode cL_law 192 = .ok (.irem, 1) := by decide +kernel
theorem dL_law_193 : decode cL_law 193 = .ok (.bipush 11, 2) := by decide +kernel
theorem dL_law_195 : decode cL_law 195 = .ok (.iload 8, 2) := by decide +kernel
theorem dL_law_197 : decode cL_law 197 = .ok (.isub, 1) := by decide +kernel
theorem dL_law_198 : decode cL_law 198 = .ok (.invokestatic 72, 3) := by decide +kernel
theorem dL_law_201 : decode cL_law 201 = .ok (.if_icmp .ne 7, 3) := by decide +kernel
theorem dL_law_204 : decode cL_law 204 = .ok (.iconst 1, 1) := by decide +kernel
theorem dL_law_205 : decode cL_law 205 = .ok (.goto 4, 3) := by decide +kernel
theorem dL_law_208 : decode cL_law 208 = .ok (.iconst 0, 1) := by decide +kernel
theorem dL_law_209 : decode cL_law 209 = .ok (.istore 5, 2) := by decide +kernel
theorem dL_law_211 : decode cL_law 211 = .ok (.goto 156, 3) := by decide +kernel
theorem dL_law_214 : decode cL_law 214 = .ok (.iload 9, 2) := by decide +kernel
theorem dL_law_216 : decode cL_law 216 = .ok (.iconst 3, 1) := by decide +kernel
theorem dL_law_217 : decode cL_law 217 = .ok (.if_icmp .ne 64, 3) := by decide +kernel
theorem dL_law_220 : decode cL_law 220 = .ok (.iconst 1, 1) := by decide +kernel
theorem dL_law_221 : decode cL_law 221 = .ok (.iload 7, 2) := by decide +kernel
theorem dL_law_223 : decode cL_law 223 = .ok (.bipush 96, 2) := by decide +kernel
theorem dL_law_225 : decode cL_law 225 = .ok (.idiv, 1) := by decide +kernel
theorem dL_law_226 : decode cL_law 226 = .ok (.bipush 8, 2) := by decide +kernel
theorem dL_law_228 : decode cL_law 228 = .ok (.irem, 1) := by decide +kernel
theorem dL_law_229 : decode cL_law 229 = .ok (.iadd, 1) := by decide +kernel
theorem dL_law_230 : decode cL_law 230 = .ok (.istore 10, 2) := by decide +kernel
theorem dL_law_232 : decode cL_law 232 = .ok (.aload_n 1, 1) := by decide +kernel
theorem dL_law_233 : decode cL_law 233 = .ok (.iload 8, 2) := by decide +kernel
theorem dL_law_235 : decode cL_law 235 = .ok (.iload 10, 2) := by decide +kernel
theorem dL_law_237 : decode cL_law 237 = .ok (.invokevirtual 76, 3) := by decide +kernel
theorem dL_law_240 : decode cL_law 240 = .ok (.aload_n 3, 1) := by decide +kernel
theorem dL_law_241 : decode cL_law 241 = .ok (.iload 8, 2) := by decide +kernel
theorem dL_law_243 : decode cL_law 243 = .ok (.iaload, 1) := by decide +kernel
theorem dL_law_244 : decode cL_law 244 = .ok (.if_icmp .ne 25, 3) := by decide +kernel
theorem dL_law_247 : decode cL_law 247 = .ok (.aload_n 2, 1) := by decide +kernel
theorem dL_law_248 : decode cL_law 248 = .ok (.bipush 11, 2) := by decide +kernel
theorem dL_law_250 : decode cL_law 250 = .ok (.iload 8, 2) := by decide +kernel
theorem dL_law_252 : decode cL_law 252 = .ok (.isub, 1) := by decide +kernel
theorem dL_law_253 : decode cL_law 253 = .ok (.iload 10, 2) := by decide +kernel
theorem dL_law_255 : decode cL_law 255 = .ok (.invokevirtual 76, 3) := by decide +kernel
theorem dL_law_258 : decode cL_law 258 = .ok (.aload_n 3, 1) := by decide +kernel
theorem dL_law_259 : decode cL_law 259 = .ok (.iload 8, 2) := by decide +kernel
theorem dL_law_261 : decode cL_law 261 = .ok (.iaload, 1) := by decide +kernel
theorem dL_law_262 : decode cL_law 262 = .ok (.if_icmp .ne 7, 3) := by decide +kernel
theorem dL_law_265 : decode cL_law 265 = .ok (.iconst 1, 1) := by decide +kernel
theorem dL_law_266 : decode cL_law 266 = .ok (.goto 4, 3) := by decide +kernel
theorem dL_law_269 : decode cL_law 269 = .ok (.iconst 0, 1) := by decide +kernel
theorem dL_law_270 : decode cL_law 270 = .ok (.istore 5, 2) := by decide +kernel
theorem dL_law_272 : decode cL_law 272 = .ok (.aload_n 3, 1) := by decide +kernel
theorem dL_law_273 : decode cL_law 273 = .ok (.iload 8, 2) := by decide +kernel
theorem dL_law_275 : decode cL_law 275 = .ok (.iload 10, 2) := by decide +kernel
theorem dL_law_277 : decode cL_law 277 = .ok (.iastore, 1) := by decide +kernel
theorem dL_law_278 : decode cL_law 278 = .ok (.goto 89, 3) := by decide +kernel
theorem dL_law_281 : decode cL_law 281 = .ok (.aload_n 1, 1) := by decide +kernel
theorem dL_law_282 : decode cL_law 282 = .ok (.invokevirtual 20, 3) := by decide +kernel
theorem dL_law_285 : decode cL_law 285 = .ok (.istore 10, 2) := by decide +kernel
theorem dL_law_287 : decode cL_law 287 = .ok (.aload_n 1, 1) := by decide +kernel
theorem dL_law_288 : decode cL_law 288 = .ok (.invokevirtual 35, 3) := by decide +kernel
theorem dL_law_291 : decode cL_law 291 = .ok (.istore 11, 2) := by decide +kernel
theorem dL_law_293 : decode cL_law 293 = .ok (.aload_n 1, 1) := by decide +kernel
theorem dL_law_294 : decode cL_law 294 = .ok (.invokevirtual 32, 3) := by decide +kernel
theorem dL_law_297 : decode cL_law 297 = .ok (.istore 12, 2) := by decide +kernel
theorem dL_law_299 : decode cL_law 299 = .ok (.aload_n 1, 1) := by decide +kernel
theorem dL_law_300 : decode cL_law 300 = .ok (.invokestatic 79, 3) := by decide +kernel
theorem dL_law_303 : decode cL_law 303 = .ok (.istore 13, 2) := by decide +kernel
theorem dL_law_305 : decode cL_law 305 = .ok (.aload_n 2, 1) := by decide +kernel
theorem dL_law_306 : decode cL_law 306 = .ok (.invokestatic 79, 3) := by decide +kernel
theorem dL_law_309 : decode cL_law 309 = .ok (.iload 13, 2) := by decide +kernel
theorem dL_law_311 : decode cL_law 311 = .ok (.if_icmp .ne 53, 3) := by decide +kernel
theorem dL_law_314 : decode cL_law 314 = .ok (.iload 13, 2) := by decide +kernel
theorem dL_law_316 : decode cL_law 316 = .ok (.bipush (-99), 2) := by decide +kernel
theorem dL_law_318 : decode cL_law 318 = .ok (.if_icmp .ne 15, 3) := by decide +kernel
theorem dL_law_321 : decode cL_law 321 = .ok (.aload_n 1, 1) := by decide +kernel
theorem dL_law_322 : decode cL_law 322 = .ok (.invokevirtual 26, 3) := by decide +kernel
theorem dL_law_325 : decode cL_law 325 = .ok (.bipush 60, 2) := by decide +kernel
theorem dL_law_327 : decode cL_law 327 = .ok (.if_icmp .ne 37, 3) := by decide +kernel
theorem dL_law_330 : decode cL_law 330 = .ok (.goto 30, 3) := by decide +kernel
theorem dL_law_333 : decode cL_law 333 = .ok (.iload 13, 2) := by decide +kernel
theorem dL_law_335 : decode cL_law 335 = .ok (.iload 11, 2) := by decide +kernel
theorem dL_law_337 : decode cL_law 337 = .ok (.iload 10, 2) := by decide +kernel
theorem dL_law_339 : decode cL_law 339 = .ok (.isub, 1) := by decide +kernel
theorem dL_law_340 : decode cL_law 340 = .ok (.if_icmp .ne 24, 3) := by decide +kernel
theorem dL_law_343 : decode cL_law 343 = .ok (.aload_n 1, 1) := by decide +kernel
theorem dL_law_344 : decode cL_law 344 = .ok (.invokevirtual 32, 3) := by decide +kernel
theorem dL_law_347 : decode cL_law 347 = .ok (.iload 12, 2) := by decide +kernel
theorem dL_law_349 : decode cL_law 349 = .ok (.if_icmp .lt 15, 3) := by decide +kernel
theorem dL_law_352 : decode cL_law 352 = .ok (.aload_n 1, 1) := by decide +kernel
theorem dL_law_353 : decode cL_law 353 = .ok (.aload_n 3, 1) := by decide +kernel
theorem dL_law_354 : decode cL_law 354 = .ok (.invokestatic 83, 3) := by decide +kernel
theorem dL_law_357 : decode cL_law 357 = .ok (.ifCond .eq 7, 3) := by decide +kernel
theorem dL_law_360 : decode cL_law 360 = .ok (.iconst 1, 1) := by decide +kernel
theorem dL_law_361 : decode cL_law 361 = .ok (.goto 4, 3) := by decide +kernel
theorem dL_law_364 : decode cL_law 364 = .ok (.iconst 0, 1) := by decide +kernel
theorem dL_law_365 : decode cL_law 365 = .ok (.istore 5, 2) := by decide +kernel
theorem dL_law_367 : decode cL_law 367 = .ok (.iload 5, 2) := by decide +kernel
theorem dL_law_369 : decode cL_law 369 = .ok (.ifCond .eq 22, 3) := by decide +kernel
theorem dL_law_372 : decode cL_law 372 = .ok (.iload 6, 2) := by decide +kernel
theorem dL_law_374 : decode cL_law 374 = .ok (.iconst 3, 1) := by decide +kernel
theorem dL_law_375 : decode cL_law 375 = .ok (.irem, 1) := by decide +kernel
theorem dL_law_376 : decode cL_law 376 = .ok (.ifCond .gt 11, 3) := by decide +kernel
theorem dL_law_379 : decode cL_law 379 = .ok (.aload_n 1, 1) := by decide +kernel
theorem dL_law_380 : decode cL_law 380 = .ok (.aload_n 2, 1) := by decide +kernel
theorem dL_law_381 : decode cL_law 381 = .ok (.invokestatic 87, 3) := by decide +kernel
theorem dL_law_384 : decode cL_law 384 = .ok (.ifCond .eq 7, 3) := by decide +kernel
theorem dL_law_387 : decode cL_law 387 = .ok (.iconst 1, 1) := by decide +kernel
theorem dL_law_388 : decode cL_law 388 = .ok (.goto 4, 3) := by decide +kernel
theorem dL_law_391 : decode cL_law 391 = .ok (.iconst 0, 1) := by decide +kernel
theorem dL_law_392 : decode cL_law 392 = .ok (.istore 5, 2) := by decide +kernel
theorem dL_law_394 : decode cL_law 394 = .ok (.iinc 6 1, 3) := by decide +kernel
theorem dL_law_397 : decode cL_law 397 = .ok (.goto (-275), 3) := by decide +kernel
theorem dL_law_400 : decode cL_law 400 = .ok (.iload 5, 2) := by decide +kernel
theorem dL_law_402 : decode cL_law 402 = .ok (.ifCond .eq 26, 3) := by decide +kernel
theorem dL_law_405 : decode cL_law 405 = .ok (.aload_n 1, 1) := by decide +kernel
theorem dL_law_406 : decode cL_law 406 = .ok (.aload_n 2, 1) := by decide +kernel
theorem dL_law_407 : decode cL_law 407 = .ok (.invokestatic 87, 3) := by decide +kernel
theorem dL_law_410 : decode cL_law 410 = .ok (.ifCond .eq 18, 3) := by decide +kernel
theorem dL_law_413 : decode cL_law 413 = .ok (.aload_n 1, 1) := by decide +kernel
theorem dL_law_414 : decode cL_law 414 = .ok (.invokevirtual 91, 3) := by decide +kernel
theorem dL_law_417 : decode cL_law 417 = .ok (.aload_n 2, 1) := by decide +kernel
theorem dL_law_418 : decode cL_law 418 = .ok (.invokevirtual 91, 3) := by decide +kernel
theorem dL_law_421 : decode cL_law 421 = .ok (.if_icmp .ne 7, 3) := by decide +kernel
theorem dL_law_424 : decode cL_law 424 = .ok (.iconst 1, 1) := by decide +kernel
theorem dL_law_425 : decode cL_law 425 = .ok (.goto 4, 3) := by decide +kernel
theorem dL_law_428 : decode cL_law 428 = .ok (.iconst 0, 1) := by decide +kernel
theorem dL_law_429 : decode cL_law 429 = .ok (.ireturn, 1) := by decide +kernel
end
section
/-! Base: a standard contract, and the calls of it. -/
-- the residual of a specification: branches, results of calls
theorem gv_t {c : Prop} [hd : Decidable c] {α : Type} {a b r : α} (h : c) (e : (if c then a else b) = r) : a = r := (if_pos h).symm.trans e
theorem gv_f {c : Prop} [hd : Decidable c] {α : Type} {a b r : α} (h : ¬ c) (e : (if c then a else b) = r) : b = r := (if_neg h).symm.trans e
def gv_b {α β : Type} (a : α) (k : α → β) : β := k a
def gv_b2 {α γ β : Type} (a : α × γ) (k : α → γ → β) : β := k a.1 a.2
def gv_b3 {α γ δ β : Type} (a : α × γ × δ) (k : α → γ → δ → β) : β := k a.1 a.2.1 a.2.2
def gv_b4 {α γ δ ε β : Type} (a : α × γ × δ × ε) (k : α → γ → δ → ε → β) : β := k a.1 a.2.1 a.2.2.1 a.2.2.2
theorem gv_q {α β : Type} {u a : α} {k : α → β} {r : β} (h : u = a) (e : gv_b a k = r) : k u = r := by subst h; exact e
theorem gv_q2 {α γ β : Type} {u : α} {v : γ} {a : α × γ} {k : α → γ → β} {r : β} (h : (u, v) = a) (e : gv_b2 a k = r) : k u v = r := by subst h; exact e
theorem gv_q3 {α γ δ β : Type} {u : α} {v : γ} {w : δ} {a : α × γ × δ} {k : α → γ → δ → β} {r : β} (h : (u, v, w) = a) (e : gv_b3 a k = r) : k u v w = r := by subst h; exact e
theorem gv_q4 {α γ δ ε β : Type} {u : α} {v : γ} {w : δ} {x : ε} {a : α × γ × δ × ε} {k : α → γ → δ → ε → β} {r : β} (h : (u, v, w, x) = a) (e : gv_b4 a k = r) : k u v w x = r := by subst h; exact e
def gv_b5 {α0 α1 α2 α3 α4 β : Type} (a : α0 × α1 × α2 × α3 × α4) (k : α0 → α1 → α2 → α3 → α4 → β) : β := k a.1 a.2.1 a.2.2.1 a.2.2.2.1 a.2.2.2.2
theorem gv_q5 {α0 α1 α2 α3 α4 β : Type} {u0 : α0} {u1 : α1} {u2 : α2} {u3 : α3} {u4 : α4} {a : α0 × α1 × α2 × α3 × α4} {k : α0 → α1 → α2 → α3 → α4 → β} {r : β} (h : (u0, u1, u2, u3, u4) = a) (e : gv_b5 a k = r) : k u0 u1 u2 u3 u4 = r := by subst h; exact e
def gv_b6 {α0 α1 α2 α3 α4 α5 β : Type} (a : α0 × α1 × α2 × α3 × α4 × α5) (k : α0 → α1 → α2 → α3 → α4 → α5 → β) : β := k a.1 a.2.1 a.2.2.1 a.2.2.2.1 a.2.2.2.2.1 a.2.2.2.2.2
theorem gv_q6 {α0 α1 α2 α3 α4 α5 β : Type} {u0 : α0} {u1 : α1} {u2 : α2} {u3 : α3} {u4 : α4} {u5 : α5} {a : α0 × α1 × α2 × α3 × α4 × α5} {k : α0 → α1 → α2 → α3 → α4 → α5 → β} {r : β} (h : (u0, u1, u2, u3, u4, u5) = a) (e : gv_b6 a k = r) : k u0 u1 u2 u3 u4 u5 = r := by subst h; exact e
def gv_b7 {α0 α1 α2 α3 α4 α5 α6 β : Type} (a : α0 × α1 × α2 × α3 × α4 × α5 × α6) (k : α0 → α1 → α2 → α3 → α4 → α5 → α6 → β) : β := k a.1 a.2.1 a.2.2.1 a.2.2.2.1 a.2.2.2.2.1 a.2.2.2.2.2.1 a.2.2.2.2.2.2
theorem gv_q7 {α0 α1 α2 α3 α4 α5 α6 β : Type} {u0 : α0} {u1 : α1} {u2 : α2} {u3 : α3} {u4 : α4} {u5 : α5} {u6 : α6} {a : α0 × α1 × α2 × α3 × α4 × α5 × α6} {k : α0 → α1 → α2 → α3 → α4 → α5 → α6 → β} {r : β} (h : (u0, u1, u2, u3, u4, u5, u6) = a) (e : gv_b7 a k = r) : k u0 u1 u2 u3 u4 u5 u6 = r := by subst h; exact e
theorem gv_k1 {α β : Type} {K F : α → β} {a : α} {r : β} (h : K = F) (e : K a = r) : F a = r := by subst h; exact e
theorem gv_k2 {α γ β : Type} {K F : α → γ → β} {a : α} {b : γ} {r : β} (h : K = F) (e : K a b = r) : F a b = r := by subst h; exact e
-- loop tests
theorem gv_ge {x y : Int32} {i N : Nat} (hx : x = nI i) (hy : y = nI N) (hN : N < 2 ^ 31) (h : i = N) : ¬ ¬ y ≤ x := by
  subst hx; subst hy; subst h
  exact fun q => q (nI_le (Nat.le_refl _) hN)
theorem gv_lt {x y : Int32} {i N : Nat} (hx : x = nI i) (hy : y = nI N) (hN : N < 2 ^ 31) (h : i < N) : ¬ y ≤ x := by
  subst hx; subst hy
  exact nI_ge h hN
theorem gv_gt {x y : Int32} {i N : Nat} (hx : x = nI i) (hy : y = nI N) (hi : i < 2 ^ 31) (h : N < i) : ¬ ¬ y < x := by
  subst hx; subst hy
  exact fun q => q (nI_lt h hi)
theorem gv_ngt {x y : Int32} {i N : Nat} (hx : x = nI i) (hy : y = nI N) (hN : N < 2 ^ 31) (h : i ≤ N) : ¬ y < x := by
  subst hx; subst hy
  exact nI_nlt h hN
theorem gv_in8 {x : Int32} {n : Nat} (h1 : ¬ x < 0) {y : Int32} (hy : y = nI n) (hn : n < 2 ^ 31) (h2 : ¬ y ≤ x) : vp_in x n := by
  subst hy
  rw [vp_in_iff]
  rw [Int32.lt_iff_toInt_lt] at h1
  rw [Int32.le_iff_toInt_le, nI_toInt hn] at h2
  have : (0 : Int32).toInt = 0 := rfl
  omega
theorem gv_inN {x : Int32} {i n : Nat} (hx : x = nI i) (h : i < n) (hn : n < 2 ^ 31) : vp_in x n := by
  subst hx
  exact vp_in_nI h hn
-- the two links to members of the nest
def gv_N (U : State) : Prop := va_Nw (.methodLinkNest RX0 29 yX1_isCell RX1) U ∧ va_Nw (.methodLinkNest RX1 9 yX0_init RX1) U
theorem gv_N.warm {s U : State} (hW : s.WarmedH U.vm) (h : gv_N s) : gv_N U := ⟨va_Nw.warmM hW h.1, va_Nw.warmM hW h.2⟩
theorem gv_N.same {u U : State} (h : u.vm = U.vm) (hN : gv_N u) : gv_N U := ⟨va_Nw.same rfl h hN.1, va_Nw.same rfl h hN.2⟩
-- the cells of a world by their addresses
def gv_in (ws : va_W) : Nat → Prop := fun q => q ∈ ws.map Prod.fst
def gv_Pc (D : va_G) (tys : List (ClassId × FieldType)) (A : Nat → Prop) (av : List Value) (ws : va_W) : Array Value → State → Prop := va_Pc av (fun U => va_P D vwCl ws U.heap ∧ va_K D vwCl tys U ∧ va_D A ws ∧ gv_N U)
theorem gv_blind {D : va_G} {tys : List (ClassId × FieldType)} {A : Nat → Prop} {av : List Value} {ws : va_W} : FrameBlind (gv_Pc D tys A av ws) := by
  intro a U g mk q
  obtain ⟨q0, q1, q2, q3, q4⟩ := q
  exact ⟨q0, q1, va_K.moved (u := U) (U := U.calling g mk a) (Vm.Alike.refl U.vm) q2, q3, gv_N.same (u := U) (U := U.calling g mk a) rfl q4⟩
theorem gv_preS {s : State} {H : Heap} {D : va_G} {tys : List (ClassId × FieldType)} {A : Nat → Prop} {As : List Value} {ws : va_W} (hK : va_K D vwCl tys s) (hP : va_P D vwCl ws H) (hD : va_D A ws) (hN : gv_N s) : PreS s H (gv_Pc D tys A As ws) As :=
  ⟨gv_blind, fun U hU hW => ⟨rfl, by rw [hU]; exact hP, va_K.moved hW.alike hK, hD, gv_N.warm hW hN⟩⟩
theorem gv_preV {s : State} {H : Heap} {D : va_G} {tys : List (ClassId × FieldType)} {A : Nat → Prop} {As : List Value} {ws : va_W} {b ci : Nat} {q : vw_C} {fs : List Value} (hK : va_K D vwCl tys s) (hP : va_P D vwCl ws H) (hD : va_D A ws) (hN : gv_N s) (hc : vwCl[ci]? = some q) (he : ws[0]? = some (b, .inr (ci, fs))) : PreV s H q.1 b (gv_Pc D tys A (.ref b :: As) ws) As :=
  ⟨gv_blind, va_recv hK hP hc he, fun U hU hW => ⟨rfl, by rw [hU]; exact hP, va_K.moved hW.alike hK, hD, gv_N.warm hW hN⟩⟩
-- contracts: an int, a long, nothing comes back; no cell is made; what changes is told by wf
def gv_Mi (l : Launch) (y : MethodName) (wsy : List Cond) (fr lo : Nat) (D : va_G) (tys : List (ClassId × FieldType)) (av : List Value) (wc : va_W) {S : Type} (post : Int32 → S → Prop) (wf : S → va_W) : Prop :=
  ∀ A : Nat → Prop, Met l y wsy { frames := fr, cells := 0, slots := 0, locals := lo } (gv_Pc D tys A av wc) (va_Qi post (fun u t => va_P D vwCl (wf u) t.heap) A) 0 0 A
def gv_Ml (l : Launch) (y : MethodName) (wsy : List Cond) (fr lo : Nat) (D : va_G) (tys : List (ClassId × FieldType)) (av : List Value) (wc : va_W) {S : Type} (post : Int64 → S → Prop) (wf : S → va_W) : Prop :=
  ∀ A : Nat → Prop, Met l y wsy { frames := fr, cells := 0, slots := 0, locals := lo } (gv_Pc D tys A av wc) (va_Ql post (fun u t => va_P D vwCl (wf u) t.heap) A) 0 0 A
def gv_Mv (l : Launch) (y : MethodName) (wsy : List Cond) (fr lo : Nat) (D : va_G) (tys : List (ClassId × FieldType)) (av : List Value) (wc : va_W) {S : Type} (post : S → Prop) (wf : S → va_W) : Prop :=
  ∀ A : Nat → Prop, Met l y wsy { frames := fr, cells := 0, slots := 0, locals := lo } (gv_Pc D tys A av wc) (va_Qv post (fun u t => va_P D vwCl (wf u) t.heap) A) 0 0 A
-- a world with some of its cells anew
def gv_put : va_W → List Nat → va_W → va_W
  | ws, i :: is, e :: w1 => gv_put (ws.set i e) is w1
  | ws, _, _ => ws
theorem gv_set_fst (ws : va_W) (i : Nat) (e : Nat × va_E) (h : (ws[i]?).map Prod.fst = some e.1) (j : Nat) : ((ws.set i e)[j]?).map Prod.fst = (ws[j]?).map Prod.fst := by
  by_cases hij : i = j
  · subst hij
    have hi : i < ws.length := by
      cases hw : ws[i]? with
      | none => rw [hw] at h; cases h
      | some q => exact (List.getElem?_eq_some_iff.mp hw).1
    rw [List.getElem?_set_self hi, h]
    rfl
  · rw [List.getElem?_set_ne hij]
theorem gv_put_fst : ∀ (is : List Nat) (w1 ws : va_W), is.map (fun i => (ws[i]?).map Prod.fst) = w1.map (fun e => some e.1) → ∀ k : Nat, ((gv_put ws is w1)[k]?).map Prod.fst = (ws[k]?).map Prod.fst
  | [], _, _, _, _ => by simp [gv_put]
  | _ :: _, [], _, h, _ => by simp at h
  | i :: is, e :: w1, ws, h, k => by
    simp only [List.map_cons, List.cons.injEq] at h
    have h2 : is.map (fun j => ((ws.set i e)[j]?).map Prod.fst) = w1.map (fun e => some e.1) := by
      rw [← h.2]
      exact List.map_congr_left (fun j _ => gv_set_fst ws i e h.1 j)
    rw [gv_put, gv_put_fst is w1 (ws.set i e) h2 k, gv_set_fst ws i e h.1 k]
theorem gv_put_get : ∀ (is : List Nat) (w1 ws : va_W), is.length = w1.length → ∀ (k : Nat) (q : Nat × va_E), (gv_put ws is w1)[k]? = some q → q ∈ w1 ∨ (ws[k]? = some q ∧ k ∉ is)
  | [], _, _, _, _, _, h => Or.inr ⟨by simpa [gv_put] using h, by simp⟩
  | _ :: _, [], _, hl, _, _, _ => by simp at hl
  | i :: is, e :: w1, ws, hl, k, q, h => by
    rw [gv_put] at h
    rcases gv_put_get is w1 (ws.set i e) (by simpa using hl) k q h with h1 | ⟨h1, h2⟩
    · exact Or.inl (List.mem_cons_of_mem _ h1)
    · by_cases hik : i = k
      · subst hik
        have hi : i < (ws.set i e).length := (List.getElem?_eq_some_iff.mp h1).1
        rw [List.getElem?_set_self (by simpa using hi)] at h1
        cases h1
        exact Or.inl List.mem_cons_self
      · rw [List.getElem?_set_ne hik] at h1
        exact Or.inr ⟨h1, fun hm => (List.mem_cons.mp hm).elim (fun h3 => hik h3.symm) h2⟩
theorem gv_join {D : va_G} {cl : List vw_C} {ws wc w1 : va_W} {A0 : Nat → Prop} {H H1 : Heap} (is : List Nat) (hP : va_P D cl ws H) (hD : va_D A0 ws) (his : is.map (fun i => ws[i]?) = wc.map some) (hw1 : w1.map Prod.fst = wc.map Prod.fst)
    (hk : ∀ q : Nat, q < H.size → ¬ gv_in wc q → H1[q]? = H[q]?) (hP1 : va_P D cl w1 H1) : va_P D cl (gv_put ws is w1) H1 ∧ va_D A0 (gv_put ws is w1) := by
  have hf : is.map (fun i => (ws[i]?).map Prod.fst) = w1.map (fun e => some e.1) := by
    have h1 : is.map (fun i => (ws[i]?).map Prod.fst) = (is.map (fun i => ws[i]?)).map (Option.map Prod.fst) := by rw [List.map_map]; rfl
    rw [h1, his, List.map_map]
    have h2 : w1.map (fun e => some e.1) = (w1.map Prod.fst).map some := by rw [List.map_map]; rfl
    rw [h2, hw1, List.map_map]
    rfl
  have hlen : is.length = w1.length := by
    have := congrArg List.length hf
    simpa using this
  have hfst := gv_put_fst is w1 ws hf
  constructor
  · intro k q hq
    rcases gv_put_get is w1 ws hlen k q hq with h | ⟨h, hn⟩
    · obtain ⟨j, hj⟩ := List.getElem?_of_mem h
      exact hP1 j q hj
    · refine (hP k q h).kept (hk q.1 (hP k q h).lt fun hin => ?_)
      unfold gv_in at hin
      obtain ⟨e, he, hee⟩ := List.mem_map.mp hin
      obtain ⟨j, hj⟩ := List.getElem?_of_mem he
      have h3 : (is.map (fun i => ws[i]?))[j]? = some (some e) := by rw [his, List.getElem?_map, hj]; rfl
      rw [List.getElem?_map] at h3
      cases hi : is[j]? with
      | none => rw [hi] at h3; cases h3
      | some i =>
        rw [hi] at h3
        have h4 : ws[i]? = some e := Option.some.inj h3
        have h5 := hD.1 k i q e h h4 hee.symm
        subst h5
        exact hn (List.mem_of_getElem? hi)
  · have back : ∀ (k : Nat) (q : Nat × va_E), (gv_put ws is w1)[k]? = some q → ∃ q', ws[k]? = some q' ∧ q'.1 = q.1 := by
      intro k q hq
      have h := hfst k
      rw [hq] at h
      cases hw : ws[k]? with
      | none => rw [hw] at h; cases h
      | some q' => rw [hw] at h; exact ⟨q', rfl, (Option.some.inj h).symm⟩
    constructor
    · intro i j x y hx hy hxy
      obtain ⟨x', hx', ex⟩ := back i x hx
      obtain ⟨y', hy', ey⟩ := back j y hy
      exact hD.1 i j x' y' hx' hy' (by rw [ex, ey]; exact hxy)
    · intro k q hq
      obtain ⟨q', hq', eq⟩ := back k q hq
      rw [← eq]
      exact hD.2 k q' hq'
theorem gv_D {A0 : Nat → Prop} {ws wc : va_W} (hD : va_D A0 ws) (is : List Nat) (hnd : va_nd is = true) (his : is.map (fun i => ws[i]?) = wc.map some) : va_D (gv_in wc) wc :=
  ⟨(hD.sub is hnd his).1, fun k q hq => List.mem_map.mpr ⟨q, List.mem_of_getElem? hq, rfl⟩⟩
theorem gv_sub {D : va_G} {cl : List vw_C} {ws wc : va_W} {H : Heap} (is : List Nat) (hP : va_P D cl ws H) (his : is.map (fun i => ws[i]?) = wc.map some) : va_P D cl wc H := by
  intro k q hq
  have h1 : (is.map (fun i => ws[i]?))[k]? = some (some q) := by rw [his, List.getElem?_map, hq]; rfl
  rw [List.getElem?_map] at h1
  cases hi : is[k]? with
  | none => rw [hi] at h1; cases h1
  | some i => rw [hi] at h1; exact hP i q (Option.some.inj h1)
theorem gv_inA {A0 : Nat → Prop} {ws wc : va_W} (hD : va_D A0 ws) (is : List Nat) (his : is.map (fun i => ws[i]?) = wc.map some) : ∀ q, gv_in wc q → A0 q := by
  intro q h
  obtain ⟨e, he, hee⟩ := List.mem_map.mp h
  obtain ⟨j, hj⟩ := List.getElem?_of_mem he
  have h3 : (is.map (fun i => ws[i]?))[j]? = some (some e) := by rw [his, List.getElem?_map, hj]; rfl
  rw [List.getElem?_map] at h3
  cases hi : is[j]? with
  | none => rw [hi] at h3; cases h3
  | some i =>
    rw [hi] at h3
    rw [← hee]
    exact hD.2 i e (Option.some.inj h3)
section GVC
variable {p : Program} {l : Launch} {e : Env} {R : Room} {s : State} {m : MethodId} {args : Array Value} {below : List Frame} {meth : Method} {c : Code} {H H0 : Heap} {locs : List Loc} {cells slots : Nat} {Q : State → Prop}
variable {pc : Nat} {ls : Array Slot} {rest st0 : List Value} {a : Array Value} {A0 : Nat → Prop} {D : va_G} {ws wc : va_W}
theorem gv_ki {S : Type} {post : Int32 → S → Prop} {wf : S → va_W} (is : List Nat) (hwf : ∀ u, (wf u).map Prod.fst = wc.map Prod.fst) (hP : va_P D vwCl ws H) (hD : va_D A0 ws) (hS : va_S A0 H0 H locs) (hnd : va_nd is = true) (his : is.map (fun i => ws[i]?) = wc.map some)
    (hr : va_Run p l e R s m args below meth c H locs cells slots 0 0 (F0 m pc ls st0) rest (va_Qi post (fun u t => va_P D vwCl (wf u) t.heap) (gv_in wc) a) (gv_in wc))
    (kk : ∀ (r : Int32) (u : S) (H1 : Heap) (locs1 : List Loc), post r u → va_P D vwCl (gv_put ws is (wf u)) H1 → va_D A0 (gv_put ws is (wf u)) → va_S A0 H0 H1 locs1 → W p l e R s m args below meth c H1 locs1 cells slots Q (F0 m (pc + 3) ls (.int r :: rest))) : W p l e R s m args below meth c H locs cells slots Q (F0 m pc ls st0) := by
  refine va_calli hr hS (fun q _ h => gv_inA hD is his q h) (gv_inA hD is his) (fun r u t H1 locs1 ht hvm hw hB hz hk hS1 => ?_)
  rw [ht] at hB
  obtain ⟨h1, h2⟩ := gv_join is hP hD his (hwf u) hk hB
  exact kk r u H1 locs1 hw h1 h2 hS1
theorem gv_kl {S : Type} {post : Int64 → S → Prop} {wf : S → va_W} (is : List Nat) (hwf : ∀ u, (wf u).map Prod.fst = wc.map Prod.fst) (hP : va_P D vwCl ws H) (hD : va_D A0 ws) (hS : va_S A0 H0 H locs) (hnd : va_nd is = true) (his : is.map (fun i => ws[i]?) = wc.map some)
    (hr : va_Run p l e R s m args below meth c H locs cells slots 0 0 (F0 m pc ls st0) rest (va_Ql post (fun u t => va_P D vwCl (wf u) t.heap) (gv_in wc) a) (gv_in wc))
    (kk : ∀ (r : Int64) (u : S) (H1 : Heap) (locs1 : List Loc), post r u → va_P D vwCl (gv_put ws is (wf u)) H1 → va_D A0 (gv_put ws is (wf u)) → va_S A0 H0 H1 locs1 → W p l e R s m args below meth c H1 locs1 cells slots Q (F0 m (pc + 3) ls (.long r :: rest))) : W p l e R s m args below meth c H locs cells slots Q (F0 m pc ls st0) := by
  refine va_calll hr hS (fun q _ h => gv_inA hD is his q h) (gv_inA hD is his) (fun r u t H1 locs1 ht hvm hw hB hz hk hS1 => ?_)
  rw [ht] at hB
  obtain ⟨h1, h2⟩ := gv_join is hP hD his (hwf u) hk hB
  exact kk r u H1 locs1 hw h1 h2 hS1
theorem gv_kv {S : Type} {post : S → Prop} {wf : S → va_W} (is : List Nat) (hwf : ∀ u, (wf u).map Prod.fst = wc.map Prod.fst) (hP : va_P D vwCl ws H) (hD : va_D A0 ws) (hS : va_S A0 H0 H locs) (hnd : va_nd is = true) (his : is.map (fun i => ws[i]?) = wc.map some)
    (hr : va_Run p l e R s m args below meth c H locs cells slots 0 0 (F0 m pc ls st0) rest (va_Qv post (fun u t => va_P D vwCl (wf u) t.heap) (gv_in wc) a) (gv_in wc))
    (kk : ∀ (u : S) (H1 : Heap) (locs1 : List Loc), post u → va_P D vwCl (gv_put ws is (wf u)) H1 → va_D A0 (gv_put ws is (wf u)) → va_S A0 H0 H1 locs1 → W p l e R s m args below meth c H1 locs1 cells slots Q (F0 m (pc + 3) ls rest)) : W p l e R s m args below meth c H locs cells slots Q (F0 m pc ls st0) := by
  refine va_callv hr hS (fun q _ h => gv_inA hD is his q h) (gv_inA hD is his) (fun u t H1 locs1 ht hvm hw hB hz hk hS1 => ?_)
  rw [ht] at hB
  obtain ⟨h1, h2⟩ := gv_join is hP hD his (hwf u) hk hB
  exact kk u H1 locs1 hw h1 h2 hS1
end GVC
-- worlds: a wall; the class; the reference
abbrev gv_W (cI : ClassId) (h0 h1 h2 : Nat) (f h : Nat → Int32) : va_W := [(h0, .inr (0, [.ref h1, .ref h2])), (h1, .inl (cI, 8, .inl f)), (h2, .inl (cI, 8, .inl h))]
abbrev gv_WW (cI : ClassId) (h0 h1 h2 k0 k1 k2 : Nat) (f h f1 g1 : Nat → Int32) : va_W := [(h0, .inr (0, [.ref h1, .ref h2])), (h1, .inl (cI, 8, .inl f)), (h2, .inl (cI, 8, .inl h)), (k0, .inr (0, [.ref k1, .ref k2])), (k1, .inl (cI, 8, .inl f1)), (k2, .inl (cI, 8, .inl g1))]
abbrev gv_WWA (cI : ClassId) (h0 h1 h2 k0 k1 k2 b0 : Nat) (f h f1 g1 be : Nat → Int32) : va_W := [(h0, .inr (0, [.ref h1, .ref h2])), (h1, .inl (cI, 8, .inl f)), (h2, .inl (cI, 8, .inl h)), (k0, .inr (0, [.ref k1, .ref k2])), (k1, .inl (cI, 8, .inl f1)), (k2, .inl (cI, 8, .inl g1)), (b0, .inl (cI, 12, .inl be))]
abbrev gv_V (cI cL : ClassId) (ad : Nat → Nat) (f0 c0 f1 c1 f2 c2 : Nat → Int32) (lo up : Nat → Int64) (be : Nat → Int32) (si pl cu ge fa : Int32) : va_W := [(ad 0, .inr (1, [.ref (ad 1), .ref (ad 4), .ref (ad 7), .ref (ad 10), .ref (ad 11), .ref (ad 12), .int si, .int pl, .int cu, .int ge, .int fa])), (ad 1, .inr (0, [.ref (ad 2), .ref (ad 3)])), (ad 2, .inl (cI, 8, .inl f0)), (ad 3, .inl (cI, 8, .inl c0)), (ad 4, .inr (0, [.ref (ad 5), .ref (ad 6)])), (ad 5, .inl (cI, 8, .inl f1)), (ad 6, .inl (cI, 8, .inl c1)), (ad 7, .inr (0, [.ref (ad 8), .ref (ad 9)])), (ad 8, .inl (cI, 8, .inl f2)), (ad 9, .inl (cI, 8, .inl c2)), (ad 10, .inl (cL, 61, .inr (.inl lo))), (ad 11, .inl (cL, 61, .inr (.inl up))), (ad 12, .inl (cI, 12, .inl be))]
theorem gv_P0 {D : va_G} {cl : List vw_C} {H : Heap} : va_P D cl [] H := fun k q h => by simp at h
theorem gv_D0 {A : Nat → Prop} : va_D A [] := ⟨fun i j p q h => by simp at h, fun k q h => by simp at h⟩
abbrev gv_R (fr lo : Nat) : Room := { frames := fr, cells := 0, slots := 0, locals := lo }
-- natural numbers behind ints
theorem gn_add {x y : Int32} {a b : Nat} (hx : x = nI a) (hy : y = nI b) : x + y = nI (a + b) := by subst hx; subst hy; exact nI_add a b
theorem gn_mul {x y : Int32} {a b : Nat} (hx : x = nI a) (hy : y = nI b) : x * y = nI (a * b) := by subst hx; subst hy; exact pk_mul a b
theorem gn_sub {x y : Int32} {a b : Nat} (hx : x = nI a) (hy : y = nI b) (h : b ≤ a) : x - y = nI (a - b) := by subst hx; subst hy; exact pk_sub h
theorem gn_div {x y : Int32} {a b : Nat} (hx : x = nI a) (hy : y = nI b) (ha : a < 2 ^ 31) (h0 : 0 < b) (hb : b < 2 ^ 31) : x / y = nI (a / b) := by subst hx; subst hy; exact pk_div ha h0 hb
theorem gn_rem {x y : Int32} {a b : Nat} (hx : x = nI a) (hy : y = nI b) (ha : a < 2 ^ 31) (h0 : 0 < b) (hb : b < 2 ^ 31) : x - x / y * y = nI (a % b) := by subst hx; subst hy; exact pk_rem ha h0 hb
theorem gv_dec (x : Int32) : x + Int32.ofInt (-1) = x - 1 := by rw [Int32.sub_eq_add_neg]; rfl
section GVA
variable {p : Program} {l : Launch} {e : Env} {R : Room} {s : State} {m : MethodId} {args : Array Value} {below : List Frame} {meth : Method} {c : Code} {H H0 : Heap} {locs : List Loc} {cells slots : Nat} {Q : State → Prop}
variable {cc : ByteArray} {pc : Nat} {ls : Array Slot} {rest : List Value} {D : va_G} {cl : List vw_C} {A : Nat → Prop} {a : Nat} {tys : List (ClassId × FieldType)} {ws : va_W}
theorem gv_iald (hexec : p.tables.exec = Jvm.exec) (hb : c.code = cc) (hK : va_K D cl tys s) (hP : va_P D cl ws H) (q0 t0 : Nat) {cA : ClassId} {n k : Nat} {f : Nat → Int32} (ha : ws[q0]? = some (a, .inl (cA, n, .inl f))) (ht : tys[t0]? = some (cA, .int)) {i : Int32} (hi : i = nI k) (hk : k < n) (hn : n < 2 ^ 31) (hdg : decode cc pc = .ok (.iaload, 1))
    (kk : W p l e R s m args below meth c H locs cells slots Q (F0 m (pc + 1) ls (.int (f k) :: rest))) : W p l e R s m args below meth c H locs cells slots Q (F0 m pc ls (.int i :: .ref a :: rest)) := by
  refine va_iald hexec hb hK hP q0 t0 ha ht (gv_inN hi hk hn) hdg ?_
  rw [hi, nI_clamp (Nat.lt_trans hk hn)]
  exact kk
theorem gv_lald (hexec : p.tables.exec = Jvm.exec) (hb : c.code = cc) (hK : va_K D cl tys s) (hP : va_P D cl ws H) (q0 t0 : Nat) {cA : ClassId} {n k : Nat} {f : Nat → Int64} (ha : ws[q0]? = some (a, .inl (cA, n, .inr (.inl f)))) (ht : tys[t0]? = some (cA, .long)) {i : Int32} (hi : i = nI k) (hk : k < n) (hn : n < 2 ^ 31) (hdg : decode cc pc = .ok (.laload, 1))
    (kk : W p l e R s m args below meth c H locs cells slots Q (F0 m (pc + 1) ls (.long (f k) :: rest))) : W p l e R s m args below meth c H locs cells slots Q (F0 m pc ls (.int i :: .ref a :: rest)) := by
  refine va_lald hexec hb hK hP q0 t0 ha ht (gv_inN hi hk hn) hdg ?_
  rw [hi, nI_clamp (Nat.lt_trans hk hn)]
  exact kk
theorem gv_iast (hexec : p.tables.exec = Jvm.exec) (hb : c.code = cc) (hK : va_K D cl tys s) (hP : va_P D cl ws H) (hD : va_D A ws) (hS : va_S A H0 H locs) (q0 t0 : Nat) {cA : ClassId} {n k : Nat} {f : Nat → Int32} (ha : ws[q0]? = some (a, .inl (cA, n, .inl f))) (ht : tys[t0]? = some (cA, .int)) {i : Int32} {x : Int32} (hi : i = nI k) (hk : k < n) (hn : n < 2 ^ 31) (hdg : decode cc pc = .ok (.iastore, 1))
    (kk : ∀ (H1 : Heap) (locs1 : List Loc), va_P D cl (ws.set q0 (a, .inl (cA, n, .inl (upd f k x)))) H1 → va_D A (ws.set q0 (a, .inl (cA, n, .inl (upd f k x)))) → va_S A H0 H1 locs1 → W p l e R s m args below meth c H1 locs1 cells slots Q (F0 m (pc + 1) ls rest)) : W p l e R s m args below meth c H locs cells slots Q (F0 m pc ls (.int x :: .int i :: .ref a :: rest)) := by
  refine va_iast hexec hb hK hP hD hS q0 t0 ha ht (gv_inN hi hk hn) hdg ?_
  rw [hi, nI_clamp (Nat.lt_trans hk hn)]
  exact kk
theorem gv_last (hexec : p.tables.exec = Jvm.exec) (hb : c.code = cc) (hK : va_K D cl tys s) (hP : va_P D cl ws H) (hD : va_D A ws) (hS : va_S A H0 H locs) (q0 t0 : Nat) {cA : ClassId} {n k : Nat} {f : Nat → Int64} (ha : ws[q0]? = some (a, .inl (cA, n, .inr (.inl f)))) (ht : tys[t0]? = some (cA, .long)) {i : Int32} {x : Int64} (hi : i = nI k) (hk : k < n) (hn : n < 2 ^ 31) (hdg : decode cc pc = .ok (.lastore, 1))
    (kk : ∀ (H1 : Heap) (locs1 : List Loc), va_P D cl (ws.set q0 (a, .inl (cA, n, .inr (.inl (vp_updL f k x))))) H1 → va_D A (ws.set q0 (a, .inl (cA, n, .inr (.inl (vp_updL f k x))))) → va_S A H0 H1 locs1 → W p l e R s m args below meth c H1 locs1 cells slots Q (F0 m (pc + 1) ls rest)) : W p l e R s m args below meth c H locs cells slots Q (F0 m pc ls (.long x :: .int i :: .ref a :: rest)) := by
  refine va_last hexec hb hK hP hD hS q0 t0 ha ht (gv_inN hi hk hn) hdg ?_
  rw [hi, nI_clamp (Nat.lt_trans hk hn)]
  exact kk
end GVA
-- a contract out of its walk
theorem gv_ofi {l : Launch} {y : MethodName} {wsy ws' : List Cond} {fr lo : Nat} {D : va_G} {tys : List (ClassId × FieldType)} {av : List Value} {wc : va_W} {S : Type} {post : Int32 → S → Prop} {wf : S → va_W} {cc : ByteArray} {maxL : Nat} {own : String}
    (hy : plainName y.cls = true) (hw : wsy = Cond.code y cc maxL (some .int) :: ws') (hav : (lg_sl av).length ≤ maxL) (ho : y.cls = own)
    (body : ∀ (A : Nat → Prop) p e s m args below meth c Q (ls : Array Slot) (H : Heap) (locs : List Loc), p.tables.exec = Jvm.exec → c.code = cc → c.maxLocals = maxL → (∀ w ∈ wsy, w.before args s = true) → s.vm.findClass own = some m.cls → va_P D vwCl wc H → va_K D vwCl tys s → va_D A wc → gv_N s → va_S A s.heap H locs → lv_has ls maxL (lv_args 0 av) →
      (∀ (v : Int32) (u : S) H locs pc ls, post v u → va_P D vwCl (wf u) H → va_S A s.heap H locs → decode cc pc = .ok (.ireturn, 1) → W p l e (gv_R fr lo) s m args below meth c H locs 0 0 Q (F0 m pc ls [.int v])) →
      W p l e (gv_R fr lo) s m args below meth c H locs 0 0 Q (F0 m 0 ls [])) : gv_Mi l y wsy fr lo D tys av wc post wf := by
  intro A
  refine Met.ofW (cc := cc) (maxL := maxL) (ret := some .int) hy hw ?_
  intro p e s m args below meth c s₁ B hml hv
  obtain ⟨rfl, hP, hK, hD, hN⟩ := hv
  have hlocks := B.notSynchronized
  have hl := lv_entry av (n := maxL) hav
  rw [lg_entry_eq]
  exact body A p e s m _ below meth c _ _ _ _ B.exec B.bytes hml (atoms_spec (ws := wsy) B.pre) (ho ▸ findClass_of_methodNamed B.named) hP hK hD hN va_S.rf hl (fun v u H locs pc ls hq hP hS hdg => W.iret (v := v) B.exec B.bytes B.returns (fun t ht hW => ⟨⟨v, u, rfl, hq, by show va_P D vwCl (wf u) t.heap; rw [ht]; exact hP⟩, hS.F ht⟩) hS.2.2 hdg)
theorem gv_ofz {l : Launch} {y : MethodName} {wsy ws' : List Cond} {fr lo : Nat} {D : va_G} {tys : List (ClassId × FieldType)} {av : List Value} {wc : va_W} {S : Type} {post : Int32 → S → Prop} {wf : S → va_W} {cc : ByteArray} {maxL : Nat} {own : String} {ty : FieldType}
    (hy : plainName y.cls = true) (hw : wsy = Cond.code y cc maxL (some ty) :: ws') (hav : (lg_sl av).length ≤ maxL) (ho : y.cls = own)
    (body : ∀ (A : Nat → Prop) p e s m args below meth c Q (ls : Array Slot) (H : Heap) (locs : List Loc), p.tables.exec = Jvm.exec → c.code = cc → c.maxLocals = maxL → (∀ w ∈ wsy, w.before args s = true) → s.vm.findClass own = some m.cls → va_P D vwCl wc H → va_K D vwCl tys s → va_D A wc → gv_N s → va_S A s.heap H locs → lv_has ls maxL (lv_args 0 av) →
      (∀ (v : Int32) (u : S) H locs pc ls, narrow ty (.int v) = .int v → post v u → va_P D vwCl (wf u) H → va_S A s.heap H locs → decode cc pc = .ok (.ireturn, 1) → W p l e (gv_R fr lo) s m args below meth c H locs 0 0 Q (F0 m pc ls [.int v])) →
      W p l e (gv_R fr lo) s m args below meth c H locs 0 0 Q (F0 m 0 ls [])) : gv_Mi l y wsy fr lo D tys av wc post wf := by
  intro A
  refine Met.ofW (cc := cc) (maxL := maxL) (ret := some ty) hy hw ?_
  intro p e s m args below meth c s₁ B hml hv
  obtain ⟨rfl, hP, hK, hD, hN⟩ := hv
  have hlocks := B.notSynchronized
  have hl := lv_entry av (n := maxL) hav
  rw [lg_entry_eq]
  exact body A p e s m _ below meth c _ _ _ _ B.exec B.bytes hml (atoms_spec (ws := wsy) B.pre) (ho ▸ findClass_of_methodNamed B.named) hP hK hD hN va_S.rf hl (fun v u H locs pc ls hn hq hP hS hdg => W.zret (v := v) B.exec B.bytes B.returns hn (fun t ht hW => ⟨⟨v, u, rfl, hq, by show va_P D vwCl (wf u) t.heap; rw [ht]; exact hP⟩, hS.F ht⟩) hS.2.2 hdg)
theorem gv_ofl {l : Launch} {y : MethodName} {wsy ws' : List Cond} {fr lo : Nat} {D : va_G} {tys : List (ClassId × FieldType)} {av : List Value} {wc : va_W} {S : Type} {post : Int64 → S → Prop} {wf : S → va_W} {cc : ByteArray} {maxL : Nat} {own : String}
    (hy : plainName y.cls = true) (hw : wsy = Cond.code y cc maxL (some .long) :: ws') (hav : (lg_sl av).length ≤ maxL) (ho : y.cls = own)
    (body : ∀ (A : Nat → Prop) p e s m args below meth c Q (ls : Array Slot) (H : Heap) (locs : List Loc), p.tables.exec = Jvm.exec → c.code = cc → c.maxLocals = maxL → (∀ w ∈ wsy, w.before args s = true) → s.vm.findClass own = some m.cls → va_P D vwCl wc H → va_K D vwCl tys s → va_D A wc → gv_N s → va_S A s.heap H locs → lv_has ls maxL (lv_args 0 av) →
      (∀ (v : Int64) (u : S) H locs pc ls, post v u → va_P D vwCl (wf u) H → va_S A s.heap H locs → decode cc pc = .ok (.lreturn, 1) → W p l e (gv_R fr lo) s m args below meth c H locs 0 0 Q (F0 m pc ls [.long v])) →
      W p l e (gv_R fr lo) s m args below meth c H locs 0 0 Q (F0 m 0 ls [])) : gv_Ml l y wsy fr lo D tys av wc post wf := by
  intro A
  refine Met.ofW (cc := cc) (maxL := maxL) (ret := some .long) hy hw ?_
  intro p e s m args below meth c s₁ B hml hv
  obtain ⟨rfl, hP, hK, hD, hN⟩ := hv
  have hlocks := B.notSynchronized
  have hl := lv_entry av (n := maxL) hav
  rw [lg_entry_eq]
  exact body A p e s m _ below meth c _ _ _ _ B.exec B.bytes hml (atoms_spec (ws := wsy) B.pre) (ho ▸ findClass_of_methodNamed B.named) hP hK hD hN va_S.rf hl (fun v u H locs pc ls hq hP hS hdg => W.lret (v := v) B.exec B.bytes B.returns (fun t ht hW => ⟨⟨v, u, rfl, hq, by show va_P D vwCl (wf u) t.heap; rw [ht]; exact hP⟩, hS.F ht⟩) hS.2.2 hdg)
theorem gv_ofv {l : Launch} {y : MethodName} {wsy ws' : List Cond} {fr lo : Nat} {D : va_G} {tys : List (ClassId × FieldType)} {av : List Value} {wc : va_W} {S : Type} {post : S → Prop} {wf : S → va_W} {cc : ByteArray} {maxL : Nat} {own : String}
    (hy : plainName y.cls = true) (hw : wsy = Cond.code y cc maxL none :: ws') (hav : (lg_sl av).length ≤ maxL) (ho : y.cls = own)
    (body : ∀ (A : Nat → Prop) p e s m args below meth c Q (ls : Array Slot) (H : Heap) (locs : List Loc), p.tables.exec = Jvm.exec → c.code = cc → c.maxLocals = maxL → (∀ w ∈ wsy, w.before args s = true) → s.vm.findClass own = some m.cls → va_P D vwCl wc H → va_K D vwCl tys s → va_D A wc → gv_N s → va_S A s.heap H locs → lv_has ls maxL (lv_args 0 av) →
      (∀ (u : S) H locs pc ls, post u → va_P D vwCl (wf u) H → va_S A s.heap H locs → decode cc pc = .ok (.return_, 1) → W p l e (gv_R fr lo) s m args below meth c H locs 0 0 Q (F0 m pc ls [])) →
      W p l e (gv_R fr lo) s m args below meth c H locs 0 0 Q (F0 m 0 ls [])) : gv_Mv l y wsy fr lo D tys av wc post wf := by
  intro A
  refine Met.ofW (cc := cc) (maxL := maxL) (ret := none) hy hw ?_
  intro p e s m args below meth c s₁ B hml hv
  obtain ⟨rfl, hP, hK, hD, hN⟩ := hv
  have hlocks := B.notSynchronized
  have hl := lv_entry av (n := maxL) hav
  rw [lg_entry_eq]
  exact body A p e s m _ below meth c _ _ _ _ B.exec B.bytes hml (atoms_spec (ws := wsy) B.pre) (ho ▸ findClass_of_methodNamed B.named) hP hK hD hN va_S.rf hl (fun u H locs pc ls hq hP hS hdg => W.vret B.exec B.bytes B.returns (fun t ht hW => ⟨⟨u, rfl, hq, by show va_P D vwCl (wf u) t.heap; rw [ht]; exact hP⟩, hS.F ht⟩) hS.2.2 hdg)
end
section
def spJ6_bitCount_0f7a4 (p0 : Int32) : Int32 := gv_b (p0 - (((p0.toUInt32 >>> ((1 : Int32).toUInt32 &&& Int32.toUInt32 31)).toInt32) &&& 1431655765)) (fun y9 => gv_b ((y9 &&& 858993459) + (((y9.toUInt32 >>> ((2 : Int32).toUInt32 &&& Int32.toUInt32 31)).toInt32) &&& 858993459)) (fun y23 => gv_b ((y23 + ((y23.toUInt32 >>> ((4 : Int32).toUInt32 &&& Int32.toUInt32 31)).toInt32)) &&& 252645135) (fun y33 => gv_b (y33 + ((y33.toUInt32 >>> ((8 : Int32).toUInt32 &&& Int32.toUInt32 31)).toInt32)) (fun y40 => gv_b (y40 + ((y40.toUInt32 >>> ((16 : Int32).toUInt32 &&& Int32.toUInt32 31)).toInt32)) (fun y47 => y47 &&& 63)))))
theorem spJ6_bitCount_0f7a4_e (p0 : Int32) : spJ6_bitCount_0f7a4 p0 = gv_b (p0 - (((p0.toUInt32 >>> ((1 : Int32).toUInt32 &&& Int32.toUInt32 31)).toInt32) &&& 1431655765)) (fun y9 => gv_b ((y9 &&& 858993459) + (((y9.toUInt32 >>> ((2 : Int32).toUInt32 &&& Int32.toUInt32 31)).toInt32) &&& 858993459)) (fun y23 => gv_b ((y23 + ((y23.toUInt32 >>> ((4 : Int32).toUInt32 &&& Int32.toUInt32 31)).toInt32)) &&& 252645135) (fun y33 => gv_b (y33 + ((y33.toUInt32 >>> ((8 : Int32).toUInt32 &&& Int32.toUInt32 31)).toInt32)) (fun y40 => gv_b (y40 + ((y40.toUInt32 >>> ((16 : Int32).toUInt32 &&& Int32.toUInt32 31)).toInt32)) (fun y47 => y47 &&& 63))))) := rfl
set_option maxHeartbeats 4000000 in
set_option maxRecDepth 100000 in
theorem kJ6_bitCount_0f7a4 (l : Launch) (dC : Nat → ClassId) (dI : Nat → Nat → Nat) (cI cL : ClassId)   (p0 : Int32) : gv_Mi l yJ6_bitCount_0f7a4 wsJ6_bitCount_0f7a4 0 0 (dC, dI) [(cI, .int), (cL, .long)] [.int p0] ([] : va_W) (fun (r : Int32) (_ : Unit) => r = spJ6_bitCount_0f7a4 p0) (fun (_ : Unit) => ([] : va_W)) := by
  refine gv_ofi (cc := cJ6_bitCount_0f7a4) (maxL := 1) (own := RJ6) (by decide) rfl (Nat.le_of_ble_eq_true rfl) rfl ?_
  intro A p e s m args below meth c Q ls H locs hx hb hml hts hown hP hK hD hN hS hl kr
  have hl : lv_has ls 1 [(0, .int p0)] := hl
  have he := (spJ6_bitCount_0f7a4_e p0).symm
  refine lv_iload_n hx hb dJ6_bitCount_0f7a4_0 rfl (lv_at hl 0 rfl) ?_
  refine lv_iload_n hx hb dJ6_bitCount_0f7a4_1 rfl (lv_at hl 0 rfl) ?_
  refine lv_iconst (v := 1) hx hb dJ6_bitCount_0f7a4_2 (by decide) ?_
  refine lv_iushr (v := (p0.toUInt32 >>> ((1 : Int32).toUInt32 &&& Int32.toUInt32 31)).toInt32) hx hb dJ6_bitCount_0f7a4_3 rfl ?_
  refine lv_ldcw (v := 1431655765) hx hb hown (hts (.constant RJ6 265 (1431655765)) (List.mem_of_getElem? (i := 1) rfl)) dJ6_bitCount_0f7a4_4 ?_
  refine lv_iand hx hb dJ6_bitCount_0f7a4_7 ?_
  refine lv_isub hx hb dJ6_bitCount_0f7a4_8 ?_
  refine lv_topi (fun y9 ey9 => ?_)
  have he := gv_q ey9 he
  refine lv_istore_n (lv' := [(0, .int y9)]) hx hb dJ6_bitCount_0f7a4_9 rfl hl (by decide) rfl (fun ls hl => ?_)
  refine lv_iload_n hx hb dJ6_bitCount_0f7a4_10 rfl (lv_at hl 0 rfl) ?_
  refine lv_ldcw (v := 858993459) hx hb hown (hts (.constant RJ6 266 (858993459)) (List.mem_of_getElem? (i := 2) rfl)) dJ6_bitCount_0f7a4_11 ?_
  refine lv_iand hx hb dJ6_bitCount_0f7a4_14 ?_
  refine lv_iload_n hx hb dJ6_bitCount_0f7a4_15 rfl (lv_at hl 0 rfl) ?_
  refine lv_iconst (v := 2) hx hb dJ6_bitCount_0f7a4_16 (by decide) ?_
  refine lv_iushr (v := (y9.toUInt32 >>> ((2 : Int32).toUInt32 &&& Int32.toUInt32 31)).toInt32) hx hb dJ6_bitCount_0f7a4_17 rfl ?_
  refine lv_ldcw (v := 858993459) hx hb hown (hts (.constant RJ6 266 (858993459)) (List.mem_of_getElem? (i := 2) rfl)) dJ6_bitCount_0f7a4_18 ?_
  refine lv_iand hx hb dJ6_bitCount_0f7a4_21 ?_
  refine lv_iadd hx hb dJ6_bitCount_0f7a4_22 ?_
  refine lv_topi (fun y23 ey23 => ?_)
  have he := gv_q ey23 he
  refine lv_istore_n (lv' := [(0, .int y23)]) hx hb dJ6_bitCount_0f7a4_23 rfl hl (by decide) rfl (fun ls hl => ?_)
  refine lv_iload_n hx hb dJ6_bitCount_0f7a4_24 rfl (lv_at hl 0 rfl) ?_
  refine lv_iload_n hx hb dJ6_bitCount_0f7a4_25 rfl (lv_at hl 0 rfl) ?_
  refine lv_iconst (v := 4) hx hb dJ6_bitCount_0f7a4_26 (by decide) ?_
  refine lv_iushr (v := (y23.toUInt32 >>> ((4 : Int32).toUInt32 &&& Int32.toUInt32 31)).toInt32) hx hb dJ6_bitCount_0f7a4_27 rfl ?_
  refine lv_iadd hx hb dJ6_bitCount_0f7a4_28 ?_
  refine lv_ldcw (v := 252645135) hx hb hown (hts (.constant RJ6 267 (252645135)) (List.mem_of_getElem? (i := 3) rfl)) dJ6_bitCount_0f7a4_29 ?_
  refine lv_iand hx hb dJ6_bitCount_0f7a4_32 ?_
  refine lv_topi (fun y33 ey33 => ?_)
  have he := gv_q ey33 he
  refine lv_istore_n (lv' := [(0, .int y33)]) hx hb dJ6_bitCount_0f7a4_33 rfl hl (by decide) rfl (fun ls hl => ?_)
  refine lv_iload_n hx hb dJ6_bitCount_0f7a4_34 rfl (lv_at hl 0 rfl) ?_
  refine lv_iload_n hx hb dJ6_bitCount_0f7a4_35 rfl (lv_at hl 0 rfl) ?_
  refine lv_bipush (v := 8) hx hb dJ6_bitCount_0f7a4_36 (by decide) ?_
  refine lv_iushr (v := (y33.toUInt32 >>> ((8 : Int32).toUInt32 &&& Int32.toUInt32 31)).toInt32) hx hb dJ6_bitCount_0f7a4_38 rfl ?_
  refine lv_iadd hx hb dJ6_bitCount_0f7a4_39 ?_
  refine lv_topi (fun y40 ey40 => ?_)
  have he := gv_q ey40 he
  refine lv_istore_n (lv' := [(0, .int y40)]) hx hb dJ6_bitCount_0f7a4_40 rfl hl (by decide) rfl (fun ls hl => ?_)
  refine lv_iload_n hx hb dJ6_bitCount_0f7a4_41 rfl (lv_at hl 0 rfl) ?_
  refine lv_iload_n hx hb dJ6_bitCount_0f7a4_42 rfl (lv_at hl 0 rfl) ?_
  refine lv_bipush (v := 16) hx hb dJ6_bitCount_0f7a4_43 (by decide) ?_
  refine lv_iushr (v := (y40.toUInt32 >>> ((16 : Int32).toUInt32 &&& Int32.toUInt32 31)).toInt32) hx hb dJ6_bitCount_0f7a4_45 rfl ?_
  refine lv_iadd hx hb dJ6_bitCount_0f7a4_46 ?_
  refine lv_topi (fun y47 ey47 => ?_)
  have he := gv_q ey47 he
  refine lv_istore_n (lv' := [(0, .int y47)]) hx hb dJ6_bitCount_0f7a4_47 rfl hl (by decide) rfl (fun ls hl => ?_)
  refine lv_iload_n hx hb dJ6_bitCount_0f7a4_48 rfl (lv_at hl 0 rfl) ?_
  refine lv_bipush (v := 63) hx hb dJ6_bitCount_0f7a4_49 (by decide) ?_
  refine lv_iand hx hb dJ6_bitCount_0f7a4_51 ?_
  exact kr (y47 &&& 63) () _ _ _ _ he hP hS dJ6_bitCount_0f7a4_52
def spX1_isCell (p0 : Int32) (p1 : Int32) : Int32 := (if p0 < 0 then 0 else (if 8 ≤ p0 then 0 else (if p1 < 0 then 0 else (if 12 ≤ p1 then 0 else 1))))
theorem spX1_isCell_e (p0 : Int32) (p1 : Int32) : spX1_isCell p0 p1 = (if p0 < 0 then 0 else (if 8 ≤ p0 then 0 else (if p1 < 0 then 0 else (if 12 ≤ p1 then 0 else 1)))) := rfl
set_option maxHeartbeats 4000000 in
set_option maxRecDepth 100000 in
theorem kX1_isCell (l : Launch) (dC : Nat → ClassId) (dI : Nat → Nat → Nat) (cI cL : ClassId)   (p0 : Int32) (p1 : Int32) : gv_Mi l yX1_isCell wsX1_isCell 0 0 (dC, dI) [(cI, .int), (cL, .long)] [.int p0, .int p1] ([] : va_W) (fun (r : Int32) (_ : Unit) => r = spX1_isCell p0 p1) (fun (_ : Unit) => ([] : va_W)) := by
  refine gv_ofz (cc := cX1_isCell) (maxL := 2) (own := RX1) (ty := .boolean) (by decide) rfl (Nat.le_of_ble_eq_true rfl) rfl ?_
  intro A p e s m args below meth c Q ls H locs hx hb hml hts hown hP hK hD hN hS hl kr
  have hl : lv_has ls 2 [(0, .int p0), (1, .int p1)] := hl
  have he := (spX1_isCell_e p0 p1).symm
  refine lv_iload_n hx hb dX1_isCell_0 rfl (lv_at hl 0 rfl) ?_
  refine lv_if_lt (tgt := 24) hx hb dX1_isCell_1 (by decide) (fun cd1 => ?_) (fun cd1 => ?_)
  · have he := gv_t cd1 he
    refine lv_iconst (v := 0) hx hb dX1_isCell_24 (by decide) ?_
    exact kr 0 () _ _ _ _ rfl he hP hS dX1_isCell_25
  · have he := gv_f cd1 he
    refine lv_iload_n hx hb dX1_isCell_4 rfl (lv_at hl 0 rfl) ?_
    refine lv_bipush (v := 8) hx hb dX1_isCell_5 (by decide) ?_
    refine lv_icmp_ge (tgt := 24) hx hb dX1_isCell_7 (by decide) (fun cd7 => ?_) (fun cd7 => ?_)
    · have he := gv_t cd7 he
      refine lv_iconst (v := 0) hx hb dX1_isCell_24 (by decide) ?_
      exact kr 0 () _ _ _ _ rfl he hP hS dX1_isCell_25
    · have he := gv_f cd7 he
      refine lv_iload_n hx hb dX1_isCell_10 rfl (lv_at hl 1 rfl) ?_
      refine lv_if_lt (tgt := 24) hx hb dX1_isCell_11 (by decide) (fun cd11 => ?_) (fun cd11 => ?_)
      · have he := gv_t cd11 he
        refine lv_iconst (v := 0) hx hb dX1_isCell_24 (by decide) ?_
        exact kr 0 () _ _ _ _ rfl he hP hS dX1_isCell_25
      · have he := gv_f cd11 he
        refine lv_iload_n hx hb dX1_isCell_14 rfl (lv_at hl 1 rfl) ?_
        refine lv_bipush (v := 12) hx hb dX1_isCell_15 (by decide) ?_
        refine lv_icmp_ge (tgt := 24) hx hb dX1_isCell_17 (by decide) (fun cd17 => ?_) (fun cd17 => ?_)
        · have he := gv_t cd17 he
          refine lv_iconst (v := 0) hx hb dX1_isCell_24 (by decide) ?_
          exact kr 0 () _ _ _ _ rfl he hP hS dX1_isCell_25
        · have he := gv_f cd17 he
          refine lv_iconst (v := 1) hx hb dX1_isCell_20 (by decide) ?_
          refine lv_goto (tgt := 25) hx hb dX1_isCell_21 (by decide) ?_
          exact kr 1 () _ _ _ _ rfl he hP hS dX1_isCell_25
def spX0_leafRow (f : Nat → Int32) (h : Nat → Int32) (p1 : Int32) : Int32 := (if p1 < 0 then 0 else (if 8 ≤ p1 then 0 else f p1.toNatClampNeg))
theorem spX0_leafRow_e (f : Nat → Int32) (h : Nat → Int32) (p1 : Int32) : spX0_leafRow f h p1 = (if p1 < 0 then 0 else (if 8 ≤ p1 then 0 else f p1.toNatClampNeg)) := rfl
set_option maxHeartbeats 4000000 in
set_option maxRecDepth 100000 in
theorem kX0_leafRow (l : Launch) (dC : Nat → ClassId) (dI : Nat → Nat → Nat) (cI cL : ClassId) (h0 : Nat) (h1 : Nat) (h2 : Nat) (f : Nat → Int32) (h : Nat → Int32) (p1 : Int32) : gv_Mi l yX0_leafRow wsX0_leafRow 0 0 (dC, dI) [(cI, .int), (cL, .long)] [.ref h0, .int p1] (gv_W cI h0 h1 h2 f h) (fun (r : Int32) (_ : Unit) => r = spX0_leafRow f h p1) (fun (_ : Unit) => (gv_W cI h0 h1 h2 f h)) := by
  refine gv_ofi (cc := cX0_leafRow) (maxL := 2) (own := RX0) (by decide) rfl (Nat.le_of_ble_eq_true rfl) rfl ?_
  intro A p e s m args below meth c Q ls H locs hx hb hml hts hown hP hK hD hN hS hl kr
  have inX0 : ∀ w ∈ wsX00, w ∈ wsX0_leafRow := (fun _ h => List.mem_cons_of_mem _ (List.mem_append_right _ h))
  have hl : lv_has ls 2 [(0, .ref h0), (1, .int p1)] := hl
  have he := (spX0_leafRow_e f h p1).symm
  refine lv_iload_n hx hb dX0_leafRow_0 rfl (lv_at hl 1 rfl) ?_
  refine lv_if_lt (tgt := 19) hx hb dX0_leafRow_1 (by decide) (fun cd1 => ?_) (fun cd1 => ?_)
  · have he := gv_t cd1 he
    refine lv_iconst (v := 0) hx hb dX0_leafRow_19 (by decide) ?_
    exact kr 0 () _ _ _ _ he hP hS dX0_leafRow_20
  · have he := gv_f cd1 he
    refine lv_iload_n hx hb dX0_leafRow_4 rfl (lv_at hl 1 rfl) ?_
    refine lv_bipush (v := 8) hx hb dX0_leafRow_5 (by decide) ?_
    refine lv_icmp_ge (tgt := 19) hx hb dX0_leafRow_7 (by decide) (fun cd7 => ?_) (fun cd7 => ?_)
    · have he := gv_t cd7 he
      refine lv_iconst (v := 0) hx hb dX0_leafRow_19 (by decide) ?_
      exact kr 0 () _ _ _ _ he hP hS dX0_leafRow_20
    · have he := gv_f cd7 he
      refine lv_aload_n hx hb dX0_leafRow_10 rfl (lv_at hl 0 rfl) ?_
      refine va_get (D := (dC, dI)) (ci := 0) (v := .ref h1) (C := RX0) (T := TX0) (N := 2) hx hb hts inX0 hown hK hP 0 rfl rfl 0 (by decide) (hts (.fieldLink RX0 9 "VineWall$Wall" "leafRows" "[I") (List.mem_of_getElem? (i := 1) rfl)) (fun _ h9 => h9) rfl dX0_leafRow_11 ?_
      refine lv_iload_n hx hb dX0_leafRow_14 rfl (lv_at hl 1 rfl) ?_
      refine va_iald (cA := cI) hx hb hK hP 1 0 rfl rfl (gv_in8 cd1 (rfl : (8 : Int32) = nI 8) (by decide) cd7) dX0_leafRow_15 ?_
      refine lv_goto (tgt := 20) hx hb dX0_leafRow_16 (by decide) ?_
      exact kr (f p1.toNatClampNeg) () _ _ _ _ he hP hS dX0_leafRow_20
def spX0_hasCutAt (f : Nat → Int32) (h : Nat → Int32) (p1 : Int32) (p2 : Int32) : Int32 := (if p1 < 0 then 0 else (if 8 ≤ p1 then 0 else (if (((h p1.toNatClampNeg) >>> (p2 &&& 31)) &&& 1) = 1 then 1 else 0)))
theorem spX0_hasCutAt_e (f : Nat → Int32) (h : Nat → Int32) (p1 : Int32) (p2 : Int32) : spX0_hasCutAt f h p1 p2 = (if p1 < 0 then 0 else (if 8 ≤ p1 then 0 else (if (((h p1.toNatClampNeg) >>> (p2 &&& 31)) &&& 1) = 1 then 1 else 0))) := rfl
set_option maxHeartbeats 4000000 in
set_option maxRecDepth 100000 in
theorem kX0_hasCutAt (l : Launch) (dC : Nat → ClassId) (dI : Nat → Nat → Nat) (cI cL : ClassId) (h0 : Nat) (h1 : Nat) (h2 : Nat) (f : Nat → Int32) (h : Nat → Int32) (p1 : Int32) (p2 : Int32) : gv_Mi l yX0_hasCutAt wsX0_hasCutAt 0 0 (dC, dI) [(cI, .int), (cL, .long)] [.ref h0, .int p1, .int p2] (gv_W cI h0 h1 h2 f h) (fun (r : Int32) (_ : Unit) => r = spX0_hasCutAt f h p1 p2) (fun (_ : Unit) => (gv_W cI h0 h1 h2 f h)) := by
  refine gv_ofz (cc := cX0_hasCutAt) (maxL := 3) (own := RX0) (ty := .boolean) (by decide) rfl (Nat.le_of_ble_eq_true rfl) rfl ?_
  intro A p e s m args below meth c Q ls H locs hx hb hml hts hown hP hK hD hN hS hl kr
  have inX0 : ∀ w ∈ wsX00, w ∈ wsX0_hasCutAt := (fun _ h => List.mem_cons_of_mem _ (List.mem_append_right _ h))
  have hl : lv_has ls 3 [(0, .ref h0), (1, .int p1), (2, .int p2)] := hl
  have he := (spX0_hasCutAt_e f h p1 p2).symm
  refine lv_iload_n hx hb dX0_hasCutAt_0 rfl (lv_at hl 1 rfl) ?_
  refine lv_if_lt (tgt := 28) hx hb dX0_hasCutAt_1 (by decide) (fun cd1 => ?_) (fun cd1 => ?_)
  · have he := gv_t cd1 he
    refine lv_iconst (v := 0) hx hb dX0_hasCutAt_28 (by decide) ?_
    exact kr 0 () _ _ _ _ rfl he hP hS dX0_hasCutAt_29
  · have he := gv_f cd1 he
    refine lv_iload_n hx hb dX0_hasCutAt_4 rfl (lv_at hl 1 rfl) ?_
    refine lv_bipush (v := 8) hx hb dX0_hasCutAt_5 (by decide) ?_
    refine lv_icmp_ge (tgt := 28) hx hb dX0_hasCutAt_7 (by decide) (fun cd7 => ?_) (fun cd7 => ?_)
    · have he := gv_t cd7 he
      refine lv_iconst (v := 0) hx hb dX0_hasCutAt_28 (by decide) ?_
      exact kr 0 () _ _ _ _ rfl he hP hS dX0_hasCutAt_29
    · have he := gv_f cd7 he
      refine lv_aload_n hx hb dX0_hasCutAt_10 rfl (lv_at hl 0 rfl) ?_
      refine va_get (D := (dC, dI)) (ci := 0) (v := .ref h2) (C := RX0) (T := TX0) (N := 2) hx hb hts inX0 hown hK hP 0 rfl rfl 1 (by decide) (hts (.fieldLink RX0 15 "VineWall$Wall" "cutRows" "[I") (List.mem_of_getElem? (i := 1) rfl)) (fun _ h9 => h9) rfl dX0_hasCutAt_11 ?_
      refine lv_iload_n hx hb dX0_hasCutAt_14 rfl (lv_at hl 1 rfl) ?_
      refine va_iald (cA := cI) hx hb hK hP 2 0 rfl rfl (gv_in8 cd1 (rfl : (8 : Int32) = nI 8) (by decide) cd7) dX0_hasCutAt_15 ?_
      refine lv_iload_n hx hb dX0_hasCutAt_16 rfl (lv_at hl 2 rfl) ?_
      refine lv_ishr hx hb dX0_hasCutAt_17 ?_
      refine lv_iconst (v := 1) hx hb dX0_hasCutAt_18 (by decide) ?_
      refine lv_iand hx hb dX0_hasCutAt_19 ?_
      refine lv_iconst (v := 1) hx hb dX0_hasCutAt_20 (by decide) ?_
      refine lv_icmp_ne (tgt := 28) hx hb dX0_hasCutAt_21 (by decide) (fun cd21 => ?_) (fun cd21 => ?_)
      · have he := gv_f cd21 he
        refine lv_iconst (v := 0) hx hb dX0_hasCutAt_28 (by decide) ?_
        exact kr 0 () _ _ _ _ rfl he hP hS dX0_hasCutAt_29
      · have he := gv_t cd21 he
        refine lv_iconst (v := 1) hx hb dX0_hasCutAt_24 (by decide) ?_
        refine lv_goto (tgt := 29) hx hb dX0_hasCutAt_25 (by decide) ?_
        exact kr 1 () _ _ _ _ rfl he hP hS dX0_hasCutAt_29
def spX0_hasLeafAt (f : Nat → Int32) (h : Nat → Int32) (p1 : Int32) (p2 : Int32) : Int32 := gv_b (spX0_leafRow f h p1) (fun q2 => (if ((q2 >>> (p2 &&& 31)) &&& 1) = 1 then 1 else 0))
theorem spX0_hasLeafAt_e (f : Nat → Int32) (h : Nat → Int32) (p1 : Int32) (p2 : Int32) : spX0_hasLeafAt f h p1 p2 = gv_b (spX0_leafRow f h p1) (fun q2 => (if ((q2 >>> (p2 &&& 31)) &&& 1) = 1 then 1 else 0)) := rfl
set_option maxHeartbeats 4000000 in
set_option maxRecDepth 100000 in
theorem kX0_hasLeafAt (l : Launch) (dC : Nat → ClassId) (dI : Nat → Nat → Nat) (cI cL : ClassId) (h0 : Nat) (h1 : Nat) (h2 : Nat) (f : Nat → Int32) (h : Nat → Int32) (p1 : Int32) (p2 : Int32) : gv_Mi l yX0_hasLeafAt wsX0_hasLeafAt 1 21 (dC, dI) [(cI, .int), (cL, .long)] [.ref h0, .int p1, .int p2] (gv_W cI h0 h1 h2 f h) (fun (r : Int32) (_ : Unit) => r = spX0_hasLeafAt f h p1 p2) (fun (_ : Unit) => (gv_W cI h0 h1 h2 f h)) := by
  refine gv_ofz (cc := cX0_hasLeafAt) (maxL := 3) (own := RX0) (ty := .boolean) (by decide) rfl (Nat.le_of_ble_eq_true rfl) rfl ?_
  intro A p e s m args below meth c Q ls H locs hx hb hml hts hown hP hK hD hN hS hl kr
  have inX0 : ∀ w ∈ wsX00, w ∈ wsX0_hasLeafAt := (fun _ h => List.mem_cons_of_mem _ (List.mem_append_right _ h))
  have hl : lv_has ls 3 [(0, .ref h0), (1, .int p1), (2, .int p2)] := hl
  have he := (spX0_hasLeafAt_e f h p1 p2).symm
  refine lv_aload_n hx hb dX0_hasLeafAt_0 rfl (lv_at hl 0 rfl) ?_
  refine lv_iload_n hx hb dX0_hasLeafAt_1 rfl (lv_at hl 1 rfl) ?_
  have hPc : va_P (dC, dI) vwCl (gv_W cI h0 h1 h2 f h) H := gv_sub [0, 1, 2] hP rfl
  have hDc : va_D (gv_in (gv_W cI h0 h1 h2 f h)) (gv_W cI h0 h1 h2 f h) := gv_D hD [0, 1, 2] (by decide) rfl
  refine gv_ki (wf := (fun (_ : Unit) => (gv_W cI h0 h1 h2 f h))) (wc := (gv_W cI h0 h1 h2 f h)) [0, 1, 2] (fun _ => rfl) hP hD hS rfl rfl (va_runV (As := [.int p1]) (rest := []) ⟨hx, hb, hml, hown, hts⟩ (kX0_leafRow l dC dI cI cL h0 h1 h2 f h p1 (gv_in (gv_W cI h0 h1 h2 f h))) (cwV (rm := gv_R 0 0) 1 hts gX0_hasLeafAt_X0_leafRow rfl rfl rfl (by decide +kernel) ⟨Nat.le_of_ble_eq_true rfl, Nat.le_of_ble_eq_true rfl⟩) (gv_preV (ci := 0) hK hPc hDc hN rfl rfl) rfl rfl hl.1 rfl (lv_room (Nat.le_of_ble_eq_true rfl)) dX0_hasLeafAt_2 ⟨Nat.zero_le _, Nat.zero_le _⟩) (fun q2 u H locs hw hP hD hS => ?_)
  have he := gv_q hw he
  have hP : va_P (dC, dI) vwCl (gv_W cI h0 h1 h2 f h) H := hP
  have hD : va_D A (gv_W cI h0 h1 h2 f h) := hD
  refine lv_iload_n hx hb dX0_hasLeafAt_5 rfl (lv_at hl 2 rfl) ?_
  refine lv_ishr hx hb dX0_hasLeafAt_6 ?_
  refine lv_iconst (v := 1) hx hb dX0_hasLeafAt_7 (by decide) ?_
  refine lv_iand hx hb dX0_hasLeafAt_8 ?_
  refine lv_iconst (v := 1) hx hb dX0_hasLeafAt_9 (by decide) ?_
  refine lv_icmp_ne (tgt := 17) hx hb dX0_hasLeafAt_10 (by decide) (fun cd10 => ?_) (fun cd10 => ?_)
  · have he := gv_f cd10 he
    refine lv_iconst (v := 0) hx hb dX0_hasLeafAt_17 (by decide) ?_
    exact kr 0 () _ _ _ _ rfl he hP hS dX0_hasLeafAt_18
  · have he := gv_t cd10 he
    refine lv_iconst (v := 1) hx hb dX0_hasLeafAt_13 (by decide) ?_
    refine lv_goto (tgt := 18) hx hb dX0_hasLeafAt_14 (by decide) ?_
    exact kr 1 () _ _ _ _ rfl he hP hS dX0_hasLeafAt_18
def spX0_isBareAt (f : Nat → Int32) (h : Nat → Int32) (p1 : Int32) (p2 : Int32) : Int32 := gv_b (spX0_hasLeafAt f h p1 p2) (fun q3 => (if q3 = 0 then gv_b (spX0_hasCutAt f h p1 p2) (fun q12 => (if q12 = 0 then 1 else 0)) else 0))
theorem spX0_isBareAt_e (f : Nat → Int32) (h : Nat → Int32) (p1 : Int32) (p2 : Int32) : spX0_isBareAt f h p1 p2 = gv_b (spX0_hasLeafAt f h p1 p2) (fun q3 => (if q3 = 0 then gv_b (spX0_hasCutAt f h p1 p2) (fun q12 => (if q12 = 0 then 1 else 0)) else 0)) := rfl
set_option maxHeartbeats 4000000 in
set_option maxRecDepth 100000 in
theorem kX0_isBareAt (l : Launch) (dC : Nat → ClassId) (dI : Nat → Nat → Nat) (cI cL : ClassId) (h0 : Nat) (h1 : Nat) (h2 : Nat) (f : Nat → Int32) (h : Nat → Int32) (p1 : Int32) (p2 : Int32) : gv_Mi l yX0_isBareAt wsX0_isBareAt 2 43 (dC, dI) [(cI, .int), (cL, .long)] [.ref h0, .int p1, .int p2] (gv_W cI h0 h1 h2 f h) (fun (r : Int32) (_ : Unit) => r = spX0_isBareAt f h p1 p2) (fun (_ : Unit) => (gv_W cI h0 h1 h2 f h)) := by
  refine gv_ofz (cc := cX0_isBareAt) (maxL := 3) (own := RX0) (ty := .boolean) (by decide) rfl (Nat.le_of_ble_eq_true rfl) rfl ?_
  intro A p e s m args below meth c Q ls H locs hx hb hml hts hown hP hK hD hN hS hl kr
  have inX0 : ∀ w ∈ wsX00, w ∈ wsX0_isBareAt := (fun _ h => List.mem_cons_of_mem _ (List.mem_append_right _ h))
  have hl : lv_has ls 3 [(0, .ref h0), (1, .int p1), (2, .int p2)] := hl
  have he := (spX0_isBareAt_e f h p1 p2).symm
  refine lv_aload_n hx hb dX0_isBareAt_0 rfl (lv_at hl 0 rfl) ?_
  refine lv_iload_n hx hb dX0_isBareAt_1 rfl (lv_at hl 1 rfl) ?_
  refine lv_iload_n hx hb dX0_isBareAt_2 rfl (lv_at hl 2 rfl) ?_
  have hPc : va_P (dC, dI) vwCl (gv_W cI h0 h1 h2 f h) H := gv_sub [0, 1, 2] hP rfl
  have hDc : va_D (gv_in (gv_W cI h0 h1 h2 f h)) (gv_W cI h0 h1 h2 f h) := gv_D hD [0, 1, 2] (by decide) rfl
  refine gv_ki (wf := (fun (_ : Unit) => (gv_W cI h0 h1 h2 f h))) (wc := (gv_W cI h0 h1 h2 f h)) [0, 1, 2] (fun _ => rfl) hP hD hS rfl rfl (va_runV (As := [.int p1, .int p2]) (rest := []) ⟨hx, hb, hml, hown, hts⟩ (kX0_hasLeafAt l dC dI cI cL h0 h1 h2 f h p1 p2 (gv_in (gv_W cI h0 h1 h2 f h))) (cwV (rm := gv_R 1 21) 2 hts gX0_isBareAt_X0_hasLeafAt rfl rfl rfl (by decide +kernel) ⟨Nat.le_of_ble_eq_true rfl, Nat.le_of_ble_eq_true rfl⟩) (gv_preV (ci := 0) hK hPc hDc hN rfl rfl) rfl rfl hl.1 rfl (lv_room (Nat.le_of_ble_eq_true rfl)) dX0_isBareAt_3 ⟨Nat.zero_le _, Nat.zero_le _⟩) (fun q3 u H locs hw hP hD hS => ?_)
  have he := gv_q hw he
  have hP : va_P (dC, dI) vwCl (gv_W cI h0 h1 h2 f h) H := hP
  have hD : va_D A (gv_W cI h0 h1 h2 f h) := hD
  refine lv_if_ne (tgt := 22) hx hb dX0_isBareAt_6 (by decide) (fun cd6 => ?_) (fun cd6 => ?_)
  · have he := gv_f cd6 he
    refine lv_iconst (v := 0) hx hb dX0_isBareAt_22 (by decide) ?_
    exact kr 0 () _ _ _ _ rfl he hP hS dX0_isBareAt_23
  · have he := gv_t cd6 he
    refine lv_aload_n hx hb dX0_isBareAt_9 rfl (lv_at hl 0 rfl) ?_
    refine lv_iload_n hx hb dX0_isBareAt_10 rfl (lv_at hl 1 rfl) ?_
    refine lv_iload_n hx hb dX0_isBareAt_11 rfl (lv_at hl 2 rfl) ?_
    have hPc : va_P (dC, dI) vwCl (gv_W cI h0 h1 h2 f h) H := gv_sub [0, 1, 2] hP rfl
    have hDc : va_D (gv_in (gv_W cI h0 h1 h2 f h)) (gv_W cI h0 h1 h2 f h) := gv_D hD [0, 1, 2] (by decide) rfl
    refine gv_ki (wf := (fun (_ : Unit) => (gv_W cI h0 h1 h2 f h))) (wc := (gv_W cI h0 h1 h2 f h)) [0, 1, 2] (fun _ => rfl) hP hD hS rfl rfl (va_runV (As := [.int p1, .int p2]) (rest := []) ⟨hx, hb, hml, hown, hts⟩ (kX0_hasCutAt l dC dI cI cL h0 h1 h2 f h p1 p2 (gv_in (gv_W cI h0 h1 h2 f h))) (cwV (rm := gv_R 0 0) 2 hts gX0_isBareAt_X0_hasCutAt rfl rfl rfl (by decide +kernel) ⟨Nat.le_of_ble_eq_true rfl, Nat.le_of_ble_eq_true rfl⟩) (gv_preV (ci := 0) hK hPc hDc hN rfl rfl) rfl rfl hl.1 rfl (lv_room (Nat.le_of_ble_eq_true rfl)) dX0_isBareAt_12 ⟨Nat.zero_le _, Nat.zero_le _⟩) (fun q12 u H locs hw hP hD hS => ?_)
    have he := gv_q hw he
    have hP : va_P (dC, dI) vwCl (gv_W cI h0 h1 h2 f h) H := hP
    have hD : va_D A (gv_W cI h0 h1 h2 f h) := hD
    refine lv_if_ne (tgt := 22) hx hb dX0_isBareAt_15 (by decide) (fun cd15 => ?_) (fun cd15 => ?_)
    · have he := gv_f cd15 he
      refine lv_iconst (v := 0) hx hb dX0_isBareAt_22 (by decide) ?_
      exact kr 0 () _ _ _ _ rfl he hP hS dX0_isBareAt_23
    · have he := gv_t cd15 he
      refine lv_iconst (v := 1) hx hb dX0_isBareAt_18 (by decide) ?_
      refine lv_goto (tgt := 23) hx hb dX0_isBareAt_19 (by decide) ?_
      exact kr 1 () _ _ _ _ rfl he hP hS dX0_isBareAt_23
def spX0_countHolders (p0 : Int32) : Int32 := gv_b (spJ6_bitCount_0f7a4 (p0 &&& 7)) (fun q4 => q4)
theorem spX0_countHolders_e (p0 : Int32) : spX0_countHolders p0 = gv_b (spJ6_bitCount_0f7a4 (p0 &&& 7)) (fun q4 => q4) := rfl
set_option maxHeartbeats 4000000 in
set_option maxRecDepth 100000 in
theorem kX0_countHolders (l : Launch) (dC : Nat → ClassId) (dI : Nat → Nat → Nat) (cI cL : ClassId)   (p0 : Int32) : gv_Mi l yX0_countHolders wsX0_countHolders 1 20 (dC, dI) [(cI, .int), (cL, .long)] [.int p0] ([] : va_W) (fun (r : Int32) (_ : Unit) => r = spX0_countHolders p0) (fun (_ : Unit) => ([] : va_W)) := by
  refine gv_ofi (cc := cX0_countHolders) (maxL := 1) (own := RX0) (by decide) rfl (Nat.le_of_ble_eq_true rfl) rfl ?_
  intro A p e s m args below meth c Q ls H locs hx hb hml hts hown hP hK hD hN hS hl kr
  have hl : lv_has ls 1 [(0, .int p0)] := hl
  have he := (spX0_countHolders_e p0).symm
  refine lv_iload_n hx hb dX0_countHolders_0 rfl (lv_at hl 0 rfl) ?_
  refine lv_bipush (v := 7) hx hb dX0_countHolders_1 (by decide) ?_
  refine lv_iand hx hb dX0_countHolders_3 ?_
  have hPc : va_P (dC, dI) vwCl ([] : va_W) H := gv_P0
  have hDc : va_D (gv_in ([] : va_W)) ([] : va_W) := gv_D0
  refine gv_ki (wf := (fun (_ : Unit) => ([] : va_W))) (wc := ([] : va_W)) [] (fun _ => rfl) hP hD hS rfl rfl (va_runS (As := [.int (p0 &&& 7)]) (rest := []) ⟨hx, hb, hml, hown, hts⟩ (kJ6_bitCount_0f7a4 l dC dI cI cL (p0 &&& 7) (gv_in ([] : va_W))) (va_cwS (rm := gv_R 0 0) 1 hts gX0_countHolders_J6_bitCount_0f7a4 rfl rfl rfl (by decide +kernel) ⟨Nat.le_of_ble_eq_true rfl, Nat.le_of_ble_eq_true rfl⟩) (gv_preS hK hPc hDc hN) rfl rfl hl.1 rfl (lv_room (Nat.le_of_ble_eq_true rfl)) dX0_countHolders_4 ⟨Nat.zero_le _, Nat.zero_le _⟩) (fun q4 u H locs hw hP hD hS => ?_)
  have he := gv_q hw he
  have hP : va_P (dC, dI) vwCl ([] : va_W) H := hP
  have hD : va_D A ([] : va_W) := hD
  exact kr q4 () _ _ _ _ he hP hS dX0_countHolders_7
def spX0_countNeighbours (p0 : Int32) (p1 : Int32) (p2 : Int32) : Int32 := gv_b (spJ6_bitCount_0f7a4 (p0 &&& 7)) (fun q4 => gv_b (spJ6_bitCount_0f7a4 (p1 &&& 5)) (fun q10 => gv_b (spJ6_bitCount_0f7a4 (p2 &&& 7)) (fun q18 => (q4 + q10) + q18)))
theorem spX0_countNeighbours_e (p0 : Int32) (p1 : Int32) (p2 : Int32) : spX0_countNeighbours p0 p1 p2 = gv_b (spJ6_bitCount_0f7a4 (p0 &&& 7)) (fun q4 => gv_b (spJ6_bitCount_0f7a4 (p1 &&& 5)) (fun q10 => gv_b (spJ6_bitCount_0f7a4 (p2 &&& 7)) (fun q18 => (q4 + q10) + q18))) := rfl
set_option maxHeartbeats 4000000 in
set_option maxRecDepth 100000 in
theorem kX0_countNeighbours (l : Launch) (dC : Nat → ClassId) (dI : Nat → Nat → Nat) (cI cL : ClassId)   (p0 : Int32) (p1 : Int32) (p2 : Int32) : gv_Mi l yX0_countNeighbours wsX0_countNeighbours 1 20 (dC, dI) [(cI, .int), (cL, .long)] [.int p0, .int p1, .int p2] ([] : va_W) (fun (r : Int32) (_ : Unit) => r = spX0_countNeighbours p0 p1 p2) (fun (_ : Unit) => ([] : va_W)) := by
  refine gv_ofi (cc := cX0_countNeighbours) (maxL := 3) (own := RX0) (by decide) rfl (Nat.le_of_ble_eq_true rfl) rfl ?_
  intro A p e s m args below meth c Q ls H locs hx hb hml hts hown hP hK hD hN hS hl kr
  have hl : lv_has ls 3 [(0, .int p0), (1, .int p1), (2, .int p2)] := hl
  have he := (spX0_countNeighbours_e p0 p1 p2).symm
  refine lv_iload_n hx hb dX0_countNeighbours_0 rfl (lv_at hl 0 rfl) ?_
  refine lv_bipush (v := 7) hx hb dX0_countNeighbours_1 (by decide) ?_
  refine lv_iand hx hb dX0_countNeighbours_3 ?_
  have hPc : va_P (dC, dI) vwCl ([] : va_W) H := gv_P0
  have hDc : va_D (gv_in ([] : va_W)) ([] : va_W) := gv_D0
  refine gv_ki (wf := (fun (_ : Unit) => ([] : va_W))) (wc := ([] : va_W)) [] (fun _ => rfl) hP hD hS rfl rfl (va_runS (As := [.int (p0 &&& 7)]) (rest := []) ⟨hx, hb, hml, hown, hts⟩ (kJ6_bitCount_0f7a4 l dC dI cI cL (p0 &&& 7) (gv_in ([] : va_W))) (va_cwS (rm := gv_R 0 0) 1 hts gX0_countNeighbours_J6_bitCount_0f7a4 rfl rfl rfl (by decide +kernel) ⟨Nat.le_of_ble_eq_true rfl, Nat.le_of_ble_eq_true rfl⟩) (gv_preS hK hPc hDc hN) rfl rfl hl.1 rfl (lv_room (Nat.le_of_ble_eq_true rfl)) dX0_countNeighbours_4 ⟨Nat.zero_le _, Nat.zero_le _⟩) (fun q4 u H locs hw hP hD hS => ?_)
  have he := gv_q hw he
  have hP : va_P (dC, dI) vwCl ([] : va_W) H := hP
  have hD : va_D A ([] : va_W) := hD
  refine lv_iload_n hx hb dX0_countNeighbours_7 rfl (lv_at hl 1 rfl) ?_
  refine lv_iconst (v := 5) hx hb dX0_countNeighbours_8 (by decide) ?_
  refine lv_iand hx hb dX0_countNeighbours_9 ?_
  have hPc : va_P (dC, dI) vwCl ([] : va_W) H := gv_P0
  have hDc : va_D (gv_in ([] : va_W)) ([] : va_W) := gv_D0
  refine gv_ki (wf := (fun (_ : Unit) => ([] : va_W))) (wc := ([] : va_W)) [] (fun _ => rfl) hP hD hS rfl rfl (va_runS (As := [.int (p1 &&& 5)]) (rest := [.int q4]) ⟨hx, hb, hml, hown, hts⟩ (kJ6_bitCount_0f7a4 l dC dI cI cL (p1 &&& 5) (gv_in ([] : va_W))) (va_cwS (rm := gv_R 0 0) 1 hts gX0_countNeighbours_J6_bitCount_0f7a4 rfl rfl rfl (by decide +kernel) ⟨Nat.le_of_ble_eq_true rfl, Nat.le_of_ble_eq_true rfl⟩) (gv_preS hK hPc hDc hN) rfl rfl hl.1 rfl (lv_room (Nat.le_of_ble_eq_true rfl)) dX0_countNeighbours_10 ⟨Nat.zero_le _, Nat.zero_le _⟩) (fun q10 u H locs hw hP hD hS => ?_)
  have he := gv_q hw he
  have hP : va_P (dC, dI) vwCl ([] : va_W) H := hP
  have hD : va_D A ([] : va_W) := hD
  refine lv_iadd hx hb dX0_countNeighbours_13 ?_
  refine lv_iload_n hx hb dX0_countNeighbours_14 rfl (lv_at hl 2 rfl) ?_
  refine lv_bipush (v := 7) hx hb dX0_countNeighbours_15 (by decide) ?_
  refine lv_iand hx hb dX0_countNeighbours_17 ?_
  have hPc : va_P (dC, dI) vwCl ([] : va_W) H := gv_P0
  have hDc : va_D (gv_in ([] : va_W)) ([] : va_W) := gv_D0
  refine gv_ki (wf := (fun (_ : Unit) => ([] : va_W))) (wc := ([] : va_W)) [] (fun _ => rfl) hP hD hS rfl rfl (va_runS (As := [.int (p2 &&& 7)]) (rest := [.int (q4 + q10)]) ⟨hx, hb, hml, hown, hts⟩ (kJ6_bitCount_0f7a4 l dC dI cI cL (p2 &&& 7) (gv_in ([] : va_W))) (va_cwS (rm := gv_R 0 0) 1 hts gX0_countNeighbours_J6_bitCount_0f7a4 rfl rfl rfl (by decide +kernel) ⟨Nat.le_of_ble_eq_true rfl, Nat.le_of_ble_eq_true rfl⟩) (gv_preS hK hPc hDc hN) rfl rfl hl.1 rfl (lv_room (Nat.le_of_ble_eq_true rfl)) dX0_countNeighbours_18 ⟨Nat.zero_le _, Nat.zero_le _⟩) (fun q18 u H locs hw hP hD hS => ?_)
  have he := gv_q hw he
  have hP : va_P (dC, dI) vwCl ([] : va_W) H := hP
  have hD : va_D A ([] : va_W) := hD
  refine lv_iadd hx hb dX0_countNeighbours_21 ?_
  exact kr ((q4 + q10) + q18) () _ _ _ _ he hP hS dX0_countNeighbours_22
def spX0_leafRowAsSeen (f : Nat → Int32) (h : Nat → Int32) (p1 : Int32) (p2 : Int32) : Int32 := gv_b (spX0_leafRow f h p1) (fun q2 => (if p2 = 1 then gv_b ((q2 <<< ((1 : Int32) &&& 31)) ||| (((q2 >>> ((11 : Int32) &&& 31)) &&& 1) ||| ((q2 &&& 1) <<< ((13 : Int32) &&& 31)))) (fun y40 => y40) else (if p2 = 2 then gv_b ((q2 <<< ((1 : Int32) &&& 31)) ||| ((q2 &&& 1) ||| (((q2 >>> ((11 : Int32) &&& 31)) &&& 1) <<< ((13 : Int32) &&& 31)))) (fun y61 => y61) else q2 <<< ((1 : Int32) &&& 31))))
theorem spX0_leafRowAsSeen_e (f : Nat → Int32) (h : Nat → Int32) (p1 : Int32) (p2 : Int32) : spX0_leafRowAsSeen f h p1 p2 = gv_b (spX0_leafRow f h p1) (fun q2 => (if p2 = 1 then gv_b ((q2 <<< ((1 : Int32) &&& 31)) ||| (((q2 >>> ((11 : Int32) &&& 31)) &&& 1) ||| ((q2 &&& 1) <<< ((13 : Int32) &&& 31)))) (fun y40 => y40) else (if p2 = 2 then gv_b ((q2 <<< ((1 : Int32) &&& 31)) ||| ((q2 &&& 1) ||| (((q2 >>> ((11 : Int32) &&& 31)) &&& 1) <<< ((13 : Int32) &&& 31)))) (fun y61 => y61) else q2 <<< ((1 : Int32) &&& 31)))) := rfl
set_option maxHeartbeats 4000000 in
set_option maxRecDepth 100000 in
theorem kX0_leafRowAsSeen (l : Launch) (dC : Nat → ClassId) (dI : Nat → Nat → Nat) (cI cL : ClassId) (h0 : Nat) (h1 : Nat) (h2 : Nat) (f : Nat → Int32) (h : Nat → Int32) (p1 : Int32) (p2 : Int32) : gv_Mi l yX0_leafRowAsSeen wsX0_leafRowAsSeen 1 21 (dC, dI) [(cI, .int), (cL, .long)] [.ref h0, .int p1, .int p2] (gv_W cI h0 h1 h2 f h) (fun (r : Int32) (_ : Unit) => r = spX0_leafRowAsSeen f h p1 p2) (fun (_ : Unit) => (gv_W cI h0 h1 h2 f h)) := by
  refine gv_ofi (cc := cX0_leafRowAsSeen) (maxL := 7) (own := RX0) (by decide) rfl (Nat.le_of_ble_eq_true rfl) rfl ?_
  intro A p e s m args below meth c Q ls H locs hx hb hml hts hown hP hK hD hN hS hl kr
  have inX0 : ∀ w ∈ wsX00, w ∈ wsX0_leafRowAsSeen := (fun _ h => List.mem_cons_of_mem _ (List.mem_append_right _ h))
  have hl : lv_has ls 7 [(0, .ref h0), (1, .int p1), (2, .int p2)] := hl
  have he := (spX0_leafRowAsSeen_e f h p1 p2).symm
  refine lv_aload_n hx hb dX0_leafRowAsSeen_0 rfl (lv_at hl 0 rfl) ?_
  refine lv_iload_n hx hb dX0_leafRowAsSeen_1 rfl (lv_at hl 1 rfl) ?_
  have hPc : va_P (dC, dI) vwCl (gv_W cI h0 h1 h2 f h) H := gv_sub [0, 1, 2] hP rfl
  have hDc : va_D (gv_in (gv_W cI h0 h1 h2 f h)) (gv_W cI h0 h1 h2 f h) := gv_D hD [0, 1, 2] (by decide) rfl
  refine gv_ki (wf := (fun (_ : Unit) => (gv_W cI h0 h1 h2 f h))) (wc := (gv_W cI h0 h1 h2 f h)) [0, 1, 2] (fun _ => rfl) hP hD hS rfl rfl (va_runV (As := [.int p1]) (rest := []) ⟨hx, hb, hml, hown, hts⟩ (kX0_leafRow l dC dI cI cL h0 h1 h2 f h p1 (gv_in (gv_W cI h0 h1 h2 f h))) (cwV (rm := gv_R 0 0) 1 hts gX0_leafRowAsSeen_X0_leafRow rfl rfl rfl (by decide +kernel) ⟨Nat.le_of_ble_eq_true rfl, Nat.le_of_ble_eq_true rfl⟩) (gv_preV (ci := 0) hK hPc hDc hN rfl rfl) rfl rfl hl.1 rfl (lv_room (Nat.le_of_ble_eq_true rfl)) dX0_leafRowAsSeen_2 ⟨Nat.zero_le _, Nat.zero_le _⟩) (fun q2 u H locs hw hP hD hS => ?_)
  have he := gv_q hw he
  have hP : va_P (dC, dI) vwCl (gv_W cI h0 h1 h2 f h) H := hP
  have hD : va_D A (gv_W cI h0 h1 h2 f h) := hD
  refine lv_istore_n (lv' := [(3, .int q2), (0, .ref h0), (1, .int p1), (2, .int p2)]) hx hb dX0_leafRowAsSeen_5 rfl hl (by decide) rfl (fun ls hl => ?_)
  refine lv_iload_n hx hb dX0_leafRowAsSeen_6 rfl (lv_at hl 0 rfl) ?_
  refine lv_iconst (v := 1) hx hb dX0_leafRowAsSeen_7 (by decide) ?_
  refine lv_iand hx hb dX0_leafRowAsSeen_8 ?_
  refine lv_istore (lv' := [(4, .int (q2 &&& 1)), (3, .int q2), (0, .ref h0), (1, .int p1), (2, .int p2)]) hx hb dX0_leafRowAsSeen_9 hl (by decide) rfl (fun ls hl => ?_)
  refine lv_iload_n hx hb dX0_leafRowAsSeen_11 rfl (lv_at hl 1 rfl) ?_
  refine lv_bipush (v := 11) hx hb dX0_leafRowAsSeen_12 (by decide) ?_
  refine lv_ishr hx hb dX0_leafRowAsSeen_14 ?_
  refine lv_iconst (v := 1) hx hb dX0_leafRowAsSeen_15 (by decide) ?_
  refine lv_iand hx hb dX0_leafRowAsSeen_16 ?_
  refine lv_istore (lv' := [(5, .int ((q2 >>> ((11 : Int32) &&& 31)) &&& 1)), (4, .int (q2 &&& 1)), (3, .int q2), (0, .ref h0), (1, .int p1), (2, .int p2)]) hx hb dX0_leafRowAsSeen_17 hl (by decide) rfl (fun ls hl => ?_)
  refine lv_iload_n hx hb dX0_leafRowAsSeen_19 rfl (lv_at hl 2 rfl) ?_
  refine lv_iconst (v := 1) hx hb dX0_leafRowAsSeen_20 (by decide) ?_
  refine lv_ishl hx hb dX0_leafRowAsSeen_21 ?_
  refine lv_istore (lv' := [(6, .int (q2 <<< ((1 : Int32) &&& 31))), (5, .int ((q2 >>> ((11 : Int32) &&& 31)) &&& 1)), (4, .int (q2 &&& 1)), (3, .int q2), (0, .ref h0), (1, .int p1), (2, .int p2)]) hx hb dX0_leafRowAsSeen_22 hl (by decide) rfl (fun ls hl => ?_)
  refine lv_iload_n hx hb dX0_leafRowAsSeen_24 rfl (lv_at hl 6 rfl) ?_
  refine lv_iconst (v := 1) hx hb dX0_leafRowAsSeen_25 (by decide) ?_
  refine lv_icmp_ne (tgt := 45) hx hb dX0_leafRowAsSeen_26 (by decide) (fun cd26 => ?_) (fun cd26 => ?_)
  · have he := gv_f cd26 he
    refine lv_iload_n hx hb dX0_leafRowAsSeen_45 rfl (lv_at hl 6 rfl) ?_
    refine lv_iconst (v := 2) hx hb dX0_leafRowAsSeen_46 (by decide) ?_
    refine lv_icmp_ne (tgt := 63) hx hb dX0_leafRowAsSeen_47 (by decide) (fun cd47 => ?_) (fun cd47 => ?_)
    · have he := gv_f cd47 he
      refine lv_iload hx hb dX0_leafRowAsSeen_63 (lv_at hl 0 rfl) ?_
      exact kr (q2 <<< ((1 : Int32) &&& 31)) () _ _ _ _ he hP hS dX0_leafRowAsSeen_65
    · have he := gv_t cd47 he
      refine lv_iload hx hb dX0_leafRowAsSeen_50 (lv_at hl 0 rfl) ?_
      refine lv_iload hx hb dX0_leafRowAsSeen_52 (lv_at hl 2 rfl) ?_
      refine lv_iload hx hb dX0_leafRowAsSeen_54 (lv_at hl 1 rfl) ?_
      refine lv_bipush (v := 13) hx hb dX0_leafRowAsSeen_56 (by decide) ?_
      refine lv_ishl hx hb dX0_leafRowAsSeen_58 ?_
      refine lv_ior hx hb dX0_leafRowAsSeen_59 ?_
      refine lv_ior hx hb dX0_leafRowAsSeen_60 ?_
      refine lv_topi (fun y61 ey61 => ?_)
      have he := gv_q ey61 he
      refine lv_istore (lv' := [(6, .int y61), (5, .int ((q2 >>> ((11 : Int32) &&& 31)) &&& 1)), (4, .int (q2 &&& 1)), (3, .int q2), (0, .ref h0), (1, .int p1), (2, .int p2)]) hx hb dX0_leafRowAsSeen_61 hl (by decide) rfl (fun ls hl => ?_)
      refine lv_iload hx hb dX0_leafRowAsSeen_63 (lv_at hl 0 rfl) ?_
      exact kr y61 () _ _ _ _ he hP hS dX0_leafRowAsSeen_65
  · have he := gv_t cd26 he
    refine lv_iload hx hb dX0_leafRowAsSeen_29 (lv_at hl 0 rfl) ?_
    refine lv_iload hx hb dX0_leafRowAsSeen_31 (lv_at hl 1 rfl) ?_
    refine lv_iload hx hb dX0_leafRowAsSeen_33 (lv_at hl 2 rfl) ?_
    refine lv_bipush (v := 13) hx hb dX0_leafRowAsSeen_35 (by decide) ?_
    refine lv_ishl hx hb dX0_leafRowAsSeen_37 ?_
    refine lv_ior hx hb dX0_leafRowAsSeen_38 ?_
    refine lv_ior hx hb dX0_leafRowAsSeen_39 ?_
    refine lv_topi (fun y40 ey40 => ?_)
    have he := gv_q ey40 he
    refine lv_istore (lv' := [(6, .int y40), (5, .int ((q2 >>> ((11 : Int32) &&& 31)) &&& 1)), (4, .int (q2 &&& 1)), (3, .int q2), (0, .ref h0), (1, .int p1), (2, .int p2)]) hx hb dX0_leafRowAsSeen_40 hl (by decide) rfl (fun ls hl => ?_)
    refine lv_goto (tgt := 63) hx hb dX0_leafRowAsSeen_42 (by decide) ?_
    refine lv_iload hx hb dX0_leafRowAsSeen_63 (lv_at hl 0 rfl) ?_
    exact kr y40 () _ _ _ _ he hP hS dX0_leafRowAsSeen_65
def spX0_holdersAt (f : Nat → Int32) (h : Nat → Int32) (p1 : Int32) (p2 : Int32) (p3 : Int32) : Int32 := gv_b (spX0_leafRowAsSeen f h (p1 - 1) p3) (fun q5 => gv_b (spX0_countHolders (q5 >>> (p2 &&& 31))) (fun q10 => q10))
theorem spX0_holdersAt_e (f : Nat → Int32) (h : Nat → Int32) (p1 : Int32) (p2 : Int32) (p3 : Int32) : spX0_holdersAt f h p1 p2 p3 = gv_b (spX0_leafRowAsSeen f h (p1 - 1) p3) (fun q5 => gv_b (spX0_countHolders (q5 >>> (p2 &&& 31))) (fun q10 => q10)) := rfl
set_option maxHeartbeats 4000000 in
set_option maxRecDepth 100000 in
theorem kX0_holdersAt (l : Launch) (dC : Nat → ClassId) (dI : Nat → Nat → Nat) (cI cL : ClassId) (h0 : Nat) (h1 : Nat) (h2 : Nat) (f : Nat → Int32) (h : Nat → Int32) (p1 : Int32) (p2 : Int32) (p3 : Int32) : gv_Mi l yX0_holdersAt wsX0_holdersAt 2 47 (dC, dI) [(cI, .int), (cL, .long)] [.ref h0, .int p1, .int p2, .int p3] (gv_W cI h0 h1 h2 f h) (fun (r : Int32) (_ : Unit) => r = spX0_holdersAt f h p1 p2 p3) (fun (_ : Unit) => (gv_W cI h0 h1 h2 f h)) := by
  refine gv_ofi (cc := cX0_holdersAt) (maxL := 4) (own := RX0) (by decide) rfl (Nat.le_of_ble_eq_true rfl) rfl ?_
  intro A p e s m args below meth c Q ls H locs hx hb hml hts hown hP hK hD hN hS hl kr
  have inX0 : ∀ w ∈ wsX00, w ∈ wsX0_holdersAt := (fun _ h => List.mem_cons_of_mem _ (List.mem_append_right _ h))
  have hl : lv_has ls 4 [(0, .ref h0), (1, .int p1), (2, .int p2), (3, .int p3)] := hl
  have he := (spX0_holdersAt_e f h p1 p2 p3).symm
  refine lv_aload_n hx hb dX0_holdersAt_0 rfl (lv_at hl 0 rfl) ?_
  refine lv_iload_n hx hb dX0_holdersAt_1 rfl (lv_at hl 1 rfl) ?_
  refine lv_iconst (v := 1) hx hb dX0_holdersAt_2 (by decide) ?_
  refine lv_isub hx hb dX0_holdersAt_3 ?_
  refine lv_iload_n hx hb dX0_holdersAt_4 rfl (lv_at hl 3 rfl) ?_
  have hPc : va_P (dC, dI) vwCl (gv_W cI h0 h1 h2 f h) H := gv_sub [0, 1, 2] hP rfl
  have hDc : va_D (gv_in (gv_W cI h0 h1 h2 f h)) (gv_W cI h0 h1 h2 f h) := gv_D hD [0, 1, 2] (by decide) rfl
  refine gv_ki (wf := (fun (_ : Unit) => (gv_W cI h0 h1 h2 f h))) (wc := (gv_W cI h0 h1 h2 f h)) [0, 1, 2] (fun _ => rfl) hP hD hS rfl rfl (va_runV (As := [.int (p1 - 1), .int p3]) (rest := []) ⟨hx, hb, hml, hown, hts⟩ (kX0_leafRowAsSeen l dC dI cI cL h0 h1 h2 f h (p1 - 1) p3 (gv_in (gv_W cI h0 h1 h2 f h))) (cwV (rm := gv_R 1 21) 2 hts gX0_holdersAt_X0_leafRowAsSeen rfl rfl rfl (by decide +kernel) ⟨Nat.le_of_ble_eq_true rfl, Nat.le_of_ble_eq_true rfl⟩) (gv_preV (ci := 0) hK hPc hDc hN rfl rfl) rfl rfl hl.1 rfl (lv_room (Nat.le_of_ble_eq_true rfl)) dX0_holdersAt_5 ⟨Nat.zero_le _, Nat.zero_le _⟩) (fun q5 u H locs hw hP hD hS => ?_)
  have he := gv_q hw he
  have hP : va_P (dC, dI) vwCl (gv_W cI h0 h1 h2 f h) H := hP
  have hD : va_D A (gv_W cI h0 h1 h2 f h) := hD
  refine lv_iload_n hx hb dX0_holdersAt_8 rfl (lv_at hl 2 rfl) ?_
  refine lv_ishr hx hb dX0_holdersAt_9 ?_
  have hPc : va_P (dC, dI) vwCl ([] : va_W) H := gv_P0
  have hDc : va_D (gv_in ([] : va_W)) ([] : va_W) := gv_D0
  refine gv_ki (wf := (fun (_ : Unit) => ([] : va_W))) (wc := ([] : va_W)) [] (fun _ => rfl) hP hD hS rfl rfl (va_runS (As := [.int (q5 >>> (p2 &&& 31))]) (rest := []) ⟨hx, hb, hml, hown, hts⟩ (kX0_countHolders l dC dI cI cL (q5 >>> (p2 &&& 31)) (gv_in ([] : va_W))) (va_cwS (rm := gv_R 1 20) 1 hts gX0_holdersAt_X0_countHolders rfl rfl rfl (by decide +kernel) ⟨Nat.le_of_ble_eq_true rfl, Nat.le_of_ble_eq_true rfl⟩) (gv_preS hK hPc hDc hN) rfl rfl hl.1 rfl (lv_room (Nat.le_of_ble_eq_true rfl)) dX0_holdersAt_10 ⟨Nat.zero_le _, Nat.zero_le _⟩) (fun q10 u H locs hw hP hD hS => ?_)
  have he := gv_q hw he
  have hP : va_P (dC, dI) vwCl (gv_W cI h0 h1 h2 f h) H := hP
  have hD : va_D A (gv_W cI h0 h1 h2 f h) := hD
  exact kr q10 () _ _ _ _ he hP hS dX0_holdersAt_13
def spX0_neighboursAt (f : Nat → Int32) (h : Nat → Int32) (p1 : Int32) (p2 : Int32) (p3 : Int32) : Int32 := gv_b (spX0_leafRowAsSeen f h (p1 - 1) p3) (fun q5 => gv_b (spX0_leafRowAsSeen f h p1 p3) (fun q13 => gv_b (spX0_leafRowAsSeen f h (p1 + 1) p3) (fun q23 => gv_b (spX0_countNeighbours (q5 >>> (p2 &&& 31)) (q13 >>> (p2 &&& 31)) (q23 >>> (p2 &&& 31))) (fun q28 => q28))))
theorem spX0_neighboursAt_e (f : Nat → Int32) (h : Nat → Int32) (p1 : Int32) (p2 : Int32) (p3 : Int32) : spX0_neighboursAt f h p1 p2 p3 = gv_b (spX0_leafRowAsSeen f h (p1 - 1) p3) (fun q5 => gv_b (spX0_leafRowAsSeen f h p1 p3) (fun q13 => gv_b (spX0_leafRowAsSeen f h (p1 + 1) p3) (fun q23 => gv_b (spX0_countNeighbours (q5 >>> (p2 &&& 31)) (q13 >>> (p2 &&& 31)) (q23 >>> (p2 &&& 31))) (fun q28 => q28)))) := rfl
set_option maxHeartbeats 4000000 in
set_option maxRecDepth 100000 in
theorem kX0_neighboursAt (l : Launch) (dC : Nat → ClassId) (dI : Nat → Nat → Nat) (cI cL : ClassId) (h0 : Nat) (h1 : Nat) (h2 : Nat) (f : Nat → Int32) (h : Nat → Int32) (p1 : Int32) (p2 : Int32) (p3 : Int32) : gv_Mi l yX0_neighboursAt wsX0_neighboursAt 2 47 (dC, dI) [(cI, .int), (cL, .long)] [.ref h0, .int p1, .int p2, .int p3] (gv_W cI h0 h1 h2 f h) (fun (r : Int32) (_ : Unit) => r = spX0_neighboursAt f h p1 p2 p3) (fun (_ : Unit) => (gv_W cI h0 h1 h2 f h)) := by
  refine gv_ofi (cc := cX0_neighboursAt) (maxL := 4) (own := RX0) (by decide) rfl (Nat.le_of_ble_eq_true rfl) rfl ?_
  intro A p e s m args below meth c Q ls H locs hx hb hml hts hown hP hK hD hN hS hl kr
  have inX0 : ∀ w ∈ wsX00, w ∈ wsX0_neighboursAt := (fun _ h => List.mem_cons_of_mem _ (List.mem_append_right _ h))
  have hl : lv_has ls 4 [(0, .ref h0), (1, .int p1), (2, .int p2), (3, .int p3)] := hl
  have he := (spX0_neighboursAt_e f h p1 p2 p3).symm
  refine lv_aload_n hx hb dX0_neighboursAt_0 rfl (lv_at hl 0 rfl) ?_
  refine lv_iload_n hx hb dX0_neighboursAt_1 rfl (lv_at hl 1 rfl) ?_
  refine lv_iconst (v := 1) hx hb dX0_neighboursAt_2 (by decide) ?_
  refine lv_isub hx hb dX0_neighboursAt_3 ?_
  refine lv_iload_n hx hb dX0_neighboursAt_4 rfl (lv_at hl 3 rfl) ?_
  have hPc : va_P (dC, dI) vwCl (gv_W cI h0 h1 h2 f h) H := gv_sub [0, 1, 2] hP rfl
  have hDc : va_D (gv_in (gv_W cI h0 h1 h2 f h)) (gv_W cI h0 h1 h2 f h) := gv_D hD [0, 1, 2] (by decide) rfl
  refine gv_ki (wf := (fun (_ : Unit) => (gv_W cI h0 h1 h2 f h))) (wc := (gv_W cI h0 h1 h2 f h)) [0, 1, 2] (fun _ => rfl) hP hD hS rfl rfl (va_runV (As := [.int (p1 - 1), .int p3]) (rest := []) ⟨hx, hb, hml, hown, hts⟩ (kX0_leafRowAsSeen l dC dI cI cL h0 h1 h2 f h (p1 - 1) p3 (gv_in (gv_W cI h0 h1 h2 f h))) (cwV (rm := gv_R 1 21) 2 hts gX0_neighboursAt_X0_leafRowAsSeen rfl rfl rfl (by decide +kernel) ⟨Nat.le_of_ble_eq_true rfl, Nat.le_of_ble_eq_true rfl⟩) (gv_preV (ci := 0) hK hPc hDc hN rfl rfl) rfl rfl hl.1 rfl (lv_room (Nat.le_of_ble_eq_true rfl)) dX0_neighboursAt_5 ⟨Nat.zero_le _, Nat.zero_le _⟩) (fun q5 u H locs hw hP hD hS => ?_)
  have he := gv_q hw he
  have hP : va_P (dC, dI) vwCl (gv_W cI h0 h1 h2 f h) H := hP
  have hD : va_D A (gv_W cI h0 h1 h2 f h) := hD
  refine lv_iload_n hx hb dX0_neighboursAt_8 rfl (lv_at hl 2 rfl) ?_
  refine lv_ishr hx hb dX0_neighboursAt_9 ?_
  refine lv_aload_n hx hb dX0_neighboursAt_10 rfl (lv_at hl 0 rfl) ?_
  refine lv_iload_n hx hb dX0_neighboursAt_11 rfl (lv_at hl 1 rfl) ?_
  refine lv_iload_n hx hb dX0_neighboursAt_12 rfl (lv_at hl 3 rfl) ?_
  have hPc : va_P (dC, dI) vwCl (gv_W cI h0 h1 h2 f h) H := gv_sub [0, 1, 2] hP rfl
  have hDc : va_D (gv_in (gv_W cI h0 h1 h2 f h)) (gv_W cI h0 h1 h2 f h) := gv_D hD [0, 1, 2] (by decide) rfl
  refine gv_ki (wf := (fun (_ : Unit) => (gv_W cI h0 h1 h2 f h))) (wc := (gv_W cI h0 h1 h2 f h)) [0, 1, 2] (fun _ => rfl) hP hD hS rfl rfl (va_runV (As := [.int p1, .int p3]) (rest := [.int (q5 >>> (p2 &&& 31))]) ⟨hx, hb, hml, hown, hts⟩ (kX0_leafRowAsSeen l dC dI cI cL h0 h1 h2 f h p1 p3 (gv_in (gv_W cI h0 h1 h2 f h))) (cwV (rm := gv_R 1 21) 2 hts gX0_neighboursAt_X0_leafRowAsSeen rfl rfl rfl (by decide +kernel) ⟨Nat.le_of_ble_eq_true rfl, Nat.le_of_ble_eq_true rfl⟩) (gv_preV (ci := 0) hK hPc hDc hN rfl rfl) rfl rfl hl.1 rfl (lv_room (Nat.le_of_ble_eq_true rfl)) dX0_neighboursAt_13 ⟨Nat.zero_le _, Nat.zero_le _⟩) (fun q13 u H locs hw hP hD hS => ?_)
  have he := gv_q hw he
  have hP : va_P (dC, dI) vwCl (gv_W cI h0 h1 h2 f h) H := hP
  have hD : va_D A (gv_W cI h0 h1 h2 f h) := hD
  refine lv_iload_n hx hb dX0_neighboursAt_16 rfl (lv_at hl 2 rfl) ?_
  refine lv_ishr hx hb dX0_neighboursAt_17 ?_
  refine lv_aload_n hx hb dX0_neighboursAt_18 rfl (lv_at hl 0 rfl) ?_
  refine lv_iload_n hx hb dX0_neighboursAt_19 rfl (lv_at hl 1 rfl) ?_
  refine lv_iconst (v := 1) hx hb dX0_neighboursAt_20 (by decide) ?_
  refine lv_iadd hx hb dX0_neighboursAt_21 ?_
  refine lv_iload_n hx hb dX0_neighboursAt_22 rfl (lv_at hl 3 rfl) ?_
  have hPc : va_P (dC, dI) vwCl (gv_W cI h0 h1 h2 f h) H := gv_sub [0, 1, 2] hP rfl
  have hDc : va_D (gv_in (gv_W cI h0 h1 h2 f h)) (gv_W cI h0 h1 h2 f h) := gv_D hD [0, 1, 2] (by decide) rfl
  refine gv_ki (wf := (fun (_ : Unit) => (gv_W cI h0 h1 h2 f h))) (wc := (gv_W cI h0 h1 h2 f h)) [0, 1, 2] (fun _ => rfl) hP hD hS rfl rfl (va_runV (As := [.int (p1 + 1), .int p3]) (rest := [.int (q13 >>> (p2 &&& 31)), .int (q5 >>> (p2 &&& 31))]) ⟨hx, hb, hml, hown, hts⟩ (kX0_leafRowAsSeen l dC dI cI cL h0 h1 h2 f h (p1 + 1) p3 (gv_in (gv_W cI h0 h1 h2 f h))) (cwV (rm := gv_R 1 21) 2 hts gX0_neighboursAt_X0_leafRowAsSeen rfl rfl rfl (by decide +kernel) ⟨Nat.le_of_ble_eq_true rfl, Nat.le_of_ble_eq_true rfl⟩) (gv_preV (ci := 0) hK hPc hDc hN rfl rfl) rfl rfl hl.1 rfl (lv_room (Nat.le_of_ble_eq_true rfl)) dX0_neighboursAt_23 ⟨Nat.zero_le _, Nat.zero_le _⟩) (fun q23 u H locs hw hP hD hS => ?_)
  have he := gv_q hw he
  have hP : va_P (dC, dI) vwCl (gv_W cI h0 h1 h2 f h) H := hP
  have hD : va_D A (gv_W cI h0 h1 h2 f h) := hD
  refine lv_iload_n hx hb dX0_neighboursAt_26 rfl (lv_at hl 2 rfl) ?_
  refine lv_ishr hx hb dX0_neighboursAt_27 ?_
  have hPc : va_P (dC, dI) vwCl ([] : va_W) H := gv_P0
  have hDc : va_D (gv_in ([] : va_W)) ([] : va_W) := gv_D0
  refine gv_ki (wf := (fun (_ : Unit) => ([] : va_W))) (wc := ([] : va_W)) [] (fun _ => rfl) hP hD hS rfl rfl (va_runS (As := [.int (q5 >>> (p2 &&& 31)), .int (q13 >>> (p2 &&& 31)), .int (q23 >>> (p2 &&& 31))]) (rest := []) ⟨hx, hb, hml, hown, hts⟩ (kX0_countNeighbours l dC dI cI cL (q5 >>> (p2 &&& 31)) (q13 >>> (p2 &&& 31)) (q23 >>> (p2 &&& 31)) (gv_in ([] : va_W))) (va_cwS (rm := gv_R 1 20) 3 hts gX0_neighboursAt_X0_countNeighbours rfl rfl rfl (by decide +kernel) ⟨Nat.le_of_ble_eq_true rfl, Nat.le_of_ble_eq_true rfl⟩) (gv_preS hK hPc hDc hN) rfl rfl hl.1 rfl (lv_room (Nat.le_of_ble_eq_true rfl)) dX0_neighboursAt_28 ⟨Nat.zero_le _, Nat.zero_le _⟩) (fun q28 u H locs hw hP hD hS => ?_)
  have he := gv_q hw he
  have hP : va_P (dC, dI) vwCl (gv_W cI h0 h1 h2 f h) H := hP
  have hD : va_D A (gv_W cI h0 h1 h2 f h) := hD
  exact kr q28 () _ _ _ _ he hP hS dX0_neighboursAt_31
end
section
theorem mc_isCell {r c : Nat} (hr : r < 8) (hc : c < 12) : spX1_isCell (nI r) (nI c) = 1 := by
  unfold spX1_isCell
  rw [if_neg (nI_pos (by omega)), if_neg (show ¬ (8 : Int32) ≤ nI r from nI_ge (b := 8) hr (by decide)), if_neg (nI_pos (by omega)), if_neg (show ¬ (12 : Int32) ≤ nI c from nI_ge (b := 12) hc (by decide))]
/-! what a passed test of a cell says -/
theorem gm_cell {q a b : Int32} (hq : q = spX1_isCell a b) (h : ¬ q = 0) : vp_in a 8 ∧ vp_in b 12 := by
  subst hq
  unfold spX1_isCell at h
  by_cases h1 : a < 0
  · rw [if_pos h1] at h; exact absurd rfl h
  rw [if_neg h1] at h
  by_cases h2 : (8 : Int32) ≤ a
  · rw [if_pos h2] at h; exact absurd rfl h
  rw [if_neg h2] at h
  by_cases h3 : b < 0
  · rw [if_pos h3] at h; exact absurd rfl h
  rw [if_neg h3] at h
  by_cases h4 : (12 : Int32) ≤ b
  · rw [if_pos h4] at h; exact absurd rfl h
  exact ⟨gv_in8 h1 (rfl : (8 : Int32) = nI 8) (by decide) h2, gv_in8 h3 (rfl : (12 : Int32) = nI 12) (by decide) h4⟩

def lpX0_hasCuts_4 (f_c : Nat → Int32) (h_c : Nat → Int32) : Nat → Nat → (Int32) → Int32
  | 0, _, x1_4 => (if x1_4 = 0 then 0 else 1)
  | n4 + 1, i4, x1_4 => lpX0_hasCuts_4 f_c h_c n4 (i4 + 1) (x1_4 ||| (h_c i4))
theorem lpX0_hasCuts_4_0 (f_c : Nat → Int32) (h_c : Nat → Int32) (i4 : Nat) (x1_4 : Int32) : lpX0_hasCuts_4 f_c h_c 0 i4 x1_4 = (if x1_4 = 0 then 0 else 1) := rfl
theorem lpX0_hasCuts_4_s (f_c : Nat → Int32) (h_c : Nat → Int32) (n4 : Nat) (i4 : Nat) (x1_4 : Int32) : lpX0_hasCuts_4 f_c h_c (n4 + 1) i4 x1_4 = lpX0_hasCuts_4 f_c h_c n4 (i4 + 1) (x1_4 ||| (h_c i4)) := rfl
def spX0_hasCuts (f : Nat → Int32) (h : Nat → Int32) : Int32 := lpX0_hasCuts_4 f h 8 0 0
theorem spX0_hasCuts_e (f : Nat → Int32) (h : Nat → Int32) : spX0_hasCuts f h = lpX0_hasCuts_4 f h 8 0 0 := rfl
set_option maxHeartbeats 4000000 in
set_option maxRecDepth 100000 in
theorem kX0_hasCuts (l : Launch) (dC : Nat → ClassId) (dI : Nat → Nat → Nat) (cI cL : ClassId) (h0 : Nat) (h1 : Nat) (h2 : Nat) (f : Nat → Int32) (h : Nat → Int32) : gv_Mi l yX0_hasCuts wsX0_hasCuts 0 0 (dC, dI) [(cI, .int), (cL, .long)] [.ref h0] (gv_W cI h0 h1 h2 f h) (fun (r : Int32) (_ : Unit) => r = spX0_hasCuts f h) (fun (_ : Unit) => (gv_W cI h0 h1 h2 f h)) := by
  refine gv_ofz (cc := cX0_hasCuts) (maxL := 3) (own := RX0) (ty := .boolean) (by decide) rfl (Nat.le_of_ble_eq_true rfl) rfl ?_
  intro A p e s m args below meth c Q ls H locs hx hb hml hts hown hP hK hD hN hS hl kr
  have inX0 : ∀ w ∈ wsX00, w ∈ wsX0_hasCuts := (fun _ h => List.mem_cons_of_mem _ (List.mem_append_right _ h))
  have hl : lv_has ls 3 [(0, .ref h0)] := hl
  have he := (spX0_hasCuts_e f h).symm
  refine lv_iconst (v := 0) hx hb dX0_hasCuts_0 (by decide) ?_
  refine lv_istore_n (lv' := [(1, .int 0), (0, .ref h0)]) hx hb dX0_hasCuts_1 rfl hl (by decide) rfl (fun ls hl => ?_)
  refine lv_iconst (v := 0) hx hb dX0_hasCuts_2 (by decide) ?_
  refine lv_istore_n (lv' := [(2, .int 0), (1, .int 0), (0, .ref h0)]) hx hb dX0_hasCuts_3 rfl hl (by decide) rfl (fun ls hl => ?_)
  have L4 : ∀ (n4 i4 : Nat) (x1_4 : Int32) (H : Heap) (locs : List Loc) (ls : Array Slot), i4 + n4 = 8 → lpX0_hasCuts_4 f h n4 i4 x1_4 = spX0_hasCuts f h → va_P (dC, dI) vwCl (gv_W cI h0 h1 h2 f h) H → va_D A (gv_W cI h0 h1 h2 f h) → va_S A s.heap H locs → lv_has ls 3 [(0, .ref h0), (1, .int x1_4), (2, .int (nI i4))] → W p l e (gv_R 0 0) s m args below meth c H locs 0 0 Q (F0 m 4 ls []) := by
    intro n4
    induction n4 with
    | zero =>
      intro i4 x1_4 H locs ls hi4 he hP hD hS hl
      have he := (lpX0_hasCuts_4_0 _ _ _ _).symm.trans he
      refine lv_iload_n hx hb dX0_hasCuts_4 rfl (lv_at hl 2 rfl) ?_
      refine lv_bipush (v := 8) hx hb dX0_hasCuts_5 (by decide) ?_
      refine lv_icmp_ge (tgt := 25) hx hb dX0_hasCuts_7 (by decide) (fun _ => ?_) (fun c => absurd c (gv_ge (N := 8) rfl (rfl : (8 : Int32) = nI 8) (by omega) (by omega)))
      refine lv_iload_n hx hb dX0_hasCuts_25 rfl (lv_at hl 1 rfl) ?_
      refine lv_if_eq (tgt := 33) hx hb dX0_hasCuts_26 (by decide) (fun cd26 => ?_) (fun cd26 => ?_)
      · have he := gv_t cd26 he
        refine lv_iconst (v := 0) hx hb dX0_hasCuts_33 (by decide) ?_
        exact kr 0 () _ _ _ _ rfl he hP hS dX0_hasCuts_34
      · have he := gv_f cd26 he
        refine lv_iconst (v := 1) hx hb dX0_hasCuts_29 (by decide) ?_
        refine lv_goto (tgt := 34) hx hb dX0_hasCuts_30 (by decide) ?_
        exact kr 1 () _ _ _ _ rfl he hP hS dX0_hasCuts_34
    | succ n4 ih4 =>
      intro i4 x1_4 H locs ls hi4 he hP hD hS hl
      have he := (lpX0_hasCuts_4_s _ _ _ _ _).symm.trans he
      refine lv_iload_n hx hb dX0_hasCuts_4 rfl (lv_at hl 2 rfl) ?_
      refine lv_bipush (v := 8) hx hb dX0_hasCuts_5 (by decide) ?_
      refine lv_icmp_ge (tgt := 25) hx hb dX0_hasCuts_7 (by decide) (fun c => absurd c (gv_lt (N := 8) rfl (rfl : (8 : Int32) = nI 8) (by omega) (by omega))) (fun _ => ?_)
      refine lv_iload_n hx hb dX0_hasCuts_10 rfl (lv_at hl 1 rfl) ?_
      refine lv_aload_n hx hb dX0_hasCuts_11 rfl (lv_at hl 0 rfl) ?_
      refine va_get (D := (dC, dI)) (ci := 0) (v := .ref h2) (C := RX0) (T := TX0) (N := 2) hx hb hts inX0 hown hK hP 0 rfl rfl 1 (by decide) (hts (.fieldLink RX0 15 "VineWall$Wall" "cutRows" "[I") (List.mem_of_getElem? (i := 1) rfl)) (fun _ h9 => h9) rfl dX0_hasCuts_12 ?_
      refine lv_iload_n hx hb dX0_hasCuts_15 rfl (lv_at hl 2 rfl) ?_
      refine gv_iald (cA := cI) (f := h) (k := i4) hx hb hK hP 2 0 rfl rfl rfl (by omega) (by decide) dX0_hasCuts_16 ?_
      refine lv_ior hx hb dX0_hasCuts_17 ?_
      refine lv_istore_n (lv' := [(1, .int (x1_4 ||| (h i4))), (0, .ref h0), (2, .int (nI i4))]) hx hb dX0_hasCuts_18 rfl hl (by decide) rfl (fun ls hl => ?_)
      refine lv_iinc (v := (nI (i4 + 1))) (lv' := [(2, .int (nI (i4 + 1))), (1, .int (x1_4 ||| (h i4))), (0, .ref h0)]) hx hb dX0_hasCuts_19 hl (k := 2) rfl (nI_1 i4) (by decide) rfl (fun ls hl => ?_)
      refine lv_goto (tgt := 4) hx hb dX0_hasCuts_22 (by decide) ?_
      exact ih4 (i4 + 1) (x1_4 ||| (h i4)) _ _ _ (by omega) he hP hD hS (lv_sub hl [2, 1, 0] rfl)
  exact L4 8 0 0 _ _ _ (by omega) he hP hD hS (lv_sub hl [2, 1, 0] rfl)
def spX0_putLeaf (f : Nat → Int32) (h : Nat → Int32) (p1 : Int32) (p2 : Int32) : (Nat → Int32) := gv_b (spX1_isCell p1 p2) (fun q2 => (if q2 = 0 then f else upd f p1.toNatClampNeg ((f p1.toNatClampNeg) ||| ((1 : Int32) <<< (p2 &&& 31)))))
theorem spX0_putLeaf_e (f : Nat → Int32) (h : Nat → Int32) (p1 : Int32) (p2 : Int32) : spX0_putLeaf f h p1 p2 = gv_b (spX1_isCell p1 p2) (fun q2 => (if q2 = 0 then f else upd f p1.toNatClampNeg ((f p1.toNatClampNeg) ||| ((1 : Int32) <<< (p2 &&& 31))))) := rfl
set_option maxHeartbeats 4000000 in
set_option maxRecDepth 100000 in
theorem kX0_putLeaf (l : Launch) (dC : Nat → ClassId) (dI : Nat → Nat → Nat) (cI cL : ClassId) (h0 : Nat) (h1 : Nat) (h2 : Nat) (f : Nat → Int32) (h : Nat → Int32) (p1 : Int32) (p2 : Int32) : gv_Mv l yX0_putLeaf wsX0_putLeaf 1 21 (dC, dI) [(cI, .int), (cL, .long)] [.ref h0, .int p1, .int p2] (gv_W cI h0 h1 h2 f h) (fun (u : (Nat → Int32)) => u = spX0_putLeaf f h p1 p2) (fun (u : (Nat → Int32)) => (gv_W cI h0 h1 h2 u h)) := by
  refine gv_ofv (cc := cX0_putLeaf) (maxL := 3) (own := RX0) (by decide) rfl (Nat.le_of_ble_eq_true rfl) rfl ?_
  intro A p e s m args below meth c Q ls H locs hx hb hml hts hown hP hK hD hN hS hl kr
  have inX0 : ∀ w ∈ wsX00, w ∈ wsX0_putLeaf := (fun _ h => List.mem_cons_of_mem _ (List.mem_append_right _ h))
  have hl : lv_has ls 3 [(0, .ref h0), (1, .int p1), (2, .int p2)] := hl
  have he := (spX0_putLeaf_e f h p1 p2).symm
  refine lv_iload_n hx hb dX0_putLeaf_0 rfl (lv_at hl 1 rfl) ?_
  refine lv_iload_n hx hb dX0_putLeaf_1 rfl (lv_at hl 2 rfl) ?_
  have hPc : va_P (dC, dI) vwCl ([] : va_W) H := gv_P0
  have hDc : va_D (gv_in ([] : va_W)) ([] : va_W) := gv_D0
  refine gv_ki (wf := (fun (_ : Unit) => ([] : va_W))) (wc := ([] : va_W)) [] (fun _ => rfl) hP hD hS rfl rfl (va_runSN (As := [.int p1, .int p2]) (rest := []) ⟨hx, hb, hml, hown, hts⟩ (kX1_isCell l dC dI cI cL p1 p2 (gv_in ([] : va_W))) ⟨va_cnB (rm := gv_R 0 0) 2 hts gX0_putLeaf_X1_isCell_n29 rfl rfl rfl hN.1 (hts (.initialized RX1) (List.mem_of_getElem? (i := 3) rfl)) (by decide +kernel) ⟨Nat.le_of_ble_eq_true rfl, Nat.le_of_ble_eq_true rfl⟩, hts (.static yX1_isCell) (List.mem_of_getElem? (i := 2) rfl), trivial⟩ (gv_preS hK hPc hDc hN) rfl rfl hl.1 rfl (lv_room (Nat.le_of_ble_eq_true rfl)) dX0_putLeaf_2 ⟨Nat.zero_le _, Nat.zero_le _⟩) (fun q2 u H locs hw hP hD hS => ?_)
  have he := gv_q hw he
  have hP : va_P (dC, dI) vwCl (gv_W cI h0 h1 h2 f h) H := hP
  have hD : va_D A (gv_W cI h0 h1 h2 f h) := hD
  refine lv_if_eq (tgt := 20) hx hb dX0_putLeaf_5 (by decide) (fun cd5 => ?_) (fun cd5 => ?_)
  · have he := gv_t cd5 he
    exact kr f _ _ _ _ he hP hS dX0_putLeaf_20
  · have he := gv_f cd5 he
    have hv8 := gm_cell hw cd5
    refine lv_aload_n hx hb dX0_putLeaf_8 rfl (lv_at hl 0 rfl) ?_
    refine va_get (D := (dC, dI)) (ci := 0) (v := .ref h1) (C := RX0) (T := TX0) (N := 2) hx hb hts inX0 hown hK hP 0 rfl rfl 0 (by decide) (hts (.fieldLink RX0 9 "VineWall$Wall" "leafRows" "[I") (List.mem_of_getElem? (i := 1) rfl)) (fun _ h9 => h9) rfl dX0_putLeaf_9 ?_
    refine lv_iload_n hx hb dX0_putLeaf_12 rfl (lv_at hl 1 rfl) ?_
    refine lv_dup2_11 hx hb dX0_putLeaf_13 rfl rfl ?_
    refine va_iald (cA := cI) hx hb hK hP 1 0 rfl rfl hv8.1 dX0_putLeaf_14 ?_
    refine lv_iconst (v := 1) hx hb dX0_putLeaf_15 (by decide) ?_
    refine lv_iload_n hx hb dX0_putLeaf_16 rfl (lv_at hl 2 rfl) ?_
    refine lv_ishl hx hb dX0_putLeaf_17 ?_
    refine lv_ior hx hb dX0_putLeaf_18 ?_
    refine va_iast (cA := cI) hx hb hK hP hD hS 1 0 rfl rfl hv8.1 dX0_putLeaf_19 (fun H locs hP hD hS => ?_)
    have hP : va_P (dC, dI) vwCl (gv_W cI h0 h1 h2 (upd f p1.toNatClampNeg ((f p1.toNatClampNeg) ||| ((1 : Int32) <<< (p2 &&& 31)))) h) H := hP
    have hD : va_D A (gv_W cI h0 h1 h2 (upd f p1.toNatClampNeg ((f p1.toNatClampNeg) ||| ((1 : Int32) <<< (p2 &&& 31)))) h) := hD
    exact kr (upd f p1.toNatClampNeg ((f p1.toNatClampNeg) ||| ((1 : Int32) <<< (p2 &&& 31)))) _ _ _ _ he hP hS dX0_putLeaf_20
def spX0_takeLeaf (f : Nat → Int32) (h : Nat → Int32) (p1 : Int32) (p2 : Int32) : (Nat → Int32) := gv_b (spX1_isCell p1 p2) (fun q2 => (if q2 = 0 then f else upd f p1.toNatClampNeg ((f p1.toNatClampNeg) &&& (((1 : Int32) <<< (p2 &&& 31)) ^^^ (-1)))))
theorem spX0_takeLeaf_e (f : Nat → Int32) (h : Nat → Int32) (p1 : Int32) (p2 : Int32) : spX0_takeLeaf f h p1 p2 = gv_b (spX1_isCell p1 p2) (fun q2 => (if q2 = 0 then f else upd f p1.toNatClampNeg ((f p1.toNatClampNeg) &&& (((1 : Int32) <<< (p2 &&& 31)) ^^^ (-1))))) := rfl
set_option maxHeartbeats 4000000 in
set_option maxRecDepth 100000 in
theorem kX0_takeLeaf (l : Launch) (dC : Nat → ClassId) (dI : Nat → Nat → Nat) (cI cL : ClassId) (h0 : Nat) (h1 : Nat) (h2 : Nat) (f : Nat → Int32) (h : Nat → Int32) (p1 : Int32) (p2 : Int32) : gv_Mv l yX0_takeLeaf wsX0_takeLeaf 1 21 (dC, dI) [(cI, .int), (cL, .long)] [.ref h0, .int p1, .int p2] (gv_W cI h0 h1 h2 f h) (fun (u : (Nat → Int32)) => u = spX0_takeLeaf f h p1 p2) (fun (u : (Nat → Int32)) => (gv_W cI h0 h1 h2 u h)) := by
  refine gv_ofv (cc := cX0_takeLeaf) (maxL := 3) (own := RX0) (by decide) rfl (Nat.le_of_ble_eq_true rfl) rfl ?_
  intro A p e s m args below meth c Q ls H locs hx hb hml hts hown hP hK hD hN hS hl kr
  have inX0 : ∀ w ∈ wsX00, w ∈ wsX0_takeLeaf := (fun _ h => List.mem_cons_of_mem _ (List.mem_append_right _ h))
  have hl : lv_has ls 3 [(0, .ref h0), (1, .int p1), (2, .int p2)] := hl
  have he := (spX0_takeLeaf_e f h p1 p2).symm
  refine lv_iload_n hx hb dX0_takeLeaf_0 rfl (lv_at hl 1 rfl) ?_
  refine lv_iload_n hx hb dX0_takeLeaf_1 rfl (lv_at hl 2 rfl) ?_
  have hPc : va_P (dC, dI) vwCl ([] : va_W) H := gv_P0
  have hDc : va_D (gv_in ([] : va_W)) ([] : va_W) := gv_D0
  refine gv_ki (wf := (fun (_ : Unit) => ([] : va_W))) (wc := ([] : va_W)) [] (fun _ => rfl) hP hD hS rfl rfl (va_runSN (As := [.int p1, .int p2]) (rest := []) ⟨hx, hb, hml, hown, hts⟩ (kX1_isCell l dC dI cI cL p1 p2 (gv_in ([] : va_W))) ⟨va_cnB (rm := gv_R 0 0) 2 hts gX0_takeLeaf_X1_isCell_n29 rfl rfl rfl hN.1 (hts (.initialized RX1) (List.mem_of_getElem? (i := 3) rfl)) (by decide +kernel) ⟨Nat.le_of_ble_eq_true rfl, Nat.le_of_ble_eq_true rfl⟩, hts (.static yX1_isCell) (List.mem_of_getElem? (i := 2) rfl), trivial⟩ (gv_preS hK hPc hDc hN) rfl rfl hl.1 rfl (lv_room (Nat.le_of_ble_eq_true rfl)) dX0_takeLeaf_2 ⟨Nat.zero_le _, Nat.zero_le _⟩) (fun q2 u H locs hw hP hD hS => ?_)
  have he := gv_q hw he
  have hP : va_P (dC, dI) vwCl (gv_W cI h0 h1 h2 f h) H := hP
  have hD : va_D A (gv_W cI h0 h1 h2 f h) := hD
  refine lv_if_eq (tgt := 22) hx hb dX0_takeLeaf_5 (by decide) (fun cd5 => ?_) (fun cd5 => ?_)
  · have he := gv_t cd5 he
    exact kr f _ _ _ _ he hP hS dX0_takeLeaf_22
  · have he := gv_f cd5 he
    have hv8 := gm_cell hw cd5
    refine lv_aload_n hx hb dX0_takeLeaf_8 rfl (lv_at hl 0 rfl) ?_
    refine va_get (D := (dC, dI)) (ci := 0) (v := .ref h1) (C := RX0) (T := TX0) (N := 2) hx hb hts inX0 hown hK hP 0 rfl rfl 0 (by decide) (hts (.fieldLink RX0 9 "VineWall$Wall" "leafRows" "[I") (List.mem_of_getElem? (i := 1) rfl)) (fun _ h9 => h9) rfl dX0_takeLeaf_9 ?_
    refine lv_iload_n hx hb dX0_takeLeaf_12 rfl (lv_at hl 1 rfl) ?_
    refine lv_dup2_11 hx hb dX0_takeLeaf_13 rfl rfl ?_
    refine va_iald (cA := cI) hx hb hK hP 1 0 rfl rfl hv8.1 dX0_takeLeaf_14 ?_
    refine lv_iconst (v := 1) hx hb dX0_takeLeaf_15 (by decide) ?_
    refine lv_iload_n hx hb dX0_takeLeaf_16 rfl (lv_at hl 2 rfl) ?_
    refine lv_ishl hx hb dX0_takeLeaf_17 ?_
    refine lv_iconst (v := (-1)) hx hb dX0_takeLeaf_18 (by decide) ?_
    refine lv_ixor hx hb dX0_takeLeaf_19 ?_
    refine lv_iand hx hb dX0_takeLeaf_20 ?_
    refine va_iast (cA := cI) hx hb hK hP hD hS 1 0 rfl rfl hv8.1 dX0_takeLeaf_21 (fun H locs hP hD hS => ?_)
    have hP : va_P (dC, dI) vwCl (gv_W cI h0 h1 h2 (upd f p1.toNatClampNeg ((f p1.toNatClampNeg) &&& (((1 : Int32) <<< (p2 &&& 31)) ^^^ (-1)))) h) H := hP
    have hD : va_D A (gv_W cI h0 h1 h2 (upd f p1.toNatClampNeg ((f p1.toNatClampNeg) &&& (((1 : Int32) <<< (p2 &&& 31)) ^^^ (-1)))) h) := hD
    exact kr (upd f p1.toNatClampNeg ((f p1.toNatClampNeg) &&& (((1 : Int32) <<< (p2 &&& 31)) ^^^ (-1)))) _ _ _ _ he hP hS dX0_takeLeaf_22
def spX0_cutLeaf (f : Nat → Int32) (h : Nat → Int32) (p1 : Int32) (p2 : Int32) : (Nat → Int32) × (Nat → Int32) := gv_b (spX0_takeLeaf f h p1 p2) (fun f_q3 => gv_b (spX1_isCell p1 p2) (fun q8 => (if q8 = 0 then (f_q3, h) else (f_q3, upd h p1.toNatClampNeg ((h p1.toNatClampNeg) ||| ((1 : Int32) <<< (p2 &&& 31)))))))
theorem spX0_cutLeaf_e (f : Nat → Int32) (h : Nat → Int32) (p1 : Int32) (p2 : Int32) : spX0_cutLeaf f h p1 p2 = gv_b (spX0_takeLeaf f h p1 p2) (fun f_q3 => gv_b (spX1_isCell p1 p2) (fun q8 => (if q8 = 0 then (f_q3, h) else (f_q3, upd h p1.toNatClampNeg ((h p1.toNatClampNeg) ||| ((1 : Int32) <<< (p2 &&& 31))))))) := rfl
set_option maxHeartbeats 4000000 in
set_option maxRecDepth 100000 in
theorem kX0_cutLeaf (l : Launch) (dC : Nat → ClassId) (dI : Nat → Nat → Nat) (cI cL : ClassId) (h0 : Nat) (h1 : Nat) (h2 : Nat) (f : Nat → Int32) (h : Nat → Int32) (p1 : Int32) (p2 : Int32) : gv_Mv l yX0_cutLeaf wsX0_cutLeaf 2 43 (dC, dI) [(cI, .int), (cL, .long)] [.ref h0, .int p1, .int p2] (gv_W cI h0 h1 h2 f h) (fun (u : (Nat → Int32) × (Nat → Int32)) => u = spX0_cutLeaf f h p1 p2) (fun (u : (Nat → Int32) × (Nat → Int32)) => (gv_W cI h0 h1 h2 u.1 u.2)) := by
  refine gv_ofv (cc := cX0_cutLeaf) (maxL := 3) (own := RX0) (by decide) rfl (Nat.le_of_ble_eq_true rfl) rfl ?_
  intro A p e s m args below meth c Q ls H locs hx hb hml hts hown hP hK hD hN hS hl kr
  have inX0 : ∀ w ∈ wsX00, w ∈ wsX0_cutLeaf := (fun _ h => List.mem_cons_of_mem _ (List.mem_append_right _ h))
  have hl : lv_has ls 3 [(0, .ref h0), (1, .int p1), (2, .int p2)] := hl
  have he := (spX0_cutLeaf_e f h p1 p2).symm
  refine lv_aload_n hx hb dX0_cutLeaf_0 rfl (lv_at hl 0 rfl) ?_
  refine lv_iload_n hx hb dX0_cutLeaf_1 rfl (lv_at hl 1 rfl) ?_
  refine lv_iload_n hx hb dX0_cutLeaf_2 rfl (lv_at hl 2 rfl) ?_
  have hPc : va_P (dC, dI) vwCl (gv_W cI h0 h1 h2 f h) H := gv_sub [0, 1, 2] hP rfl
  have hDc : va_D (gv_in (gv_W cI h0 h1 h2 f h)) (gv_W cI h0 h1 h2 f h) := gv_D hD [0, 1, 2] (by decide) rfl
  refine gv_kv (wf := (fun (u : (Nat → Int32)) => (gv_W cI h0 h1 h2 u h))) (wc := (gv_W cI h0 h1 h2 f h)) [0, 1, 2] (fun _ => rfl) hP hD hS rfl rfl (va_runV (As := [.int p1, .int p2]) (rest := []) ⟨hx, hb, hml, hown, hts⟩ (kX0_takeLeaf l dC dI cI cL h0 h1 h2 f h p1 p2 (gv_in (gv_W cI h0 h1 h2 f h))) (cwV (rm := gv_R 1 21) 2 hts gX0_cutLeaf_X0_takeLeaf rfl rfl rfl (by decide +kernel) ⟨Nat.le_of_ble_eq_true rfl, Nat.le_of_ble_eq_true rfl⟩) (gv_preV (ci := 0) hK hPc hDc hN rfl rfl) rfl rfl hl.1 rfl (lv_room (Nat.le_of_ble_eq_true rfl)) dX0_cutLeaf_3 ⟨Nat.zero_le _, Nat.zero_le _⟩) (fun u H locs hw hP hD hS => ?_)
  obtain ⟨f_q3, rfl⟩ : ∃ z, z = u := ⟨_, rfl⟩
  have he := gv_q hw he
  have hP : va_P (dC, dI) vwCl (gv_W cI h0 h1 h2 f_q3 h) H := hP
  have hD : va_D A (gv_W cI h0 h1 h2 f_q3 h) := hD
  refine lv_iload_n hx hb dX0_cutLeaf_6 rfl (lv_at hl 1 rfl) ?_
  refine lv_iload_n hx hb dX0_cutLeaf_7 rfl (lv_at hl 2 rfl) ?_
  have hPc : va_P (dC, dI) vwCl ([] : va_W) H := gv_P0
  have hDc : va_D (gv_in ([] : va_W)) ([] : va_W) := gv_D0
  refine gv_ki (wf := (fun (_ : Unit) => ([] : va_W))) (wc := ([] : va_W)) [] (fun _ => rfl) hP hD hS rfl rfl (va_runSN (As := [.int p1, .int p2]) (rest := []) ⟨hx, hb, hml, hown, hts⟩ (kX1_isCell l dC dI cI cL p1 p2 (gv_in ([] : va_W))) ⟨va_cnB (rm := gv_R 0 0) 2 hts gX0_cutLeaf_X1_isCell_n29 rfl rfl rfl hN.1 (hts (.initialized RX1) (List.mem_of_getElem? (i := 9) rfl)) (by decide +kernel) ⟨Nat.le_of_ble_eq_true rfl, Nat.le_of_ble_eq_true rfl⟩, hts (.static yX1_isCell) (List.mem_of_getElem? (i := 8) rfl), trivial⟩ (gv_preS hK hPc hDc hN) rfl rfl hl.1 rfl (lv_room (Nat.le_of_ble_eq_true rfl)) dX0_cutLeaf_8 ⟨Nat.zero_le _, Nat.zero_le _⟩) (fun q8 u H locs hw hP hD hS => ?_)
  have he := gv_q hw he
  have hP : va_P (dC, dI) vwCl (gv_W cI h0 h1 h2 f_q3 h) H := hP
  have hD : va_D A (gv_W cI h0 h1 h2 f_q3 h) := hD
  refine lv_if_eq (tgt := 26) hx hb dX0_cutLeaf_11 (by decide) (fun cd11 => ?_) (fun cd11 => ?_)
  · have he := gv_t cd11 he
    exact kr (f_q3, h) _ _ _ _ he hP hS dX0_cutLeaf_26
  · have he := gv_f cd11 he
    have hv8 := gm_cell hw cd11
    refine lv_aload_n hx hb dX0_cutLeaf_14 rfl (lv_at hl 0 rfl) ?_
    refine va_get (D := (dC, dI)) (ci := 0) (v := .ref h2) (C := RX0) (T := TX0) (N := 2) hx hb hts inX0 hown hK hP 0 rfl rfl 1 (by decide) (hts (.fieldLink RX0 15 "VineWall$Wall" "cutRows" "[I") (List.mem_of_getElem? (i := 1) rfl)) (fun _ h9 => h9) rfl dX0_cutLeaf_15 ?_
    refine lv_iload_n hx hb dX0_cutLeaf_18 rfl (lv_at hl 1 rfl) ?_
    refine lv_dup2_11 hx hb dX0_cutLeaf_19 rfl rfl ?_
    refine va_iald (cA := cI) hx hb hK hP 2 0 rfl rfl hv8.1 dX0_cutLeaf_20 ?_
    refine lv_iconst (v := 1) hx hb dX0_cutLeaf_21 (by decide) ?_
    refine lv_iload_n hx hb dX0_cutLeaf_22 rfl (lv_at hl 2 rfl) ?_
    refine lv_ishl hx hb dX0_cutLeaf_23 ?_
    refine lv_ior hx hb dX0_cutLeaf_24 ?_
    refine va_iast (cA := cI) hx hb hK hP hD hS 2 0 rfl rfl hv8.1 dX0_cutLeaf_25 (fun H locs hP hD hS => ?_)
    have hP : va_P (dC, dI) vwCl (gv_W cI h0 h1 h2 f_q3 (upd h p1.toNatClampNeg ((h p1.toNatClampNeg) ||| ((1 : Int32) <<< (p2 &&& 31))))) H := hP
    have hD : va_D A (gv_W cI h0 h1 h2 f_q3 (upd h p1.toNatClampNeg ((h p1.toNatClampNeg) ||| ((1 : Int32) <<< (p2 &&& 31))))) := hD
    exact kr (f_q3, upd h p1.toNatClampNeg ((h p1.toNatClampNeg) ||| ((1 : Int32) <<< (p2 &&& 31)))) _ _ _ _ he hP hS dX0_cutLeaf_26
def lpX0_copyFrom_2 (f1_c : Nat → Int32) (g1_c : Nat → Int32) : Nat → Nat → (Nat → Int32) → (Nat → Int32) → (Nat → Int32) × (Nat → Int32)
  | 0, _, f_2, h_2 => (f_2, h_2)
  | n2 + 1, i2, f_2, h_2 => lpX0_copyFrom_2 f1_c g1_c n2 (i2 + 1) (upd f_2 i2 (f1_c i2)) (upd h_2 i2 (g1_c i2))
theorem lpX0_copyFrom_2_0 (f1_c : Nat → Int32) (g1_c : Nat → Int32) (i2 : Nat) (f_2 : Nat → Int32) (h_2 : Nat → Int32) : lpX0_copyFrom_2 f1_c g1_c 0 i2 f_2 h_2 = (f_2, h_2) := rfl
theorem lpX0_copyFrom_2_s (f1_c : Nat → Int32) (g1_c : Nat → Int32) (n2 : Nat) (i2 : Nat) (f_2 : Nat → Int32) (h_2 : Nat → Int32) : lpX0_copyFrom_2 f1_c g1_c (n2 + 1) i2 f_2 h_2 = lpX0_copyFrom_2 f1_c g1_c n2 (i2 + 1) (upd f_2 i2 (f1_c i2)) (upd h_2 i2 (g1_c i2)) := rfl
def spX0_copyFrom (f : Nat → Int32) (h : Nat → Int32) (f1 : Nat → Int32) (g1 : Nat → Int32) : (Nat → Int32) × (Nat → Int32) := lpX0_copyFrom_2 f1 g1 8 0 f h
theorem spX0_copyFrom_e (f : Nat → Int32) (h : Nat → Int32) (f1 : Nat → Int32) (g1 : Nat → Int32) : spX0_copyFrom f h f1 g1 = lpX0_copyFrom_2 f1 g1 8 0 f h := rfl
set_option maxHeartbeats 4000000 in
set_option maxRecDepth 100000 in
theorem kX0_copyFrom (l : Launch) (dC : Nat → ClassId) (dI : Nat → Nat → Nat) (cI cL : ClassId) (h0 : Nat) (h1 : Nat) (h2 : Nat) (k0 : Nat) (k1 : Nat) (k2 : Nat) (f : Nat → Int32) (h : Nat → Int32) (f1 : Nat → Int32) (g1 : Nat → Int32) : gv_Mv l yX0_copyFrom wsX0_copyFrom 0 0 (dC, dI) [(cI, .int), (cL, .long)] [.ref h0, .ref k0] (gv_WW cI h0 h1 h2 k0 k1 k2 f h f1 g1) (fun (u : (Nat → Int32) × (Nat → Int32)) => u = spX0_copyFrom f h f1 g1) (fun (u : (Nat → Int32) × (Nat → Int32)) => (gv_WW cI h0 h1 h2 k0 k1 k2 u.1 u.2 f1 g1)) := by
  refine gv_ofv (cc := cX0_copyFrom) (maxL := 3) (own := RX0) (by decide) rfl (Nat.le_of_ble_eq_true rfl) rfl ?_
  intro A p e s m args below meth c Q ls H locs hx hb hml hts hown hP hK hD hN hS hl kr
  have inX0 : ∀ w ∈ wsX00, w ∈ wsX0_copyFrom := (fun _ h => List.mem_cons_of_mem _ (List.mem_append_right _ h))
  have hl : lv_has ls 3 [(0, .ref h0), (1, .ref k0)] := hl
  have he := (spX0_copyFrom_e f h f1 g1).symm
  refine lv_iconst (v := 0) hx hb dX0_copyFrom_0 (by decide) ?_
  refine lv_istore_n (lv' := [(2, .int 0), (0, .ref h0), (1, .ref k0)]) hx hb dX0_copyFrom_1 rfl hl (by decide) rfl (fun ls hl => ?_)
  have L2 : ∀ (n2 i2 : Nat) (f_2 : Nat → Int32) (h_2 : Nat → Int32) (H : Heap) (locs : List Loc) (ls : Array Slot), i2 + n2 = 8 → lpX0_copyFrom_2 f1 g1 n2 i2 f_2 h_2 = spX0_copyFrom f h f1 g1 → va_P (dC, dI) vwCl (gv_WW cI h0 h1 h2 k0 k1 k2 f_2 h_2 f1 g1) H → va_D A (gv_WW cI h0 h1 h2 k0 k1 k2 f_2 h_2 f1 g1) → va_S A s.heap H locs → lv_has ls 3 [(0, .ref h0), (1, .ref k0), (2, .int (nI i2))] → W p l e (gv_R 0 0) s m args below meth c H locs 0 0 Q (F0 m 2 ls []) := by
    intro n2
    induction n2 with
    | zero =>
      intro i2 f_2 h_2 H locs ls hi2 he hP hD hS hl
      have he := (lpX0_copyFrom_2_0 _ _ _ _ _).symm.trans he
      refine lv_iload_n hx hb dX0_copyFrom_2 rfl (lv_at hl 2 rfl) ?_
      refine lv_bipush (v := 8) hx hb dX0_copyFrom_3 (by decide) ?_
      refine lv_icmp_ge (tgt := 38) hx hb dX0_copyFrom_5 (by decide) (fun _ => ?_) (fun c => absurd c (gv_ge (N := 8) rfl (rfl : (8 : Int32) = nI 8) (by omega) (by omega)))
      exact kr (f_2, h_2) _ _ _ _ he hP hS dX0_copyFrom_38
    | succ n2 ih2 =>
      intro i2 f_2 h_2 H locs ls hi2 he hP hD hS hl
      have he := (lpX0_copyFrom_2_s _ _ _ _ _ _).symm.trans he
      refine lv_iload_n hx hb dX0_copyFrom_2 rfl (lv_at hl 2 rfl) ?_
      refine lv_bipush (v := 8) hx hb dX0_copyFrom_3 (by decide) ?_
      refine lv_icmp_ge (tgt := 38) hx hb dX0_copyFrom_5 (by decide) (fun c => absurd c (gv_lt (N := 8) rfl (rfl : (8 : Int32) = nI 8) (by omega) (by omega))) (fun _ => ?_)
      refine lv_aload_n hx hb dX0_copyFrom_8 rfl (lv_at hl 0 rfl) ?_
      refine va_get (D := (dC, dI)) (ci := 0) (v := .ref h1) (C := RX0) (T := TX0) (N := 2) hx hb hts inX0 hown hK hP 0 rfl rfl 0 (by decide) (hts (.fieldLink RX0 9 "VineWall$Wall" "leafRows" "[I") (List.mem_of_getElem? (i := 1) rfl)) (fun _ h9 => h9) rfl dX0_copyFrom_9 ?_
      refine lv_iload_n hx hb dX0_copyFrom_12 rfl (lv_at hl 2 rfl) ?_
      refine lv_aload_n hx hb dX0_copyFrom_13 rfl (lv_at hl 1 rfl) ?_
      refine va_get (D := (dC, dI)) (ci := 0) (v := .ref k1) (C := RX0) (T := TX0) (N := 2) hx hb hts inX0 hown hK hP 3 rfl rfl 0 (by decide) (hts (.fieldLink RX0 9 "VineWall$Wall" "leafRows" "[I") (List.mem_of_getElem? (i := 1) rfl)) (fun _ h9 => h9) rfl dX0_copyFrom_14 ?_
      refine lv_iload_n hx hb dX0_copyFrom_17 rfl (lv_at hl 2 rfl) ?_
      refine gv_iald (cA := cI) (f := f1) (k := i2) hx hb hK hP 4 0 rfl rfl rfl (by omega) (by decide) dX0_copyFrom_18 ?_
      refine gv_iast (cA := cI) (k := i2) hx hb hK hP hD hS 1 0 rfl rfl rfl (by omega) (by decide) dX0_copyFrom_19 (fun H locs hP hD hS => ?_)
      have hP : va_P (dC, dI) vwCl (gv_WW cI h0 h1 h2 k0 k1 k2 (upd f_2 i2 (f1 i2)) h_2 f1 g1) H := hP
      have hD : va_D A (gv_WW cI h0 h1 h2 k0 k1 k2 (upd f_2 i2 (f1 i2)) h_2 f1 g1) := hD
      refine lv_aload_n hx hb dX0_copyFrom_20 rfl (lv_at hl 0 rfl) ?_
      refine va_get (D := (dC, dI)) (ci := 0) (v := .ref h2) (C := RX0) (T := TX0) (N := 2) hx hb hts inX0 hown hK hP 0 rfl rfl 1 (by decide) (hts (.fieldLink RX0 15 "VineWall$Wall" "cutRows" "[I") (List.mem_of_getElem? (i := 2) rfl)) (fun _ h9 => h9) rfl dX0_copyFrom_21 ?_
      refine lv_iload_n hx hb dX0_copyFrom_24 rfl (lv_at hl 2 rfl) ?_
      refine lv_aload_n hx hb dX0_copyFrom_25 rfl (lv_at hl 1 rfl) ?_
      refine va_get (D := (dC, dI)) (ci := 0) (v := .ref k2) (C := RX0) (T := TX0) (N := 2) hx hb hts inX0 hown hK hP 3 rfl rfl 1 (by decide) (hts (.fieldLink RX0 15 "VineWall$Wall" "cutRows" "[I") (List.mem_of_getElem? (i := 2) rfl)) (fun _ h9 => h9) rfl dX0_copyFrom_26 ?_
      refine lv_iload_n hx hb dX0_copyFrom_29 rfl (lv_at hl 2 rfl) ?_
      refine gv_iald (cA := cI) (f := g1) (k := i2) hx hb hK hP 5 0 rfl rfl rfl (by omega) (by decide) dX0_copyFrom_30 ?_
      refine gv_iast (cA := cI) (k := i2) hx hb hK hP hD hS 2 0 rfl rfl rfl (by omega) (by decide) dX0_copyFrom_31 (fun H locs hP hD hS => ?_)
      have hP : va_P (dC, dI) vwCl (gv_WW cI h0 h1 h2 k0 k1 k2 (upd f_2 i2 (f1 i2)) (upd h_2 i2 (g1 i2)) f1 g1) H := hP
      have hD : va_D A (gv_WW cI h0 h1 h2 k0 k1 k2 (upd f_2 i2 (f1 i2)) (upd h_2 i2 (g1 i2)) f1 g1) := hD
      refine lv_iinc (v := (nI (i2 + 1))) (lv' := [(2, .int (nI (i2 + 1))), (0, .ref h0), (1, .ref k0)]) hx hb dX0_copyFrom_32 hl (k := 2) rfl (nI_1 i2) (by decide) rfl (fun ls hl => ?_)
      refine lv_goto (tgt := 2) hx hb dX0_copyFrom_35 (by decide) ?_
      exact ih2 (i2 + 1) (upd f_2 i2 (f1 i2)) (upd h_2 i2 (g1 i2)) _ _ _ (by omega) he hP hD hS (lv_sub hl [1, 2, 0] rfl)
  exact L2 8 0 f h _ _ _ (by omega) he hP hD hS (lv_sub hl [1, 2, 0] rfl)
def lpX0_shadeAt_7 (b2_7 : Int32) (f_c : Nat → Int32) (h_c : Nat → Int32) : Nat → Nat → (Int32) → Int32
  | 0, _, x3_7 => x3_7
  | n7 + 1, i7, x3_7 => gv_b (spX0_leafRow f_c h_c (nI i7)) (fun q18 => lpX0_shadeAt_7 b2_7 f_c h_c n7 (i7 + 1) (x3_7 + ((q18 >>> (b2_7 &&& 31)) &&& 1)))
theorem lpX0_shadeAt_7_0 (b2_7 : Int32) (f_c : Nat → Int32) (h_c : Nat → Int32) (i7 : Nat) (x3_7 : Int32) : lpX0_shadeAt_7 b2_7 f_c h_c 0 i7 x3_7 = x3_7 := rfl
theorem lpX0_shadeAt_7_s (b2_7 : Int32) (f_c : Nat → Int32) (h_c : Nat → Int32) (n7 : Nat) (i7 : Nat) (x3_7 : Int32) : lpX0_shadeAt_7 b2_7 f_c h_c (n7 + 1) i7 x3_7 = gv_b (spX0_leafRow f_c h_c (nI i7)) (fun q18 => lpX0_shadeAt_7 b2_7 f_c h_c n7 (i7 + 1) (x3_7 + ((q18 >>> (b2_7 &&& 31)) &&& 1))) := rfl
def spX0_shadeAt (f : Nat → Int32) (h : Nat → Int32) (w1 : Nat) (p2 : Int32) : Int32 := lpX0_shadeAt_7 p2 f h (8 - w1) w1 0
theorem spX0_shadeAt_e (f : Nat → Int32) (h : Nat → Int32) (w1 : Nat) (p2 : Int32) : spX0_shadeAt f h w1 p2 = lpX0_shadeAt_7 p2 f h (8 - w1) w1 0 := rfl
set_option maxHeartbeats 4000000 in
set_option maxRecDepth 100000 in
theorem kX0_shadeAt (l : Launch) (dC : Nat → ClassId) (dI : Nat → Nat → Nat) (cI cL : ClassId) (h0 : Nat) (h1 : Nat) (h2 : Nat) (f : Nat → Int32) (h : Nat → Int32) (p1 : Int32) (w1 : Nat) (hw1 : p1 + 1 = nI w1) (p2 : Int32) (hy0 : w1 ≤ 8) : gv_Mi l yX0_shadeAt wsX0_shadeAt 1 21 (dC, dI) [(cI, .int), (cL, .long)] [.ref h0, .int p1, .int p2] (gv_W cI h0 h1 h2 f h) (fun (r : Int32) (_ : Unit) => r = spX0_shadeAt f h w1 p2) (fun (_ : Unit) => (gv_W cI h0 h1 h2 f h)) := by
  refine gv_ofi (cc := cX0_shadeAt) (maxL := 5) (own := RX0) (by decide) rfl (Nat.le_of_ble_eq_true rfl) rfl ?_
  intro A p e s m args below meth c Q ls H locs hx hb hml hts hown hP hK hD hN hS hl kr
  have inX0 : ∀ w ∈ wsX00, w ∈ wsX0_shadeAt := (fun _ h => List.mem_cons_of_mem _ (List.mem_append_right _ h))
  have hl : lv_has ls 5 [(0, .ref h0), (1, .int p1), (2, .int p2)] := hl
  have he := (spX0_shadeAt_e f h w1 p2).symm
  refine lv_iconst (v := 0) hx hb dX0_shadeAt_0 (by decide) ?_
  refine lv_istore_n (lv' := [(3, .int 0), (0, .ref h0), (1, .int p1), (2, .int p2)]) hx hb dX0_shadeAt_1 rfl hl (by decide) rfl (fun ls hl => ?_)
  refine lv_iload_n hx hb dX0_shadeAt_2 rfl (lv_at hl 2 rfl) ?_
  refine lv_iconst (v := 1) hx hb dX0_shadeAt_3 (by decide) ?_
  refine lv_iadd hx hb dX0_shadeAt_4 ?_
  refine lv_istore (lv' := [(4, .int (p1 + 1)), (3, .int 0), (0, .ref h0), (1, .int p1), (2, .int p2)]) hx hb dX0_shadeAt_5 hl (by decide) rfl (fun ls hl => ?_)
  have L7 : ∀ (n7 i7 : Nat) (x3_7 : Int32) (H : Heap) (locs : List Loc) (ls : Array Slot), w1 ≤ i7 ∧ i7 + n7 = 8 → lpX0_shadeAt_7 p2 f h n7 i7 x3_7 = spX0_shadeAt f h w1 p2 → va_P (dC, dI) vwCl (gv_W cI h0 h1 h2 f h) H → va_D A (gv_W cI h0 h1 h2 f h) → va_S A s.heap H locs → lv_has ls 5 [(0, .ref h0), (1, .int p1), (2, .int p2), (3, .int x3_7), (4, .int (nI i7))] → W p l e (gv_R 1 21) s m args below meth c H locs 0 0 Q (F0 m 7 ls []) := by
    intro n7
    induction n7 with
    | zero =>
      intro i7 x3_7 H locs ls hi7 he hP hD hS hl
      have he := (lpX0_shadeAt_7_0 _ _ _ _ _).symm.trans he
      refine lv_iload hx hb dX0_shadeAt_7 (lv_at hl 4 rfl) ?_
      refine lv_bipush (v := 8) hx hb dX0_shadeAt_9 (by decide) ?_
      refine lv_icmp_ge (tgt := 33) hx hb dX0_shadeAt_11 (by decide) (fun _ => ?_) (fun c => absurd c (gv_ge (N := 8) rfl (rfl : (8 : Int32) = nI 8) (by omega) (by omega)))
      refine lv_iload_n hx hb dX0_shadeAt_33 rfl (lv_at hl 3 rfl) ?_
      exact kr x3_7 () _ _ _ _ he hP hS dX0_shadeAt_34
    | succ n7 ih7 =>
      intro i7 x3_7 H locs ls hi7 he hP hD hS hl
      have he := (lpX0_shadeAt_7_s _ _ _ _ _ _).symm.trans he
      refine lv_iload hx hb dX0_shadeAt_7 (lv_at hl 4 rfl) ?_
      refine lv_bipush (v := 8) hx hb dX0_shadeAt_9 (by decide) ?_
      refine lv_icmp_ge (tgt := 33) hx hb dX0_shadeAt_11 (by decide) (fun c => absurd c (gv_lt (N := 8) rfl (rfl : (8 : Int32) = nI 8) (by omega) (by omega))) (fun _ => ?_)
      refine lv_iload_n hx hb dX0_shadeAt_14 rfl (lv_at hl 3 rfl) ?_
      refine lv_aload_n hx hb dX0_shadeAt_15 rfl (lv_at hl 0 rfl) ?_
      refine lv_iload hx hb dX0_shadeAt_16 (lv_at hl 4 rfl) ?_
      have hPc : va_P (dC, dI) vwCl (gv_W cI h0 h1 h2 f h) H := gv_sub [0, 1, 2] hP rfl
      have hDc : va_D (gv_in (gv_W cI h0 h1 h2 f h)) (gv_W cI h0 h1 h2 f h) := gv_D hD [0, 1, 2] (by decide) rfl
      refine gv_ki (wf := (fun (_ : Unit) => (gv_W cI h0 h1 h2 f h))) (wc := (gv_W cI h0 h1 h2 f h)) [0, 1, 2] (fun _ => rfl) hP hD hS rfl rfl (va_runV (As := [.int (nI i7)]) (rest := [.int x3_7]) ⟨hx, hb, hml, hown, hts⟩ (kX0_leafRow l dC dI cI cL h0 h1 h2 f h (nI i7) (gv_in (gv_W cI h0 h1 h2 f h))) (cwV (rm := gv_R 0 0) 1 hts gX0_shadeAt_X0_leafRow rfl rfl rfl (by decide +kernel) ⟨Nat.le_of_ble_eq_true rfl, Nat.le_of_ble_eq_true rfl⟩) (gv_preV (ci := 0) hK hPc hDc hN rfl rfl) rfl rfl hl.1 rfl (lv_room (Nat.le_of_ble_eq_true rfl)) dX0_shadeAt_18 ⟨Nat.zero_le _, Nat.zero_le _⟩) (fun q18 u H locs hw hP hD hS => ?_)
      have he := gv_q hw he
      have hP : va_P (dC, dI) vwCl (gv_W cI h0 h1 h2 f h) H := hP
      have hD : va_D A (gv_W cI h0 h1 h2 f h) := hD
      refine lv_iload_n hx hb dX0_shadeAt_21 rfl (lv_at hl 2 rfl) ?_
      refine lv_ishr hx hb dX0_shadeAt_22 ?_
      refine lv_iconst (v := 1) hx hb dX0_shadeAt_23 (by decide) ?_
      refine lv_iand hx hb dX0_shadeAt_24 ?_
      refine lv_iadd hx hb dX0_shadeAt_25 ?_
      refine lv_istore_n (lv' := [(3, .int (x3_7 + ((q18 >>> (p2 &&& 31)) &&& 1))), (0, .ref h0), (1, .int p1), (2, .int p2), (4, .int (nI i7))]) hx hb dX0_shadeAt_26 rfl hl (by decide) rfl (fun ls hl => ?_)
      refine lv_iinc (v := (nI (i7 + 1))) (lv' := [(4, .int (nI (i7 + 1))), (3, .int (x3_7 + ((q18 >>> (p2 &&& 31)) &&& 1))), (0, .ref h0), (1, .int p1), (2, .int p2)]) hx hb dX0_shadeAt_27 hl (k := 4) rfl (nI_1 i7) (by decide) rfl (fun ls hl => ?_)
      refine lv_goto (tgt := 7) hx hb dX0_shadeAt_30 (by decide) ?_
      exact ih7 (i7 + 1) (x3_7 + ((q18 >>> (p2 &&& 31)) &&& 1)) _ _ _ (by omega) he hP hD hS (lv_sub hl [2, 3, 4, 1, 0] rfl)
  rw [hw1] at hl
  exact L7 (8 - w1) w1 0 _ _ _ (by omega) he hP hD hS (lv_sub hl [2, 3, 4, 1, 0] rfl)
def spX0_countInColumn (f : Nat → Int32) (h : Nat → Int32) (p1 : Int32) : Int32 := gv_b (spX0_shadeAt f h 0 p1) (fun q3 => q3)
theorem spX0_countInColumn_e (f : Nat → Int32) (h : Nat → Int32) (p1 : Int32) : spX0_countInColumn f h p1 = gv_b (spX0_shadeAt f h 0 p1) (fun q3 => q3) := rfl
set_option maxHeartbeats 4000000 in
set_option maxRecDepth 100000 in
theorem kX0_countInColumn (l : Launch) (dC : Nat → ClassId) (dI : Nat → Nat → Nat) (cI cL : ClassId) (h0 : Nat) (h1 : Nat) (h2 : Nat) (f : Nat → Int32) (h : Nat → Int32) (p1 : Int32) : gv_Mi l yX0_countInColumn wsX0_countInColumn 2 45 (dC, dI) [(cI, .int), (cL, .long)] [.ref h0, .int p1] (gv_W cI h0 h1 h2 f h) (fun (r : Int32) (_ : Unit) => r = spX0_countInColumn f h p1) (fun (_ : Unit) => (gv_W cI h0 h1 h2 f h)) := by
  refine gv_ofi (cc := cX0_countInColumn) (maxL := 2) (own := RX0) (by decide) rfl (Nat.le_of_ble_eq_true rfl) rfl ?_
  intro A p e s m args below meth c Q ls H locs hx hb hml hts hown hP hK hD hN hS hl kr
  have inX0 : ∀ w ∈ wsX00, w ∈ wsX0_countInColumn := (fun _ h => List.mem_cons_of_mem _ (List.mem_append_right _ h))
  have hl : lv_has ls 2 [(0, .ref h0), (1, .int p1)] := hl
  have he := (spX0_countInColumn_e f h p1).symm
  refine lv_aload_n hx hb dX0_countInColumn_0 rfl (lv_at hl 0 rfl) ?_
  refine lv_iconst (v := (-1)) hx hb dX0_countInColumn_1 (by decide) ?_
  refine lv_iload_n hx hb dX0_countInColumn_2 rfl (lv_at hl 1 rfl) ?_
  have hPc : va_P (dC, dI) vwCl (gv_W cI h0 h1 h2 f h) H := gv_sub [0, 1, 2] hP rfl
  have hDc : va_D (gv_in (gv_W cI h0 h1 h2 f h)) (gv_W cI h0 h1 h2 f h) := gv_D hD [0, 1, 2] (by decide) rfl
  refine gv_ki (wf := (fun (_ : Unit) => (gv_W cI h0 h1 h2 f h))) (wc := (gv_W cI h0 h1 h2 f h)) [0, 1, 2] (fun _ => rfl) hP hD hS rfl rfl (va_runV (As := [.int (-1), .int p1]) (rest := []) ⟨hx, hb, hml, hown, hts⟩ (kX0_shadeAt l dC dI cI cL h0 h1 h2 f h (-1) 0 (by decide) p1 (by omega) (gv_in (gv_W cI h0 h1 h2 f h))) (cwV (rm := gv_R 1 21) 2 hts gX0_countInColumn_X0_shadeAt rfl rfl rfl (by decide +kernel) ⟨Nat.le_of_ble_eq_true rfl, Nat.le_of_ble_eq_true rfl⟩) (gv_preV (ci := 0) hK hPc hDc hN rfl rfl) rfl rfl hl.1 rfl (lv_room (Nat.le_of_ble_eq_true rfl)) dX0_countInColumn_3 ⟨Nat.zero_le _, Nat.zero_le _⟩) (fun q3 u H locs hw hP hD hS => ?_)
  have he := gv_q hw he
  have hP : va_P (dC, dI) vwCl (gv_W cI h0 h1 h2 f h) H := hP
  have hD : va_D A (gv_W cI h0 h1 h2 f h) := hD
  exact kr q3 () _ _ _ _ he hP hS dX0_countInColumn_6
def lpX0_countLeaves_4 (f_c : Nat → Int32) (h_c : Nat → Int32) : Nat → Nat → (Int32) → Int32
  | 0, _, x1_4 => x1_4
  | n4 + 1, i4, x1_4 => gv_b (spJ6_bitCount_0f7a4 (f_c i4)) (fun q17 => lpX0_countLeaves_4 f_c h_c n4 (i4 + 1) (x1_4 + q17))
theorem lpX0_countLeaves_4_0 (f_c : Nat → Int32) (h_c : Nat → Int32) (i4 : Nat) (x1_4 : Int32) : lpX0_countLeaves_4 f_c h_c 0 i4 x1_4 = x1_4 := rfl
theorem lpX0_countLeaves_4_s (f_c : Nat → Int32) (h_c : Nat → Int32) (n4 : Nat) (i4 : Nat) (x1_4 : Int32) : lpX0_countLeaves_4 f_c h_c (n4 + 1) i4 x1_4 = gv_b (spJ6_bitCount_0f7a4 (f_c i4)) (fun q17 => lpX0_countLeaves_4 f_c h_c n4 (i4 + 1) (x1_4 + q17)) := rfl
def spX0_countLeaves (f : Nat → Int32) (h : Nat → Int32) : Int32 := lpX0_countLeaves_4 f h 8 0 0
theorem spX0_countLeaves_e (f : Nat → Int32) (h : Nat → Int32) : spX0_countLeaves f h = lpX0_countLeaves_4 f h 8 0 0 := rfl
set_option maxHeartbeats 4000000 in
set_option maxRecDepth 100000 in
theorem kX0_countLeaves (l : Launch) (dC : Nat → ClassId) (dI : Nat → Nat → Nat) (cI cL : ClassId) (h0 : Nat) (h1 : Nat) (h2 : Nat) (f : Nat → Int32) (h : Nat → Int32) : gv_Mi l yX0_countLeaves wsX0_countLeaves 1 20 (dC, dI) [(cI, .int), (cL, .long)] [.ref h0] (gv_W cI h0 h1 h2 f h) (fun (r : Int32) (_ : Unit) => r = spX0_countLeaves f h) (fun (_ : Unit) => (gv_W cI h0 h1 h2 f h)) := by
  refine gv_ofi (cc := cX0_countLeaves) (maxL := 3) (own := RX0) (by decide) rfl (Nat.le_of_ble_eq_true rfl) rfl ?_
  intro A p e s m args below meth c Q ls H locs hx hb hml hts hown hP hK hD hN hS hl kr
  have inX0 : ∀ w ∈ wsX00, w ∈ wsX0_countLeaves := (fun _ h => List.mem_cons_of_mem _ (List.mem_append_right _ h))
  have hl : lv_has ls 3 [(0, .ref h0)] := hl
  have he := (spX0_countLeaves_e f h).symm
  refine lv_iconst (v := 0) hx hb dX0_countLeaves_0 (by decide) ?_
  refine lv_istore_n (lv' := [(1, .int 0), (0, .ref h0)]) hx hb dX0_countLeaves_1 rfl hl (by decide) rfl (fun ls hl => ?_)
  refine lv_iconst (v := 0) hx hb dX0_countLeaves_2 (by decide) ?_
  refine lv_istore_n (lv' := [(2, .int 0), (1, .int 0), (0, .ref h0)]) hx hb dX0_countLeaves_3 rfl hl (by decide) rfl (fun ls hl => ?_)
  have L4 : ∀ (n4 i4 : Nat) (x1_4 : Int32) (H : Heap) (locs : List Loc) (ls : Array Slot), i4 + n4 = 8 → lpX0_countLeaves_4 f h n4 i4 x1_4 = spX0_countLeaves f h → va_P (dC, dI) vwCl (gv_W cI h0 h1 h2 f h) H → va_D A (gv_W cI h0 h1 h2 f h) → va_S A s.heap H locs → lv_has ls 3 [(0, .ref h0), (1, .int x1_4), (2, .int (nI i4))] → W p l e (gv_R 1 20) s m args below meth c H locs 0 0 Q (F0 m 4 ls []) := by
    intro n4
    induction n4 with
    | zero =>
      intro i4 x1_4 H locs ls hi4 he hP hD hS hl
      have he := (lpX0_countLeaves_4_0 _ _ _ _).symm.trans he
      refine lv_iload_n hx hb dX0_countLeaves_4 rfl (lv_at hl 2 rfl) ?_
      refine lv_bipush (v := 8) hx hb dX0_countLeaves_5 (by decide) ?_
      refine lv_icmp_ge (tgt := 28) hx hb dX0_countLeaves_7 (by decide) (fun _ => ?_) (fun c => absurd c (gv_ge (N := 8) rfl (rfl : (8 : Int32) = nI 8) (by omega) (by omega)))
      refine lv_iload_n hx hb dX0_countLeaves_28 rfl (lv_at hl 1 rfl) ?_
      exact kr x1_4 () _ _ _ _ he hP hS dX0_countLeaves_29
    | succ n4 ih4 =>
      intro i4 x1_4 H locs ls hi4 he hP hD hS hl
      have he := (lpX0_countLeaves_4_s _ _ _ _ _).symm.trans he
      refine lv_iload_n hx hb dX0_countLeaves_4 rfl (lv_at hl 2 rfl) ?_
      refine lv_bipush (v := 8) hx hb dX0_countLeaves_5 (by decide) ?_
      refine lv_icmp_ge (tgt := 28) hx hb dX0_countLeaves_7 (by decide) (fun c => absurd c (gv_lt (N := 8) rfl (rfl : (8 : Int32) = nI 8) (by omega) (by omega))) (fun _ => ?_)
      refine lv_iload_n hx hb dX0_countLeaves_10 rfl (lv_at hl 1 rfl) ?_
      refine lv_aload_n hx hb dX0_countLeaves_11 rfl (lv_at hl 0 rfl) ?_
      refine va_get (D := (dC, dI)) (ci := 0) (v := .ref h1) (C := RX0) (T := TX0) (N := 2) hx hb hts inX0 hown hK hP 0 rfl rfl 0 (by decide) (hts (.fieldLink RX0 9 "VineWall$Wall" "leafRows" "[I") (List.mem_of_getElem? (i := 1) rfl)) (fun _ h9 => h9) rfl dX0_countLeaves_12 ?_
      refine lv_iload_n hx hb dX0_countLeaves_15 rfl (lv_at hl 2 rfl) ?_
      refine gv_iald (cA := cI) (f := f) (k := i4) hx hb hK hP 1 0 rfl rfl rfl (by omega) (by decide) dX0_countLeaves_16 ?_
      have hPc : va_P (dC, dI) vwCl ([] : va_W) H := gv_P0
      have hDc : va_D (gv_in ([] : va_W)) ([] : va_W) := gv_D0
      refine gv_ki (wf := (fun (_ : Unit) => ([] : va_W))) (wc := ([] : va_W)) [] (fun _ => rfl) hP hD hS rfl rfl (va_runS (As := [.int (f i4)]) (rest := [.int x1_4]) ⟨hx, hb, hml, hown, hts⟩ (kJ6_bitCount_0f7a4 l dC dI cI cL (f i4) (gv_in ([] : va_W))) (va_cwS (rm := gv_R 0 0) 1 hts gX0_countLeaves_J6_bitCount_0f7a4 rfl rfl rfl (by decide +kernel) ⟨Nat.le_of_ble_eq_true rfl, Nat.le_of_ble_eq_true rfl⟩) (gv_preS hK hPc hDc hN) rfl rfl hl.1 rfl (lv_room (Nat.le_of_ble_eq_true rfl)) dX0_countLeaves_17 ⟨Nat.zero_le _, Nat.zero_le _⟩) (fun q17 u H locs hw hP hD hS => ?_)
      have he := gv_q hw he
      have hP : va_P (dC, dI) vwCl (gv_W cI h0 h1 h2 f h) H := hP
      have hD : va_D A (gv_W cI h0 h1 h2 f h) := hD
      refine lv_iadd hx hb dX0_countLeaves_20 ?_
      refine lv_istore_n (lv' := [(1, .int (x1_4 + q17)), (0, .ref h0), (2, .int (nI i4))]) hx hb dX0_countLeaves_21 rfl hl (by decide) rfl (fun ls hl => ?_)
      refine lv_iinc (v := (nI (i4 + 1))) (lv' := [(2, .int (nI (i4 + 1))), (1, .int (x1_4 + q17)), (0, .ref h0)]) hx hb dX0_countLeaves_22 hl (k := 2) rfl (nI_1 i4) (by decide) rfl (fun ls hl => ?_)
      refine lv_goto (tgt := 4) hx hb dX0_countLeaves_25 (by decide) ?_
      exact ih4 (i4 + 1) (x1_4 + q17) _ _ _ (by omega) he hP hD hS (lv_sub hl [2, 1, 0] rfl)
  exact L4 8 0 0 _ _ _ (by omega) he hP hD hS (lv_sub hl [2, 1, 0] rfl)
def lpX0_countLit_4 (f_c : Nat → Int32) (h_c : Nat → Int32) : Nat → Nat → (Int32) → Int32
  | 0, _, x1_4 => gv_b (spJ6_bitCount_0f7a4 x1_4) (fun q26 => q26)
  | n4 + 1, i4, x1_4 => lpX0_countLit_4 f_c h_c n4 (i4 + 1) (x1_4 ||| (f_c i4))
theorem lpX0_countLit_4_0 (f_c : Nat → Int32) (h_c : Nat → Int32) (i4 : Nat) (x1_4 : Int32) : lpX0_countLit_4 f_c h_c 0 i4 x1_4 = gv_b (spJ6_bitCount_0f7a4 x1_4) (fun q26 => q26) := rfl
theorem lpX0_countLit_4_s (f_c : Nat → Int32) (h_c : Nat → Int32) (n4 : Nat) (i4 : Nat) (x1_4 : Int32) : lpX0_countLit_4 f_c h_c (n4 + 1) i4 x1_4 = lpX0_countLit_4 f_c h_c n4 (i4 + 1) (x1_4 ||| (f_c i4)) := rfl
def spX0_countLit (f : Nat → Int32) (h : Nat → Int32) : Int32 := lpX0_countLit_4 f h 8 0 0
theorem spX0_countLit_e (f : Nat → Int32) (h : Nat → Int32) : spX0_countLit f h = lpX0_countLit_4 f h 8 0 0 := rfl
set_option maxHeartbeats 4000000 in
set_option maxRecDepth 100000 in
theorem kX0_countLit (l : Launch) (dC : Nat → ClassId) (dI : Nat → Nat → Nat) (cI cL : ClassId) (h0 : Nat) (h1 : Nat) (h2 : Nat) (f : Nat → Int32) (h : Nat → Int32) : gv_Mi l yX0_countLit wsX0_countLit 1 20 (dC, dI) [(cI, .int), (cL, .long)] [.ref h0] (gv_W cI h0 h1 h2 f h) (fun (r : Int32) (_ : Unit) => r = spX0_countLit f h) (fun (_ : Unit) => (gv_W cI h0 h1 h2 f h)) := by
  refine gv_ofi (cc := cX0_countLit) (maxL := 3) (own := RX0) (by decide) rfl (Nat.le_of_ble_eq_true rfl) rfl ?_
  intro A p e s m args below meth c Q ls H locs hx hb hml hts hown hP hK hD hN hS hl kr
  have inX0 : ∀ w ∈ wsX00, w ∈ wsX0_countLit := (fun _ h => List.mem_cons_of_mem _ (List.mem_append_right _ h))
  have hl : lv_has ls 3 [(0, .ref h0)] := hl
  have he := (spX0_countLit_e f h).symm
  refine lv_iconst (v := 0) hx hb dX0_countLit_0 (by decide) ?_
  refine lv_istore_n (lv' := [(1, .int 0), (0, .ref h0)]) hx hb dX0_countLit_1 rfl hl (by decide) rfl (fun ls hl => ?_)
  refine lv_iconst (v := 0) hx hb dX0_countLit_2 (by decide) ?_
  refine lv_istore_n (lv' := [(2, .int 0), (1, .int 0), (0, .ref h0)]) hx hb dX0_countLit_3 rfl hl (by decide) rfl (fun ls hl => ?_)
  have L4 : ∀ (n4 i4 : Nat) (x1_4 : Int32) (H : Heap) (locs : List Loc) (ls : Array Slot), i4 + n4 = 8 → lpX0_countLit_4 f h n4 i4 x1_4 = spX0_countLit f h → va_P (dC, dI) vwCl (gv_W cI h0 h1 h2 f h) H → va_D A (gv_W cI h0 h1 h2 f h) → va_S A s.heap H locs → lv_has ls 3 [(0, .ref h0), (1, .int x1_4), (2, .int (nI i4))] → W p l e (gv_R 1 20) s m args below meth c H locs 0 0 Q (F0 m 4 ls []) := by
    intro n4
    induction n4 with
    | zero =>
      intro i4 x1_4 H locs ls hi4 he hP hD hS hl
      have he := (lpX0_countLit_4_0 _ _ _ _).symm.trans he
      refine lv_iload_n hx hb dX0_countLit_4 rfl (lv_at hl 2 rfl) ?_
      refine lv_bipush (v := 8) hx hb dX0_countLit_5 (by decide) ?_
      refine lv_icmp_ge (tgt := 25) hx hb dX0_countLit_7 (by decide) (fun _ => ?_) (fun c => absurd c (gv_ge (N := 8) rfl (rfl : (8 : Int32) = nI 8) (by omega) (by omega)))
      refine lv_iload_n hx hb dX0_countLit_25 rfl (lv_at hl 1 rfl) ?_
      have hPc : va_P (dC, dI) vwCl ([] : va_W) H := gv_P0
      have hDc : va_D (gv_in ([] : va_W)) ([] : va_W) := gv_D0
      refine gv_ki (wf := (fun (_ : Unit) => ([] : va_W))) (wc := ([] : va_W)) [] (fun _ => rfl) hP hD hS rfl rfl (va_runS (As := [.int x1_4]) (rest := []) ⟨hx, hb, hml, hown, hts⟩ (kJ6_bitCount_0f7a4 l dC dI cI cL x1_4 (gv_in ([] : va_W))) (va_cwS (rm := gv_R 0 0) 1 hts gX0_countLit_J6_bitCount_0f7a4 rfl rfl rfl (by decide +kernel) ⟨Nat.le_of_ble_eq_true rfl, Nat.le_of_ble_eq_true rfl⟩) (gv_preS hK hPc hDc hN) rfl rfl hl.1 rfl (lv_room (Nat.le_of_ble_eq_true rfl)) dX0_countLit_26 ⟨Nat.zero_le _, Nat.zero_le _⟩) (fun q26 u H locs hw hP hD hS => ?_)
      have he := gv_q hw he
      have hP : va_P (dC, dI) vwCl (gv_W cI h0 h1 h2 f h) H := hP
      have hD : va_D A (gv_W cI h0 h1 h2 f h) := hD
      exact kr q26 () _ _ _ _ he hP hS dX0_countLit_29
    | succ n4 ih4 =>
      intro i4 x1_4 H locs ls hi4 he hP hD hS hl
      have he := (lpX0_countLit_4_s _ _ _ _ _).symm.trans he
      refine lv_iload_n hx hb dX0_countLit_4 rfl (lv_at hl 2 rfl) ?_
      refine lv_bipush (v := 8) hx hb dX0_countLit_5 (by decide) ?_
      refine lv_icmp_ge (tgt := 25) hx hb dX0_countLit_7 (by decide) (fun c => absurd c (gv_lt (N := 8) rfl (rfl : (8 : Int32) = nI 8) (by omega) (by omega))) (fun _ => ?_)
      refine lv_iload_n hx hb dX0_countLit_10 rfl (lv_at hl 1 rfl) ?_
      refine lv_aload_n hx hb dX0_countLit_11 rfl (lv_at hl 0 rfl) ?_
      refine va_get (D := (dC, dI)) (ci := 0) (v := .ref h1) (C := RX0) (T := TX0) (N := 2) hx hb hts inX0 hown hK hP 0 rfl rfl 0 (by decide) (hts (.fieldLink RX0 9 "VineWall$Wall" "leafRows" "[I") (List.mem_of_getElem? (i := 1) rfl)) (fun _ h9 => h9) rfl dX0_countLit_12 ?_
      refine lv_iload_n hx hb dX0_countLit_15 rfl (lv_at hl 2 rfl) ?_
      refine gv_iald (cA := cI) (f := f) (k := i4) hx hb hK hP 1 0 rfl rfl rfl (by omega) (by decide) dX0_countLit_16 ?_
      refine lv_ior hx hb dX0_countLit_17 ?_
      refine lv_istore_n (lv' := [(1, .int (x1_4 ||| (f i4))), (0, .ref h0), (2, .int (nI i4))]) hx hb dX0_countLit_18 rfl hl (by decide) rfl (fun ls hl => ?_)
      refine lv_iinc (v := (nI (i4 + 1))) (lv' := [(2, .int (nI (i4 + 1))), (1, .int (x1_4 ||| (f i4))), (0, .ref h0)]) hx hb dX0_countLit_19 hl (k := 2) rfl (nI_1 i4) (by decide) rfl (fun ls hl => ?_)
      refine lv_goto (tgt := 4) hx hb dX0_countLit_22 (by decide) ?_
      exact ih4 (i4 + 1) (x1_4 ||| (f i4)) _ _ _ (by omega) he hP hD hS (lv_sub hl [2, 1, 0] rfl)
  exact L4 8 0 0 _ _ _ (by omega) he hP hD hS (lv_sub hl [2, 1, 0] rfl)
def lpX0_leavesOfHalf_5 (n1_5 : Nat) (f_c : Nat → Int32) (h_c : Nat → Int32) : Nat → Nat → (Int64) → Int64
  | 0, _, x2_5 => x2_5
  | n5 + 1, i5, x2_5 => gv_b (spX0_leafRow f_c h_c (nI i5)) (fun q20 => lpX0_leavesOfHalf_5 n1_5 f_c h_c n5 (i5 + 1) ((x2_5 <<< ((12 : Int32).toInt64 &&& 63)) ||| q20.toInt64))
theorem lpX0_leavesOfHalf_5_0 (n1_5 : Nat) (f_c : Nat → Int32) (h_c : Nat → Int32) (i5 : Nat) (x2_5 : Int64) : lpX0_leavesOfHalf_5 n1_5 f_c h_c 0 i5 x2_5 = x2_5 := rfl
theorem lpX0_leavesOfHalf_5_s (n1_5 : Nat) (f_c : Nat → Int32) (h_c : Nat → Int32) (n5 : Nat) (i5 : Nat) (x2_5 : Int64) : lpX0_leavesOfHalf_5 n1_5 f_c h_c (n5 + 1) i5 x2_5 = gv_b (spX0_leafRow f_c h_c (nI i5)) (fun q20 => lpX0_leavesOfHalf_5 n1_5 f_c h_c n5 (i5 + 1) ((x2_5 <<< ((12 : Int32).toInt64 &&& 63)) ||| q20.toInt64)) := rfl
def spX0_leavesOfHalf (f : Nat → Int32) (h : Nat → Int32) (w1 : Nat) : Int64 := lpX0_leavesOfHalf_5 w1 f h 4 w1 0
theorem spX0_leavesOfHalf_e (f : Nat → Int32) (h : Nat → Int32) (w1 : Nat) : spX0_leavesOfHalf f h w1 = lpX0_leavesOfHalf_5 w1 f h 4 w1 0 := rfl
set_option maxHeartbeats 4000000 in
set_option maxRecDepth 100000 in
theorem kX0_leavesOfHalf (l : Launch) (dC : Nat → ClassId) (dI : Nat → Nat → Nat) (cI cL : ClassId) (h0 : Nat) (h1 : Nat) (h2 : Nat) (f : Nat → Int32) (h : Nat → Int32) (p1 : Int32) (w1 : Nat) (hw1 : p1 = nI w1) (hy0 : w1 ≤ 4) : gv_Ml l yX0_leavesOfHalf wsX0_leavesOfHalf 1 21 (dC, dI) [(cI, .int), (cL, .long)] [.ref h0, .int p1] (gv_W cI h0 h1 h2 f h) (fun (r : Int64) (_ : Unit) => r = spX0_leavesOfHalf f h w1) (fun (_ : Unit) => (gv_W cI h0 h1 h2 f h)) := by
  subst hw1
  refine gv_ofl (cc := cX0_leavesOfHalf) (maxL := 5) (own := RX0) (by decide) rfl (Nat.le_of_ble_eq_true rfl) rfl ?_
  intro A p e s m args below meth c Q ls H locs hx hb hml hts hown hP hK hD hN hS hl kr
  have inX0 : ∀ w ∈ wsX00, w ∈ wsX0_leavesOfHalf := (fun _ h => List.mem_cons_of_mem _ (List.mem_append_right _ h))
  have hl : lv_has ls 5 [(0, .ref h0), (1, .int (nI w1))] := hl
  have he := (spX0_leavesOfHalf_e f h w1).symm
  refine lv_lconst (v := 0) hx hb dX0_leavesOfHalf_0 (by decide) ?_
  refine lv_lstore_n (lv' := [(2, .long 0), (0, .ref h0), (1, .int (nI w1))]) hx hb dX0_leavesOfHalf_1 rfl hl (by decide) rfl (fun ls hl => ?_)
  refine lv_iload_n hx hb dX0_leavesOfHalf_2 rfl (lv_at hl 2 rfl) ?_
  refine lv_istore (lv' := [(4, .int (nI w1)), (2, .long 0), (0, .ref h0), (1, .int (nI w1))]) hx hb dX0_leavesOfHalf_3 hl (by decide) rfl (fun ls hl => ?_)
  have L5 : ∀ (n5 i5 : Nat) (x2_5 : Int64) (H : Heap) (locs : List Loc) (ls : Array Slot), w1 ≤ i5 ∧ i5 + n5 = (w1 + 4) → lpX0_leavesOfHalf_5 w1 f h n5 i5 x2_5 = spX0_leavesOfHalf f h w1 → va_P (dC, dI) vwCl (gv_W cI h0 h1 h2 f h) H → va_D A (gv_W cI h0 h1 h2 f h) → va_S A s.heap H locs → lv_has ls 5 [(0, .ref h0), (1, .int (nI w1)), (2, .long x2_5), (4, .int (nI i5))] → W p l e (gv_R 1 21) s m args below meth c H locs 0 0 Q (F0 m 5 ls []) := by
    intro n5
    induction n5 with
    | zero =>
      intro i5 x2_5 H locs ls hi5 he hP hD hS hl
      have he := (lpX0_leavesOfHalf_5_0 _ _ _ _ _).symm.trans he
      refine lv_iload hx hb dX0_leavesOfHalf_5 (lv_at hl 3 rfl) ?_
      refine lv_iload_n hx hb dX0_leavesOfHalf_7 rfl (lv_at hl 1 rfl) ?_
      refine lv_iconst (v := 4) hx hb dX0_leavesOfHalf_8 (by decide) ?_
      refine lv_iadd hx hb dX0_leavesOfHalf_9 ?_
      refine lv_icmp_ge (tgt := 32) hx hb dX0_leavesOfHalf_10 (by decide) (fun _ => ?_) (fun c => absurd c (gv_ge (N := (w1 + 4)) rfl (gn_add rfl (rfl : (4 : Int32) = nI 4)) (by omega) (by omega)))
      refine lv_lload_n hx hb dX0_leavesOfHalf_32 rfl (lv_at hl 2 rfl) ?_
      exact kr x2_5 () _ _ _ _ he hP hS dX0_leavesOfHalf_33
    | succ n5 ih5 =>
      intro i5 x2_5 H locs ls hi5 he hP hD hS hl
      have he := (lpX0_leavesOfHalf_5_s _ _ _ _ _ _).symm.trans he
      refine lv_iload hx hb dX0_leavesOfHalf_5 (lv_at hl 3 rfl) ?_
      refine lv_iload_n hx hb dX0_leavesOfHalf_7 rfl (lv_at hl 1 rfl) ?_
      refine lv_iconst (v := 4) hx hb dX0_leavesOfHalf_8 (by decide) ?_
      refine lv_iadd hx hb dX0_leavesOfHalf_9 ?_
      refine lv_icmp_ge (tgt := 32) hx hb dX0_leavesOfHalf_10 (by decide) (fun c => absurd c (gv_lt (N := (w1 + 4)) rfl (gn_add rfl (rfl : (4 : Int32) = nI 4)) (by omega) (by omega))) (fun _ => ?_)
      refine lv_lload_n hx hb dX0_leavesOfHalf_13 rfl (lv_at hl 2 rfl) ?_
      refine lv_bipush (v := 12) hx hb dX0_leavesOfHalf_14 (by decide) ?_
      refine lv_lshl (v := x2_5 <<< ((12 : Int32).toInt64 &&& 63)) hx hb dX0_leavesOfHalf_16 rfl ?_
      refine lv_aload_n hx hb dX0_leavesOfHalf_17 rfl (lv_at hl 0 rfl) ?_
      refine lv_iload hx hb dX0_leavesOfHalf_18 (lv_at hl 3 rfl) ?_
      have hPc : va_P (dC, dI) vwCl (gv_W cI h0 h1 h2 f h) H := gv_sub [0, 1, 2] hP rfl
      have hDc : va_D (gv_in (gv_W cI h0 h1 h2 f h)) (gv_W cI h0 h1 h2 f h) := gv_D hD [0, 1, 2] (by decide) rfl
      refine gv_ki (wf := (fun (_ : Unit) => (gv_W cI h0 h1 h2 f h))) (wc := (gv_W cI h0 h1 h2 f h)) [0, 1, 2] (fun _ => rfl) hP hD hS rfl rfl (va_runV (As := [.int (nI i5)]) (rest := [.long (x2_5 <<< ((12 : Int32).toInt64 &&& 63))]) ⟨hx, hb, hml, hown, hts⟩ (kX0_leafRow l dC dI cI cL h0 h1 h2 f h (nI i5) (gv_in (gv_W cI h0 h1 h2 f h))) (cwV (rm := gv_R 0 0) 1 hts gX0_leavesOfHalf_X0_leafRow rfl rfl rfl (by decide +kernel) ⟨Nat.le_of_ble_eq_true rfl, Nat.le_of_ble_eq_true rfl⟩) (gv_preV (ci := 0) hK hPc hDc hN rfl rfl) rfl rfl hl.1 rfl (lv_room (Nat.le_of_ble_eq_true rfl)) dX0_leavesOfHalf_20 ⟨Nat.zero_le _, Nat.zero_le _⟩) (fun q20 u H locs hw hP hD hS => ?_)
      have he := gv_q hw he
      have hP : va_P (dC, dI) vwCl (gv_W cI h0 h1 h2 f h) H := hP
      have hD : va_D A (gv_W cI h0 h1 h2 f h) := hD
      refine lv_i2l (v := q20.toInt64) hx hb dX0_leavesOfHalf_23 rfl ?_
      refine lv_lor hx hb dX0_leavesOfHalf_24 ?_
      refine lv_lstore_n (lv' := [(2, .long ((x2_5 <<< ((12 : Int32).toInt64 &&& 63)) ||| q20.toInt64)), (0, .ref h0), (1, .int (nI w1)), (4, .int (nI i5))]) hx hb dX0_leavesOfHalf_25 rfl hl (by decide) rfl (fun ls hl => ?_)
      refine lv_iinc (v := (nI (i5 + 1))) (lv' := [(4, .int (nI (i5 + 1))), (2, .long ((x2_5 <<< ((12 : Int32).toInt64 &&& 63)) ||| q20.toInt64)), (0, .ref h0), (1, .int (nI w1))]) hx hb dX0_leavesOfHalf_26 hl (k := 3) rfl (nI_1 i5) (by decide) rfl (fun ls hl => ?_)
      refine lv_goto (tgt := 5) hx hb dX0_leavesOfHalf_29 (by decide) ?_
      exact ih5 (i5 + 1) ((x2_5 <<< ((12 : Int32).toInt64 &&& 63)) ||| q20.toInt64) _ _ _ (by omega) he hP hD hS (lv_sub hl [2, 3, 1, 0] rfl)
  exact L5 4 w1 0 _ _ _ (by omega) he hP hD hS (lv_sub hl [2, 3, 1, 0] rfl)
end
section
def spX0_bearsLeafNext (f : Nat → Int32) (h : Nat → Int32) (w1 : Nat) (p2 : Int32) (p3 : Int32) (p4 : Int32) : Int32 := (if p3 = 0 then 0 else gv_b (spX0_hasCutAt f h (nI w1) p2) (fun q7 => (if q7 = 0 then gv_b (spX0_shadeAt f h (w1 + 1) p2) (fun q18 => gv_b (spX0_hasLeafAt f h (nI w1) p2) (fun q26 => (if q26 = 0 then (if 2 < p3 then 0 else (if 3 < p4 then 0 else (if 2 < q18 then 0 else 1))) else (if 5 < p4 then 0 else (if 4 < q18 then 0 else 1))))) else 0)))
theorem spX0_bearsLeafNext_e (f : Nat → Int32) (h : Nat → Int32) (w1 : Nat) (p2 : Int32) (p3 : Int32) (p4 : Int32) : spX0_bearsLeafNext f h w1 p2 p3 p4 = (if p3 = 0 then 0 else gv_b (spX0_hasCutAt f h (nI w1) p2) (fun q7 => (if q7 = 0 then gv_b (spX0_shadeAt f h (w1 + 1) p2) (fun q18 => gv_b (spX0_hasLeafAt f h (nI w1) p2) (fun q26 => (if q26 = 0 then (if 2 < p3 then 0 else (if 3 < p4 then 0 else (if 2 < q18 then 0 else 1))) else (if 5 < p4 then 0 else (if 4 < q18 then 0 else 1))))) else 0))) := rfl
set_option maxHeartbeats 4000000 in
set_option maxRecDepth 100000 in
theorem kX0_bearsLeafNext (l : Launch) (dC : Nat → ClassId) (dI : Nat → Nat → Nat) (cI cL : ClassId) (h0 : Nat) (h1 : Nat) (h2 : Nat) (f : Nat → Int32) (h : Nat → Int32) (p1 : Int32) (w1 : Nat) (hw1 : p1 = nI w1) (p2 : Int32) (p3 : Int32) (p4 : Int32) (hy0 : w1 < 8) : gv_Mi l yX0_bearsLeafNext wsX0_bearsLeafNext 2 45 (dC, dI) [(cI, .int), (cL, .long)] [.ref h0, .int p1, .int p2, .int p3, .int p4] (gv_W cI h0 h1 h2 f h) (fun (r : Int32) (_ : Unit) => r = spX0_bearsLeafNext f h w1 p2 p3 p4) (fun (_ : Unit) => (gv_W cI h0 h1 h2 f h)) := by
  subst hw1
  refine gv_ofz (cc := cX0_bearsLeafNext) (maxL := 6) (own := RX0) (ty := .boolean) (by decide) rfl (Nat.le_of_ble_eq_true rfl) rfl ?_
  intro A p e s m args below meth c Q ls H locs hx hb hml hts hown hP hK hD hN hS hl kr
  have inX0 : ∀ w ∈ wsX00, w ∈ wsX0_bearsLeafNext := (fun _ h => List.mem_cons_of_mem _ (List.mem_append_right _ h))
  have hl : lv_has ls 6 [(0, .ref h0), (1, .int (nI w1)), (2, .int p2), (3, .int p3), (4, .int p4)] := hl
  have he := (spX0_bearsLeafNext_e f h w1 p2 p3 p4).symm
  refine lv_iload_n hx hb dX0_bearsLeafNext_0 rfl (lv_at hl 3 rfl) ?_
  refine lv_if_eq (tgt := 13) hx hb dX0_bearsLeafNext_1 (by decide) (fun cd1 => ?_) (fun cd1 => ?_)
  · have he := gv_t cd1 he
    refine lv_iconst (v := 0) hx hb dX0_bearsLeafNext_13 (by decide) ?_
    exact kr 0 () _ _ _ _ rfl he hP hS dX0_bearsLeafNext_14
  · have he := gv_f cd1 he
    refine lv_aload_n hx hb dX0_bearsLeafNext_4 rfl (lv_at hl 0 rfl) ?_
    refine lv_iload_n hx hb dX0_bearsLeafNext_5 rfl (lv_at hl 1 rfl) ?_
    refine lv_iload_n hx hb dX0_bearsLeafNext_6 rfl (lv_at hl 2 rfl) ?_
    have hPc : va_P (dC, dI) vwCl (gv_W cI h0 h1 h2 f h) H := gv_sub [0, 1, 2] hP rfl
    have hDc : va_D (gv_in (gv_W cI h0 h1 h2 f h)) (gv_W cI h0 h1 h2 f h) := gv_D hD [0, 1, 2] (by decide) rfl
    refine gv_ki (wf := (fun (_ : Unit) => (gv_W cI h0 h1 h2 f h))) (wc := (gv_W cI h0 h1 h2 f h)) [0, 1, 2] (fun _ => rfl) hP hD hS rfl rfl (va_runV (As := [.int (nI w1), .int p2]) (rest := []) ⟨hx, hb, hml, hown, hts⟩ (kX0_hasCutAt l dC dI cI cL h0 h1 h2 f h (nI w1) p2 (gv_in (gv_W cI h0 h1 h2 f h))) (cwV (rm := gv_R 0 0) 2 hts gX0_bearsLeafNext_X0_hasCutAt rfl rfl rfl (by decide +kernel) ⟨Nat.le_of_ble_eq_true rfl, Nat.le_of_ble_eq_true rfl⟩) (gv_preV (ci := 0) hK hPc hDc hN rfl rfl) rfl rfl hl.1 rfl (lv_room (Nat.le_of_ble_eq_true rfl)) dX0_bearsLeafNext_7 ⟨Nat.zero_le _, Nat.zero_le _⟩) (fun q7 u H locs hw hP hD hS => ?_)
    have he := gv_q hw he
    have hP : va_P (dC, dI) vwCl (gv_W cI h0 h1 h2 f h) H := hP
    have hD : va_D A (gv_W cI h0 h1 h2 f h) := hD
    refine lv_if_eq (tgt := 15) hx hb dX0_bearsLeafNext_10 (by decide) (fun cd10 => ?_) (fun cd10 => ?_)
    · have he := gv_t cd10 he
      refine lv_aload_n hx hb dX0_bearsLeafNext_15 rfl (lv_at hl 0 rfl) ?_
      refine lv_iload_n hx hb dX0_bearsLeafNext_16 rfl (lv_at hl 1 rfl) ?_
      refine lv_iload_n hx hb dX0_bearsLeafNext_17 rfl (lv_at hl 2 rfl) ?_
      have hPc : va_P (dC, dI) vwCl (gv_W cI h0 h1 h2 f h) H := gv_sub [0, 1, 2] hP rfl
      have hDc : va_D (gv_in (gv_W cI h0 h1 h2 f h)) (gv_W cI h0 h1 h2 f h) := gv_D hD [0, 1, 2] (by decide) rfl
      refine gv_ki (wf := (fun (_ : Unit) => (gv_W cI h0 h1 h2 f h))) (wc := (gv_W cI h0 h1 h2 f h)) [0, 1, 2] (fun _ => rfl) hP hD hS rfl rfl (va_runV (As := [.int (nI w1), .int p2]) (rest := []) ⟨hx, hb, hml, hown, hts⟩ (kX0_shadeAt l dC dI cI cL h0 h1 h2 f h (nI w1) (w1 + 1) (gn_add rfl (rfl : (1 : Int32) = nI 1)) p2 (by omega) (gv_in (gv_W cI h0 h1 h2 f h))) (cwV (rm := gv_R 1 21) 2 hts gX0_bearsLeafNext_X0_shadeAt rfl rfl rfl (by decide +kernel) ⟨Nat.le_of_ble_eq_true rfl, Nat.le_of_ble_eq_true rfl⟩) (gv_preV (ci := 0) hK hPc hDc hN rfl rfl) rfl rfl hl.1 rfl (lv_room (Nat.le_of_ble_eq_true rfl)) dX0_bearsLeafNext_18 ⟨Nat.zero_le _, Nat.zero_le _⟩) (fun q18 u H locs hw hP hD hS => ?_)
      have he := gv_q hw he
      have hP : va_P (dC, dI) vwCl (gv_W cI h0 h1 h2 f h) H := hP
      have hD : va_D A (gv_W cI h0 h1 h2 f h) := hD
      refine lv_istore (lv' := [(5, .int q18), (0, .ref h0), (1, .int (nI w1)), (2, .int p2), (3, .int p3), (4, .int p4)]) hx hb dX0_bearsLeafNext_21 hl (by decide) rfl (fun ls hl => ?_)
      refine lv_aload_n hx hb dX0_bearsLeafNext_23 rfl (lv_at hl 1 rfl) ?_
      refine lv_iload_n hx hb dX0_bearsLeafNext_24 rfl (lv_at hl 2 rfl) ?_
      refine lv_iload_n hx hb dX0_bearsLeafNext_25 rfl (lv_at hl 3 rfl) ?_
      have hPc : va_P (dC, dI) vwCl (gv_W cI h0 h1 h2 f h) H := gv_sub [0, 1, 2] hP rfl
      have hDc : va_D (gv_in (gv_W cI h0 h1 h2 f h)) (gv_W cI h0 h1 h2 f h) := gv_D hD [0, 1, 2] (by decide) rfl
      refine gv_ki (wf := (fun (_ : Unit) => (gv_W cI h0 h1 h2 f h))) (wc := (gv_W cI h0 h1 h2 f h)) [0, 1, 2] (fun _ => rfl) hP hD hS rfl rfl (va_runV (As := [.int (nI w1), .int p2]) (rest := []) ⟨hx, hb, hml, hown, hts⟩ (kX0_hasLeafAt l dC dI cI cL h0 h1 h2 f h (nI w1) p2 (gv_in (gv_W cI h0 h1 h2 f h))) (cwV (rm := gv_R 1 21) 2 hts gX0_bearsLeafNext_X0_hasLeafAt rfl rfl rfl (by decide +kernel) ⟨Nat.le_of_ble_eq_true rfl, Nat.le_of_ble_eq_true rfl⟩) (gv_preV (ci := 0) hK hPc hDc hN rfl rfl) rfl rfl hl.1 rfl (lv_room (Nat.le_of_ble_eq_true rfl)) dX0_bearsLeafNext_26 ⟨Nat.zero_le _, Nat.zero_le _⟩) (fun q26 u H locs hw hP hD hS => ?_)
      have he := gv_q hw he
      have hP : va_P (dC, dI) vwCl (gv_W cI h0 h1 h2 f h) H := hP
      have hD : va_D A (gv_W cI h0 h1 h2 f h) := hD
      refine lv_if_eq (tgt := 50) hx hb dX0_bearsLeafNext_29 (by decide) (fun cd29 => ?_) (fun cd29 => ?_)
      · have he := gv_t cd29 he
        refine lv_iload_n hx hb dX0_bearsLeafNext_50 rfl (lv_at hl 4 rfl) ?_
        refine lv_iconst (v := 2) hx hb dX0_bearsLeafNext_51 (by decide) ?_
        refine lv_icmp_gt (tgt := 71) hx hb dX0_bearsLeafNext_52 (by decide) (fun cd52 => ?_) (fun cd52 => ?_)
        · have he := gv_t cd52 he
          refine lv_iconst (v := 0) hx hb dX0_bearsLeafNext_71 (by decide) ?_
          exact kr 0 () _ _ _ _ rfl he hP hS dX0_bearsLeafNext_72
        · have he := gv_f cd52 he
          refine lv_iload hx hb dX0_bearsLeafNext_55 (lv_at hl 5 rfl) ?_
          refine lv_iconst (v := 3) hx hb dX0_bearsLeafNext_57 (by decide) ?_
          refine lv_icmp_gt (tgt := 71) hx hb dX0_bearsLeafNext_58 (by decide) (fun cd58 => ?_) (fun cd58 => ?_)
          · have he := gv_t cd58 he
            refine lv_iconst (v := 0) hx hb dX0_bearsLeafNext_71 (by decide) ?_
            exact kr 0 () _ _ _ _ rfl he hP hS dX0_bearsLeafNext_72
          · have he := gv_f cd58 he
            refine lv_iload hx hb dX0_bearsLeafNext_61 (lv_at hl 0 rfl) ?_
            refine lv_iconst (v := 2) hx hb dX0_bearsLeafNext_63 (by decide) ?_
            refine lv_icmp_gt (tgt := 71) hx hb dX0_bearsLeafNext_64 (by decide) (fun cd64 => ?_) (fun cd64 => ?_)
            · have he := gv_t cd64 he
              refine lv_iconst (v := 0) hx hb dX0_bearsLeafNext_71 (by decide) ?_
              exact kr 0 () _ _ _ _ rfl he hP hS dX0_bearsLeafNext_72
            · have he := gv_f cd64 he
              refine lv_iconst (v := 1) hx hb dX0_bearsLeafNext_67 (by decide) ?_
              refine lv_goto (tgt := 72) hx hb dX0_bearsLeafNext_68 (by decide) ?_
              exact kr 1 () _ _ _ _ rfl he hP hS dX0_bearsLeafNext_72
      · have he := gv_f cd29 he
        refine lv_iload hx hb dX0_bearsLeafNext_32 (lv_at hl 5 rfl) ?_
        refine lv_iconst (v := 5) hx hb dX0_bearsLeafNext_34 (by decide) ?_
        refine lv_icmp_gt (tgt := 48) hx hb dX0_bearsLeafNext_35 (by decide) (fun cd35 => ?_) (fun cd35 => ?_)
        · have he := gv_t cd35 he
          refine lv_iconst (v := 0) hx hb dX0_bearsLeafNext_48 (by decide) ?_
          exact kr 0 () _ _ _ _ rfl he hP hS dX0_bearsLeafNext_49
        · have he := gv_f cd35 he
          refine lv_iload hx hb dX0_bearsLeafNext_38 (lv_at hl 0 rfl) ?_
          refine lv_iconst (v := 4) hx hb dX0_bearsLeafNext_40 (by decide) ?_
          refine lv_icmp_gt (tgt := 48) hx hb dX0_bearsLeafNext_41 (by decide) (fun cd41 => ?_) (fun cd41 => ?_)
          · have he := gv_t cd41 he
            refine lv_iconst (v := 0) hx hb dX0_bearsLeafNext_48 (by decide) ?_
            exact kr 0 () _ _ _ _ rfl he hP hS dX0_bearsLeafNext_49
          · have he := gv_f cd41 he
            refine lv_iconst (v := 1) hx hb dX0_bearsLeafNext_44 (by decide) ?_
            refine lv_goto (tgt := 49) hx hb dX0_bearsLeafNext_45 (by decide) ?_
            exact kr 1 () _ _ _ _ rfl he hP hS dX0_bearsLeafNext_49
    · have he := gv_f cd10 he
      refine lv_iconst (v := 0) hx hb dX0_bearsLeafNext_13 (by decide) ?_
      exact kr 0 () _ _ _ _ rfl he hP hS dX0_bearsLeafNext_14
def lpX0_leafRowNext_43 (n1_43 : Nat) (b3_43 : Int32) (b4_43 : Int32) (b5_43 : Int32) (f_c : Nat → Int32) (h_c : Nat → Int32) : Nat → Nat → (Int32) → Int32
  | 0, _, x6_43 => x6_43
  | n43 + 1, i43, x6_43 => gv_b (spX0_countHolders (b3_43 >>> ((nI i43) &&& 31))) (fun q54 => gv_b (spX0_countNeighbours (b3_43 >>> ((nI i43) &&& 31)) (b4_43 >>> ((nI i43) &&& 31)) (b5_43 >>> ((nI i43) &&& 31))) (fun q73 => gv_b (spX0_bearsLeafNext f_c h_c n1_43 (nI i43) q54 q73) (fun q86 => (if q86 = 0 then lpX0_leafRowNext_43 n1_43 b3_43 b4_43 b5_43 f_c h_c n43 (i43 + 1) x6_43 else lpX0_leafRowNext_43 n1_43 b3_43 b4_43 b5_43 f_c h_c n43 (i43 + 1) (x6_43 ||| ((1 : Int32) <<< ((nI i43) &&& 31)))))))
theorem lpX0_leafRowNext_43_0 (n1_43 : Nat) (b3_43 : Int32) (b4_43 : Int32) (b5_43 : Int32) (f_c : Nat → Int32) (h_c : Nat → Int32) (i43 : Nat) (x6_43 : Int32) : lpX0_leafRowNext_43 n1_43 b3_43 b4_43 b5_43 f_c h_c 0 i43 x6_43 = x6_43 := rfl
theorem lpX0_leafRowNext_43_s (n1_43 : Nat) (b3_43 : Int32) (b4_43 : Int32) (b5_43 : Int32) (f_c : Nat → Int32) (h_c : Nat → Int32) (n43 : Nat) (i43 : Nat) (x6_43 : Int32) : lpX0_leafRowNext_43 n1_43 b3_43 b4_43 b5_43 f_c h_c (n43 + 1) i43 x6_43 = gv_b (spX0_countHolders (b3_43 >>> ((nI i43) &&& 31))) (fun q54 => gv_b (spX0_countNeighbours (b3_43 >>> ((nI i43) &&& 31)) (b4_43 >>> ((nI i43) &&& 31)) (b5_43 >>> ((nI i43) &&& 31))) (fun q73 => gv_b (spX0_bearsLeafNext f_c h_c n1_43 (nI i43) q54 q73) (fun q86 => (if q86 = 0 then lpX0_leafRowNext_43 n1_43 b3_43 b4_43 b5_43 f_c h_c n43 (i43 + 1) x6_43 else lpX0_leafRowNext_43 n1_43 b3_43 b4_43 b5_43 f_c h_c n43 (i43 + 1) (x6_43 ||| ((1 : Int32) <<< ((nI i43) &&& 31))))))) := rfl
def spX0_leafRowNext (f : Nat → Int32) (h : Nat → Int32) (w1 : Nat) (p2 : Int32) : Int32 := (if (nI w1) = 0 then gv_b (spX0_leafRow f h 0) (fun q6 => q6) else gv_b (spX0_leafRowAsSeen f h ((nI w1) - 1) p2) (fun q15 => gv_b (spX0_leafRowAsSeen f h (nI w1) p2) (fun q22 => gv_b (spX0_leafRowAsSeen f h ((nI w1) + 1) p2) (fun q32 => lpX0_leafRowNext_43 w1 q15 q22 q32 f h 12 0 0))))
theorem spX0_leafRowNext_e (f : Nat → Int32) (h : Nat → Int32) (w1 : Nat) (p2 : Int32) : spX0_leafRowNext f h w1 p2 = (if (nI w1) = 0 then gv_b (spX0_leafRow f h 0) (fun q6 => q6) else gv_b (spX0_leafRowAsSeen f h ((nI w1) - 1) p2) (fun q15 => gv_b (spX0_leafRowAsSeen f h (nI w1) p2) (fun q22 => gv_b (spX0_leafRowAsSeen f h ((nI w1) + 1) p2) (fun q32 => lpX0_leafRowNext_43 w1 q15 q22 q32 f h 12 0 0)))) := rfl
set_option maxHeartbeats 4000000 in
set_option maxRecDepth 100000 in
theorem kX0_leafRowNext (l : Launch) (dC : Nat → ClassId) (dI : Nat → Nat → Nat) (cI cL : ClassId) (h0 : Nat) (h1 : Nat) (h2 : Nat) (f : Nat → Int32) (h : Nat → Int32) (p1 : Int32) (w1 : Nat) (hw1 : p1 = nI w1) (p2 : Int32) (hy0 : w1 < 8) : gv_Mi l yX0_leafRowNext wsX0_leafRowNext 3 70 (dC, dI) [(cI, .int), (cL, .long)] [.ref h0, .int p1, .int p2] (gv_W cI h0 h1 h2 f h) (fun (r : Int32) (_ : Unit) => r = spX0_leafRowNext f h w1 p2) (fun (_ : Unit) => (gv_W cI h0 h1 h2 f h)) := by
  subst hw1
  refine gv_ofi (cc := cX0_leafRowNext) (maxL := 10) (own := RX0) (by decide) rfl (Nat.le_of_ble_eq_true rfl) rfl ?_
  intro A p e s m args below meth c Q ls H locs hx hb hml hts hown hP hK hD hN hS hl kr
  have inX0 : ∀ w ∈ wsX00, w ∈ wsX0_leafRowNext := (fun _ h => List.mem_cons_of_mem _ (List.mem_append_right _ h))
  have hl : lv_has ls 10 [(0, .ref h0), (1, .int (nI w1)), (2, .int p2)] := hl
  have he := (spX0_leafRowNext_e f h w1 p2).symm
  refine lv_iload_n hx hb dX0_leafRowNext_0 rfl (lv_at hl 1 rfl) ?_
  refine lv_if_ne (tgt := 10) hx hb dX0_leafRowNext_1 (by decide) (fun cd1 => ?_) (fun cd1 => ?_)
  · have he := gv_f cd1 he
    refine lv_aload_n hx hb dX0_leafRowNext_10 rfl (lv_at hl 0 rfl) ?_
    refine lv_iload_n hx hb dX0_leafRowNext_11 rfl (lv_at hl 1 rfl) ?_
    refine lv_iconst (v := 1) hx hb dX0_leafRowNext_12 (by decide) ?_
    refine lv_isub hx hb dX0_leafRowNext_13 ?_
    refine lv_iload_n hx hb dX0_leafRowNext_14 rfl (lv_at hl 2 rfl) ?_
    have hPc : va_P (dC, dI) vwCl (gv_W cI h0 h1 h2 f h) H := gv_sub [0, 1, 2] hP rfl
    have hDc : va_D (gv_in (gv_W cI h0 h1 h2 f h)) (gv_W cI h0 h1 h2 f h) := gv_D hD [0, 1, 2] (by decide) rfl
    refine gv_ki (wf := (fun (_ : Unit) => (gv_W cI h0 h1 h2 f h))) (wc := (gv_W cI h0 h1 h2 f h)) [0, 1, 2] (fun _ => rfl) hP hD hS rfl rfl (va_runV (As := [.int ((nI w1) - 1), .int p2]) (rest := []) ⟨hx, hb, hml, hown, hts⟩ (kX0_leafRowAsSeen l dC dI cI cL h0 h1 h2 f h ((nI w1) - 1) p2 (gv_in (gv_W cI h0 h1 h2 f h))) (cwV (rm := gv_R 1 21) 2 hts gX0_leafRowNext_X0_leafRowAsSeen rfl rfl rfl (by decide +kernel) ⟨Nat.le_of_ble_eq_true rfl, Nat.le_of_ble_eq_true rfl⟩) (gv_preV (ci := 0) hK hPc hDc hN rfl rfl) rfl rfl hl.1 rfl (lv_room (Nat.le_of_ble_eq_true rfl)) dX0_leafRowNext_15 ⟨Nat.zero_le _, Nat.zero_le _⟩) (fun q15 u H locs hw hP hD hS => ?_)
    have he := gv_q hw he
    have hP : va_P (dC, dI) vwCl (gv_W cI h0 h1 h2 f h) H := hP
    have hD : va_D A (gv_W cI h0 h1 h2 f h) := hD
    refine lv_istore_n (lv' := [(3, .int q15), (0, .ref h0), (1, .int (nI w1)), (2, .int p2)]) hx hb dX0_leafRowNext_18 rfl hl (by decide) rfl (fun ls hl => ?_)
    refine lv_aload_n hx hb dX0_leafRowNext_19 rfl (lv_at hl 1 rfl) ?_
    refine lv_iload_n hx hb dX0_leafRowNext_20 rfl (lv_at hl 2 rfl) ?_
    refine lv_iload_n hx hb dX0_leafRowNext_21 rfl (lv_at hl 3 rfl) ?_
    have hPc : va_P (dC, dI) vwCl (gv_W cI h0 h1 h2 f h) H := gv_sub [0, 1, 2] hP rfl
    have hDc : va_D (gv_in (gv_W cI h0 h1 h2 f h)) (gv_W cI h0 h1 h2 f h) := gv_D hD [0, 1, 2] (by decide) rfl
    refine gv_ki (wf := (fun (_ : Unit) => (gv_W cI h0 h1 h2 f h))) (wc := (gv_W cI h0 h1 h2 f h)) [0, 1, 2] (fun _ => rfl) hP hD hS rfl rfl (va_runV (As := [.int (nI w1), .int p2]) (rest := []) ⟨hx, hb, hml, hown, hts⟩ (kX0_leafRowAsSeen l dC dI cI cL h0 h1 h2 f h (nI w1) p2 (gv_in (gv_W cI h0 h1 h2 f h))) (cwV (rm := gv_R 1 21) 2 hts gX0_leafRowNext_X0_leafRowAsSeen rfl rfl rfl (by decide +kernel) ⟨Nat.le_of_ble_eq_true rfl, Nat.le_of_ble_eq_true rfl⟩) (gv_preV (ci := 0) hK hPc hDc hN rfl rfl) rfl rfl hl.1 rfl (lv_room (Nat.le_of_ble_eq_true rfl)) dX0_leafRowNext_22 ⟨Nat.zero_le _, Nat.zero_le _⟩) (fun q22 u H locs hw hP hD hS => ?_)
    have he := gv_q hw he
    have hP : va_P (dC, dI) vwCl (gv_W cI h0 h1 h2 f h) H := hP
    have hD : va_D A (gv_W cI h0 h1 h2 f h) := hD
    refine lv_istore (lv' := [(4, .int q22), (3, .int q15), (0, .ref h0), (1, .int (nI w1)), (2, .int p2)]) hx hb dX0_leafRowNext_25 hl (by decide) rfl (fun ls hl => ?_)
    refine lv_aload_n hx hb dX0_leafRowNext_27 rfl (lv_at hl 2 rfl) ?_
    refine lv_iload_n hx hb dX0_leafRowNext_28 rfl (lv_at hl 3 rfl) ?_
    refine lv_iconst (v := 1) hx hb dX0_leafRowNext_29 (by decide) ?_
    refine lv_iadd hx hb dX0_leafRowNext_30 ?_
    refine lv_iload_n hx hb dX0_leafRowNext_31 rfl (lv_at hl 4 rfl) ?_
    have hPc : va_P (dC, dI) vwCl (gv_W cI h0 h1 h2 f h) H := gv_sub [0, 1, 2] hP rfl
    have hDc : va_D (gv_in (gv_W cI h0 h1 h2 f h)) (gv_W cI h0 h1 h2 f h) := gv_D hD [0, 1, 2] (by decide) rfl
    refine gv_ki (wf := (fun (_ : Unit) => (gv_W cI h0 h1 h2 f h))) (wc := (gv_W cI h0 h1 h2 f h)) [0, 1, 2] (fun _ => rfl) hP hD hS rfl rfl (va_runV (As := [.int ((nI w1) + 1), .int p2]) (rest := []) ⟨hx, hb, hml, hown, hts⟩ (kX0_leafRowAsSeen l dC dI cI cL h0 h1 h2 f h ((nI w1) + 1) p2 (gv_in (gv_W cI h0 h1 h2 f h))) (cwV (rm := gv_R 1 21) 2 hts gX0_leafRowNext_X0_leafRowAsSeen rfl rfl rfl (by decide +kernel) ⟨Nat.le_of_ble_eq_true rfl, Nat.le_of_ble_eq_true rfl⟩) (gv_preV (ci := 0) hK hPc hDc hN rfl rfl) rfl rfl hl.1 rfl (lv_room (Nat.le_of_ble_eq_true rfl)) dX0_leafRowNext_32 ⟨Nat.zero_le _, Nat.zero_le _⟩) (fun q32 u H locs hw hP hD hS => ?_)
    have he := gv_q hw he
    have hP : va_P (dC, dI) vwCl (gv_W cI h0 h1 h2 f h) H := hP
    have hD : va_D A (gv_W cI h0 h1 h2 f h) := hD
    refine lv_istore (lv' := [(5, .int q32), (4, .int q22), (3, .int q15), (0, .ref h0), (1, .int (nI w1)), (2, .int p2)]) hx hb dX0_leafRowNext_35 hl (by decide) rfl (fun ls hl => ?_)
    refine lv_iconst (v := 0) hx hb dX0_leafRowNext_37 (by decide) ?_
    refine lv_istore (lv' := [(6, .int 0), (5, .int q32), (4, .int q22), (3, .int q15), (0, .ref h0), (1, .int (nI w1)), (2, .int p2)]) hx hb dX0_leafRowNext_38 hl (by decide) rfl (fun ls hl => ?_)
    refine lv_iconst (v := 0) hx hb dX0_leafRowNext_40 (by decide) ?_
    refine lv_istore (lv' := [(7, .int 0), (6, .int 0), (5, .int q32), (4, .int q22), (3, .int q15), (0, .ref h0), (1, .int (nI w1)), (2, .int p2)]) hx hb dX0_leafRowNext_41 hl (by decide) rfl (fun ls hl => ?_)
    have L43 : ∀ (n43 i43 : Nat) (x6_43 : Int32) (H : Heap) (locs : List Loc) (ls : Array Slot), i43 + n43 = 12 → lpX0_leafRowNext_43 w1 q15 q22 q32 f h n43 i43 x6_43 = spX0_leafRowNext f h w1 p2 → va_P (dC, dI) vwCl (gv_W cI h0 h1 h2 f h) H → va_D A (gv_W cI h0 h1 h2 f h) → va_S A s.heap H locs → lv_has ls 10 [(0, .ref h0), (1, .int (nI w1)), (2, .int p2), (3, .int q15), (4, .int q22), (5, .int q32), (6, .int x6_43), (7, .int (nI i43))] → W p l e (gv_R 3 70) s m args below meth c H locs 0 0 Q (F0 m 43 ls []) := by
      intro n43
      induction n43 with
      | zero =>
        intro i43 x6_43 H locs ls hi43 he hP hD hS hl
        have he := (lpX0_leafRowNext_43_0 _ _ _ _ _ _ _ _).symm.trans he
        refine lv_iload hx hb dX0_leafRowNext_43 (lv_at hl 7 rfl) ?_
        refine lv_bipush (v := 12) hx hb dX0_leafRowNext_45 (by decide) ?_
        refine lv_icmp_ge (tgt := 107) hx hb dX0_leafRowNext_47 (by decide) (fun _ => ?_) (fun c => absurd c (gv_ge (N := 12) rfl (rfl : (12 : Int32) = nI 12) (by omega) (by omega)))
        refine lv_iload hx hb dX0_leafRowNext_107 (lv_at hl 6 rfl) ?_
        exact kr x6_43 () _ _ _ _ he hP hS dX0_leafRowNext_109
      | succ n43 ih43 =>
        intro i43 x6_43 H locs ls hi43 he hP hD hS hl
        have he := (lpX0_leafRowNext_43_s _ _ _ _ _ _ _ _ _).symm.trans he
        refine lv_iload hx hb dX0_leafRowNext_43 (lv_at hl 7 rfl) ?_
        refine lv_bipush (v := 12) hx hb dX0_leafRowNext_45 (by decide) ?_
        refine lv_icmp_ge (tgt := 107) hx hb dX0_leafRowNext_47 (by decide) (fun c => absurd c (gv_lt (N := 12) rfl (rfl : (12 : Int32) = nI 12) (by omega) (by omega))) (fun _ => ?_)
        refine lv_iload_n hx hb dX0_leafRowNext_50 rfl (lv_at hl 3 rfl) ?_
        refine lv_iload hx hb dX0_leafRowNext_51 (lv_at hl 7 rfl) ?_
        refine lv_ishr hx hb dX0_leafRowNext_53 ?_
        have hPc : va_P (dC, dI) vwCl ([] : va_W) H := gv_P0
        have hDc : va_D (gv_in ([] : va_W)) ([] : va_W) := gv_D0
        refine gv_ki (wf := (fun (_ : Unit) => ([] : va_W))) (wc := ([] : va_W)) [] (fun _ => rfl) hP hD hS rfl rfl (va_runS (As := [.int (q15 >>> ((nI i43) &&& 31))]) (rest := []) ⟨hx, hb, hml, hown, hts⟩ (kX0_countHolders l dC dI cI cL (q15 >>> ((nI i43) &&& 31)) (gv_in ([] : va_W))) (va_cwS (rm := gv_R 1 20) 1 hts gX0_leafRowNext_X0_countHolders rfl rfl rfl (by decide +kernel) ⟨Nat.le_of_ble_eq_true rfl, Nat.le_of_ble_eq_true rfl⟩) (gv_preS hK hPc hDc hN) rfl rfl hl.1 rfl (lv_room (Nat.le_of_ble_eq_true rfl)) dX0_leafRowNext_54 ⟨Nat.zero_le _, Nat.zero_le _⟩) (fun q54 u H locs hw hP hD hS => ?_)
        have he := gv_q hw he
        have hP : va_P (dC, dI) vwCl (gv_W cI h0 h1 h2 f h) H := hP
        have hD : va_D A (gv_W cI h0 h1 h2 f h) := hD
        refine lv_istore (lv' := [(8, .int q54), (0, .ref h0), (1, .int (nI w1)), (2, .int p2), (3, .int q15), (4, .int q22), (5, .int q32), (6, .int x6_43), (7, .int (nI i43))]) hx hb dX0_leafRowNext_57 hl (by decide) rfl (fun ls hl => ?_)
        refine lv_iload_n hx hb dX0_leafRowNext_59 rfl (lv_at hl 4 rfl) ?_
        refine lv_iload hx hb dX0_leafRowNext_60 (lv_at hl 8 rfl) ?_
        refine lv_ishr hx hb dX0_leafRowNext_62 ?_
        refine lv_iload hx hb dX0_leafRowNext_63 (lv_at hl 5 rfl) ?_
        refine lv_iload hx hb dX0_leafRowNext_65 (lv_at hl 8 rfl) ?_
        refine lv_ishr hx hb dX0_leafRowNext_67 ?_
        refine lv_iload hx hb dX0_leafRowNext_68 (lv_at hl 6 rfl) ?_
        refine lv_iload hx hb dX0_leafRowNext_70 (lv_at hl 8 rfl) ?_
        refine lv_ishr hx hb dX0_leafRowNext_72 ?_
        have hPc : va_P (dC, dI) vwCl ([] : va_W) H := gv_P0
        have hDc : va_D (gv_in ([] : va_W)) ([] : va_W) := gv_D0
        refine gv_ki (wf := (fun (_ : Unit) => ([] : va_W))) (wc := ([] : va_W)) [] (fun _ => rfl) hP hD hS rfl rfl (va_runS (As := [.int (q15 >>> ((nI i43) &&& 31)), .int (q22 >>> ((nI i43) &&& 31)), .int (q32 >>> ((nI i43) &&& 31))]) (rest := []) ⟨hx, hb, hml, hown, hts⟩ (kX0_countNeighbours l dC dI cI cL (q15 >>> ((nI i43) &&& 31)) (q22 >>> ((nI i43) &&& 31)) (q32 >>> ((nI i43) &&& 31)) (gv_in ([] : va_W))) (va_cwS (rm := gv_R 1 20) 3 hts gX0_leafRowNext_X0_countNeighbours rfl rfl rfl (by decide +kernel) ⟨Nat.le_of_ble_eq_true rfl, Nat.le_of_ble_eq_true rfl⟩) (gv_preS hK hPc hDc hN) rfl rfl hl.1 rfl (lv_room (Nat.le_of_ble_eq_true rfl)) dX0_leafRowNext_73 ⟨Nat.zero_le _, Nat.zero_le _⟩) (fun q73 u H locs hw hP hD hS => ?_)
        have he := gv_q hw he
        have hP : va_P (dC, dI) vwCl (gv_W cI h0 h1 h2 f h) H := hP
        have hD : va_D A (gv_W cI h0 h1 h2 f h) := hD
        refine lv_istore (lv' := [(9, .int q73), (8, .int q54), (0, .ref h0), (1, .int (nI w1)), (2, .int p2), (3, .int q15), (4, .int q22), (5, .int q32), (6, .int x6_43), (7, .int (nI i43))]) hx hb dX0_leafRowNext_76 hl (by decide) rfl (fun ls hl => ?_)
        refine lv_aload_n hx hb dX0_leafRowNext_78 rfl (lv_at hl 2 rfl) ?_
        refine lv_iload_n hx hb dX0_leafRowNext_79 rfl (lv_at hl 3 rfl) ?_
        refine lv_iload hx hb dX0_leafRowNext_80 (lv_at hl 9 rfl) ?_
        refine lv_iload hx hb dX0_leafRowNext_82 (lv_at hl 1 rfl) ?_
        refine lv_iload hx hb dX0_leafRowNext_84 (lv_at hl 0 rfl) ?_
        have hPc : va_P (dC, dI) vwCl (gv_W cI h0 h1 h2 f h) H := gv_sub [0, 1, 2] hP rfl
        have hDc : va_D (gv_in (gv_W cI h0 h1 h2 f h)) (gv_W cI h0 h1 h2 f h) := gv_D hD [0, 1, 2] (by decide) rfl
        refine gv_ki (wf := (fun (_ : Unit) => (gv_W cI h0 h1 h2 f h))) (wc := (gv_W cI h0 h1 h2 f h)) [0, 1, 2] (fun _ => rfl) hP hD hS rfl rfl (va_runV (As := [.int (nI w1), .int (nI i43), .int q54, .int q73]) (rest := []) ⟨hx, hb, hml, hown, hts⟩ (kX0_bearsLeafNext l dC dI cI cL h0 h1 h2 f h (nI w1) w1 rfl (nI i43) q54 q73 (by omega) (gv_in (gv_W cI h0 h1 h2 f h))) (cwV (rm := gv_R 2 45) 4 hts gX0_leafRowNext_X0_bearsLeafNext rfl rfl rfl (by decide +kernel) ⟨Nat.le_of_ble_eq_true rfl, Nat.le_of_ble_eq_true rfl⟩) (gv_preV (ci := 0) hK hPc hDc hN rfl rfl) rfl rfl hl.1 rfl (lv_room (Nat.le_of_ble_eq_true rfl)) dX0_leafRowNext_86 ⟨Nat.zero_le _, Nat.zero_le _⟩) (fun q86 u H locs hw hP hD hS => ?_)
        have he := gv_q hw he
        have hP : va_P (dC, dI) vwCl (gv_W cI h0 h1 h2 f h) H := hP
        have hD : va_D A (gv_W cI h0 h1 h2 f h) := hD
        refine lv_if_eq (tgt := 101) hx hb dX0_leafRowNext_89 (by decide) (fun cd89 => ?_) (fun cd89 => ?_)
        · have he := gv_t cd89 he
          refine lv_iinc (v := (nI (i43 + 1))) (lv' := [(7, .int (nI (i43 + 1))), (9, .int q73), (8, .int q54), (0, .ref h0), (1, .int (nI w1)), (2, .int p2), (3, .int q15), (4, .int q22), (5, .int q32), (6, .int x6_43)]) hx hb dX0_leafRowNext_101 hl (k := 9) rfl (nI_1 i43) (by decide) rfl (fun ls hl => ?_)
          refine lv_goto (tgt := 43) hx hb dX0_leafRowNext_104 (by decide) ?_
          exact ih43 (i43 + 1) x6_43 _ _ _ (by omega) he hP hD hS (lv_sub hl [3, 4, 5, 6, 7, 8, 9, 0] rfl)
        · have he := gv_f cd89 he
          refine lv_iload hx hb dX0_leafRowNext_92 (lv_at hl 8 rfl) ?_
          refine lv_iconst (v := 1) hx hb dX0_leafRowNext_94 (by decide) ?_
          refine lv_iload hx hb dX0_leafRowNext_95 (lv_at hl 9 rfl) ?_
          refine lv_ishl hx hb dX0_leafRowNext_97 ?_
          refine lv_ior hx hb dX0_leafRowNext_98 ?_
          refine lv_istore (lv' := [(6, .int (x6_43 ||| ((1 : Int32) <<< ((nI i43) &&& 31)))), (9, .int q73), (8, .int q54), (0, .ref h0), (1, .int (nI w1)), (2, .int p2), (3, .int q15), (4, .int q22), (5, .int q32), (7, .int (nI i43))]) hx hb dX0_leafRowNext_99 hl (by decide) rfl (fun ls hl => ?_)
          refine lv_iinc (v := (nI (i43 + 1))) (lv' := [(7, .int (nI (i43 + 1))), (6, .int (x6_43 ||| ((1 : Int32) <<< ((nI i43) &&& 31)))), (9, .int q73), (8, .int q54), (0, .ref h0), (1, .int (nI w1)), (2, .int p2), (3, .int q15), (4, .int q22), (5, .int q32)]) hx hb dX0_leafRowNext_101 hl (k := 9) rfl (nI_1 i43) (by decide) rfl (fun ls hl => ?_)
          refine lv_goto (tgt := 43) hx hb dX0_leafRowNext_104 (by decide) ?_
          exact ih43 (i43 + 1) (x6_43 ||| ((1 : Int32) <<< ((nI i43) &&& 31))) _ _ _ (by omega) he hP hD hS (lv_sub hl [4, 5, 6, 7, 8, 9, 1, 0] rfl)
    exact L43 12 0 0 _ _ _ (by omega) he hP hD hS (lv_sub hl [5, 6, 7, 4, 3, 2, 1, 0] rfl)
  · have he := gv_t cd1 he
    refine lv_aload_n hx hb dX0_leafRowNext_4 rfl (lv_at hl 0 rfl) ?_
    refine lv_iconst (v := 0) hx hb dX0_leafRowNext_5 (by decide) ?_
    have hPc : va_P (dC, dI) vwCl (gv_W cI h0 h1 h2 f h) H := gv_sub [0, 1, 2] hP rfl
    have hDc : va_D (gv_in (gv_W cI h0 h1 h2 f h)) (gv_W cI h0 h1 h2 f h) := gv_D hD [0, 1, 2] (by decide) rfl
    refine gv_ki (wf := (fun (_ : Unit) => (gv_W cI h0 h1 h2 f h))) (wc := (gv_W cI h0 h1 h2 f h)) [0, 1, 2] (fun _ => rfl) hP hD hS rfl rfl (va_runV (As := [.int 0]) (rest := []) ⟨hx, hb, hml, hown, hts⟩ (kX0_leafRow l dC dI cI cL h0 h1 h2 f h 0 (gv_in (gv_W cI h0 h1 h2 f h))) (cwV (rm := gv_R 0 0) 1 hts gX0_leafRowNext_X0_leafRow rfl rfl rfl (by decide +kernel) ⟨Nat.le_of_ble_eq_true rfl, Nat.le_of_ble_eq_true rfl⟩) (gv_preV (ci := 0) hK hPc hDc hN rfl rfl) rfl rfl hl.1 rfl (lv_room (Nat.le_of_ble_eq_true rfl)) dX0_leafRowNext_6 ⟨Nat.zero_le _, Nat.zero_le _⟩) (fun q6 u H locs hw hP hD hS => ?_)
    have he := gv_q hw he
    have hP : va_P (dC, dI) vwCl (gv_W cI h0 h1 h2 f h) H := hP
    have hD : va_D A (gv_W cI h0 h1 h2 f h) := hD
    exact kr q6 () _ _ _ _ he hP hS dX0_leafRowNext_9
def lpX0_takeTopmost_6 (b1_6 : Int32) (b2_6 : Int32) (h_c : Nat → Int32) : Nat → (Int32) → (Nat → Int32) → Int32 × (Nat → Int32)
  | 0, x3_6, f_6 => (x3_6, f_6)
  | n6 + 1, x3_6, f_6 => (if b2_6 ≤ x3_6 then (x3_6, f_6) else gv_b (spX0_hasLeafAt f_6 h_c (nI n6) b1_6) (fun q20 => (if q20 = 0 then lpX0_takeTopmost_6 b1_6 b2_6 h_c n6 x3_6 f_6 else gv_b (spX0_takeLeaf f_6 h_c (nI n6) b1_6) (fun f_q30 => lpX0_takeTopmost_6 b1_6 b2_6 h_c n6 (x3_6 + 1) f_q30))))
theorem lpX0_takeTopmost_6_0 (b1_6 : Int32) (b2_6 : Int32) (h_c : Nat → Int32) (x3_6 : Int32) (f_6 : Nat → Int32) : lpX0_takeTopmost_6 b1_6 b2_6 h_c 0 x3_6 f_6 = (x3_6, f_6) := rfl
theorem lpX0_takeTopmost_6_s (b1_6 : Int32) (b2_6 : Int32) (h_c : Nat → Int32) (n6 : Nat) (x3_6 : Int32) (f_6 : Nat → Int32) : lpX0_takeTopmost_6 b1_6 b2_6 h_c (n6 + 1) x3_6 f_6 = (if b2_6 ≤ x3_6 then (x3_6, f_6) else gv_b (spX0_hasLeafAt f_6 h_c (nI n6) b1_6) (fun q20 => (if q20 = 0 then lpX0_takeTopmost_6 b1_6 b2_6 h_c n6 x3_6 f_6 else gv_b (spX0_takeLeaf f_6 h_c (nI n6) b1_6) (fun f_q30 => lpX0_takeTopmost_6 b1_6 b2_6 h_c n6 (x3_6 + 1) f_q30)))) := rfl
def spX0_takeTopmost (f : Nat → Int32) (h : Nat → Int32) (p1 : Int32) (p2 : Int32) : Int32 × (Nat → Int32) := lpX0_takeTopmost_6 p1 p2 h 8 0 f
theorem spX0_takeTopmost_e (f : Nat → Int32) (h : Nat → Int32) (p1 : Int32) (p2 : Int32) : spX0_takeTopmost f h p1 p2 = lpX0_takeTopmost_6 p1 p2 h 8 0 f := rfl
set_option maxHeartbeats 4000000 in
set_option maxRecDepth 100000 in
theorem kX0_takeTopmost (l : Launch) (dC : Nat → ClassId) (dI : Nat → Nat → Nat) (cI cL : ClassId) (h0 : Nat) (h1 : Nat) (h2 : Nat) (f : Nat → Int32) (h : Nat → Int32) (p1 : Int32) (p2 : Int32) : gv_Mi l yX0_takeTopmost wsX0_takeTopmost 2 43 (dC, dI) [(cI, .int), (cL, .long)] [.ref h0, .int p1, .int p2] (gv_W cI h0 h1 h2 f h) (fun (r : Int32) (u : (Nat → Int32)) => (r, u) = spX0_takeTopmost f h p1 p2) (fun (u : (Nat → Int32)) => (gv_W cI h0 h1 h2 u h)) := by
  refine gv_ofi (cc := cX0_takeTopmost) (maxL := 5) (own := RX0) (by decide) rfl (Nat.le_of_ble_eq_true rfl) rfl ?_
  intro A p e s m args below meth c Q ls H locs hx hb hml hts hown hP hK hD hN hS hl kr
  have inX0 : ∀ w ∈ wsX00, w ∈ wsX0_takeTopmost := (fun _ h => List.mem_cons_of_mem _ (List.mem_append_right _ h))
  have hl : lv_has ls 5 [(0, .ref h0), (1, .int p1), (2, .int p2)] := hl
  have he := (spX0_takeTopmost_e f h p1 p2).symm
  refine lv_iconst (v := 0) hx hb dX0_takeTopmost_0 (by decide) ?_
  refine lv_istore_n (lv' := [(3, .int 0), (0, .ref h0), (1, .int p1), (2, .int p2)]) hx hb dX0_takeTopmost_1 rfl hl (by decide) rfl (fun ls hl => ?_)
  refine lv_bipush (v := 7) hx hb dX0_takeTopmost_2 (by decide) ?_
  refine lv_istore (lv' := [(4, .int 7), (3, .int 0), (0, .ref h0), (1, .int p1), (2, .int p2)]) hx hb dX0_takeTopmost_4 hl (by decide) rfl (fun ls hl => ?_)
  have L6 : ∀ (n6 : Nat) (x3_6 : Int32) (f_6 : Nat → Int32) (H : Heap) (locs : List Loc) (ls : Array Slot), n6 ≤ 8 → lpX0_takeTopmost_6 p1 p2 h n6 x3_6 f_6 = spX0_takeTopmost f h p1 p2 → va_P (dC, dI) vwCl (gv_W cI h0 h1 h2 f_6 h) H → va_D A (gv_W cI h0 h1 h2 f_6 h) → va_S A s.heap H locs → lv_has ls 5 [(0, .ref h0), (1, .int p1), (2, .int p2), (3, .int x3_6), (4, .int (nI n6 - 1))] → W p l e (gv_R 2 43) s m args below meth c H locs 0 0 Q (F0 m 6 ls []) := by
    intro n6
    induction n6 with
    | zero =>
      intro x3_6 f_6 H locs ls hi6 he hP hD hS hl
      have he := (lpX0_takeTopmost_6_0 _ _ _ _ _).symm.trans he
      have hl : lv_has ls 5 [(0, .ref h0), (1, .int p1), (2, .int p2), (3, .int x3_6), (4, .int (nI 0 - 1))] := hl
      refine lv_iload hx hb dX0_takeTopmost_6 (lv_at hl 4 rfl) ?_
      refine lv_if_lt (tgt := 42) hx hb dX0_takeTopmost_8 (by decide) (fun _ => ?_) (fun c => absurd (by decide) c)
      refine lv_iload_n hx hb dX0_takeTopmost_42 rfl (lv_at hl 3 rfl) ?_
      exact kr x3_6 f_6 _ _ _ _ he hP hS dX0_takeTopmost_43
    | succ n6 ih6 =>
      intro x3_6 f_6 H locs ls hi6 he hP hD hS hl
      have he := (lpX0_takeTopmost_6_s _ _ _ _ _ _).symm.trans he
      have hl : lv_has ls 5 [(0, .ref h0), (1, .int p1), (2, .int p2), (3, .int x3_6), (4, .int (nI n6))] := by rw [nI_pred] at hl; exact hl
      refine lv_iload hx hb dX0_takeTopmost_6 (lv_at hl 4 rfl) ?_
      refine lv_if_lt (tgt := 42) hx hb dX0_takeTopmost_8 (by decide) (fun c => absurd c (nI_pos (by omega))) (fun _ => ?_)
      refine lv_iload_n hx hb dX0_takeTopmost_11 rfl (lv_at hl 3 rfl) ?_
      refine lv_iload_n hx hb dX0_takeTopmost_12 rfl (lv_at hl 2 rfl) ?_
      refine lv_icmp_ge (tgt := 42) hx hb dX0_takeTopmost_13 (by decide) (fun cd13 => ?_) (fun cd13 => ?_)
      · have he := gv_t cd13 he
        refine lv_iload_n hx hb dX0_takeTopmost_42 rfl (lv_at hl 3 rfl) ?_
        exact kr x3_6 f_6 _ _ _ _ he hP hS dX0_takeTopmost_43
      · have he := gv_f cd13 he
        refine lv_aload_n hx hb dX0_takeTopmost_16 rfl (lv_at hl 0 rfl) ?_
        refine lv_iload hx hb dX0_takeTopmost_17 (lv_at hl 4 rfl) ?_
        refine lv_iload_n hx hb dX0_takeTopmost_19 rfl (lv_at hl 1 rfl) ?_
        have hPc : va_P (dC, dI) vwCl (gv_W cI h0 h1 h2 f_6 h) H := gv_sub [0, 1, 2] hP rfl
        have hDc : va_D (gv_in (gv_W cI h0 h1 h2 f_6 h)) (gv_W cI h0 h1 h2 f_6 h) := gv_D hD [0, 1, 2] (by decide) rfl
        refine gv_ki (wf := (fun (_ : Unit) => (gv_W cI h0 h1 h2 f_6 h))) (wc := (gv_W cI h0 h1 h2 f_6 h)) [0, 1, 2] (fun _ => rfl) hP hD hS rfl rfl (va_runV (As := [.int (nI n6), .int p1]) (rest := []) ⟨hx, hb, hml, hown, hts⟩ (kX0_hasLeafAt l dC dI cI cL h0 h1 h2 f_6 h (nI n6) p1 (gv_in (gv_W cI h0 h1 h2 f_6 h))) (cwV (rm := gv_R 1 21) 2 hts gX0_takeTopmost_X0_hasLeafAt rfl rfl rfl (by decide +kernel) ⟨Nat.le_of_ble_eq_true rfl, Nat.le_of_ble_eq_true rfl⟩) (gv_preV (ci := 0) hK hPc hDc hN rfl rfl) rfl rfl hl.1 rfl (lv_room (Nat.le_of_ble_eq_true rfl)) dX0_takeTopmost_20 ⟨Nat.zero_le _, Nat.zero_le _⟩) (fun q20 u H locs hw hP hD hS => ?_)
        have he := gv_q hw he
        have hP : va_P (dC, dI) vwCl (gv_W cI h0 h1 h2 f_6 h) H := hP
        have hD : va_D A (gv_W cI h0 h1 h2 f_6 h) := hD
        refine lv_if_eq (tgt := 36) hx hb dX0_takeTopmost_23 (by decide) (fun cd23 => ?_) (fun cd23 => ?_)
        · have he := gv_t cd23 he
          refine lv_iinc (v := (nI n6 - 1)) (lv' := [(4, .int (nI n6 - 1)), (0, .ref h0), (1, .int p1), (2, .int p2), (3, .int x3_6)]) hx hb dX0_takeTopmost_36 hl (k := 4) rfl (gv_dec _) (by decide) rfl (fun ls hl => ?_)
          refine lv_goto (tgt := 6) hx hb dX0_takeTopmost_39 (by decide) ?_
          exact ih6  x3_6 f_6 _ _ _ (by omega) he hP hD hS (lv_sub hl [1, 2, 3, 4, 0] rfl)
        · have he := gv_f cd23 he
          refine lv_aload_n hx hb dX0_takeTopmost_26 rfl (lv_at hl 0 rfl) ?_
          refine lv_iload hx hb dX0_takeTopmost_27 (lv_at hl 4 rfl) ?_
          refine lv_iload_n hx hb dX0_takeTopmost_29 rfl (lv_at hl 1 rfl) ?_
          have hPc : va_P (dC, dI) vwCl (gv_W cI h0 h1 h2 f_6 h) H := gv_sub [0, 1, 2] hP rfl
          have hDc : va_D (gv_in (gv_W cI h0 h1 h2 f_6 h)) (gv_W cI h0 h1 h2 f_6 h) := gv_D hD [0, 1, 2] (by decide) rfl
          refine gv_kv (wf := (fun (u : (Nat → Int32)) => (gv_W cI h0 h1 h2 u h))) (wc := (gv_W cI h0 h1 h2 f_6 h)) [0, 1, 2] (fun _ => rfl) hP hD hS rfl rfl (va_runV (As := [.int (nI n6), .int p1]) (rest := []) ⟨hx, hb, hml, hown, hts⟩ (kX0_takeLeaf l dC dI cI cL h0 h1 h2 f_6 h (nI n6) p1 (gv_in (gv_W cI h0 h1 h2 f_6 h))) (cwV (rm := gv_R 1 21) 2 hts gX0_takeTopmost_X0_takeLeaf rfl rfl rfl (by decide +kernel) ⟨Nat.le_of_ble_eq_true rfl, Nat.le_of_ble_eq_true rfl⟩) (gv_preV (ci := 0) hK hPc hDc hN rfl rfl) rfl rfl hl.1 rfl (lv_room (Nat.le_of_ble_eq_true rfl)) dX0_takeTopmost_30 ⟨Nat.zero_le _, Nat.zero_le _⟩) (fun u H locs hw hP hD hS => ?_)
          obtain ⟨f_q30, rfl⟩ : ∃ z, z = u := ⟨_, rfl⟩
          have he := gv_q hw he
          have hP : va_P (dC, dI) vwCl (gv_W cI h0 h1 h2 f_q30 h) H := hP
          have hD : va_D A (gv_W cI h0 h1 h2 f_q30 h) := hD
          refine lv_iinc (v := x3_6 + 1) (lv' := [(3, .int (x3_6 + 1)), (0, .ref h0), (1, .int p1), (2, .int p2), (4, .int (nI n6))]) hx hb dX0_takeTopmost_33 hl (k := 3) rfl rfl (by decide) rfl (fun ls hl => ?_)
          refine lv_iinc (v := (nI n6 - 1)) (lv' := [(4, .int (nI n6 - 1)), (3, .int (x3_6 + 1)), (0, .ref h0), (1, .int p1), (2, .int p2)]) hx hb dX0_takeTopmost_36 hl (k := 4) rfl (gv_dec _) (by decide) rfl (fun ls hl => ?_)
          refine lv_goto (tgt := 6) hx hb dX0_takeTopmost_39 (by decide) ?_
          exact ih6  (x3_6 + 1) f_q30 _ _ _ (by omega) he hP hD hS (lv_sub hl [2, 3, 4, 1, 0] rfl)
  exact L6 8 0 f _ _ _ (by omega) he hP hD hS (lv_sub hl [2, 3, 4, 1, 0] rfl)
def lpX0_becomeNextOf_44 (h_c : Nat → Int32) (f1_c : Nat → Int32) (g1_c : Nat → Int32) (be_c : Nat → Int32) : Nat → Nat → (Int32) → (Nat → Int32) → Int32 × (Nat → Int32) × (Nat → Int32)
  | 0, _, x4_44, f_44 => (x4_44, f_44, h_c)
  | n44 + 1, i44, x4_44, f_44 => gv_b (spX0_countInColumn f_44 h_c (nI i44)) (fun q59 => gv_b2 (spX0_takeTopmost f_44 h_c (nI i44) (q59 - (be_c i44))) (fun q67 f_q67 => lpX0_becomeNextOf_44 h_c f1_c g1_c be_c n44 (i44 + 1) (x4_44 + q67) f_q67))
theorem lpX0_becomeNextOf_44_0 (h_c : Nat → Int32) (f1_c : Nat → Int32) (g1_c : Nat → Int32) (be_c : Nat → Int32) (i44 : Nat) (x4_44 : Int32) (f_44 : Nat → Int32) : lpX0_becomeNextOf_44 h_c f1_c g1_c be_c 0 i44 x4_44 f_44 = (x4_44, f_44, h_c) := rfl
theorem lpX0_becomeNextOf_44_s (h_c : Nat → Int32) (f1_c : Nat → Int32) (g1_c : Nat → Int32) (be_c : Nat → Int32) (n44 : Nat) (i44 : Nat) (x4_44 : Int32) (f_44 : Nat → Int32) : lpX0_becomeNextOf_44 h_c f1_c g1_c be_c (n44 + 1) i44 x4_44 f_44 = gv_b (spX0_countInColumn f_44 h_c (nI i44)) (fun q59 => gv_b2 (spX0_takeTopmost f_44 h_c (nI i44) (q59 - (be_c i44))) (fun q67 f_q67 => lpX0_becomeNextOf_44 h_c f1_c g1_c be_c n44 (i44 + 1) (x4_44 + q67) f_q67)) := rfl
def lpX0_becomeNextOf_3 (b2_3 : Int32) (f1_c : Nat → Int32) (g1_c : Nat → Int32) (be_c : Nat → Int32) : Nat → Nat → (Nat → Int32) → (Nat → Int32) → Int32 × (Nat → Int32) × (Nat → Int32)
  | 0, _, f_3, h_3 => lpX0_becomeNextOf_44 h_3 f1_c g1_c be_c 12 0 0 f_3
  | n3 + 1, i3, f_3, h_3 => gv_b (spX0_leafRowNext f1_c g1_c i3 b2_3) (fun q20 => lpX0_becomeNextOf_3 b2_3 f1_c g1_c be_c n3 (i3 + 1) (upd f_3 i3 q20) (upd h_3 i3 0))
theorem lpX0_becomeNextOf_3_0 (b2_3 : Int32) (f1_c : Nat → Int32) (g1_c : Nat → Int32) (be_c : Nat → Int32) (i3 : Nat) (f_3 : Nat → Int32) (h_3 : Nat → Int32) : lpX0_becomeNextOf_3 b2_3 f1_c g1_c be_c 0 i3 f_3 h_3 = lpX0_becomeNextOf_44 h_3 f1_c g1_c be_c 12 0 0 f_3 := rfl
theorem lpX0_becomeNextOf_3_s (b2_3 : Int32) (f1_c : Nat → Int32) (g1_c : Nat → Int32) (be_c : Nat → Int32) (n3 : Nat) (i3 : Nat) (f_3 : Nat → Int32) (h_3 : Nat → Int32) : lpX0_becomeNextOf_3 b2_3 f1_c g1_c be_c (n3 + 1) i3 f_3 h_3 = gv_b (spX0_leafRowNext f1_c g1_c i3 b2_3) (fun q20 => lpX0_becomeNextOf_3 b2_3 f1_c g1_c be_c n3 (i3 + 1) (upd f_3 i3 q20) (upd h_3 i3 0)) := rfl
def spX0_becomeNextOf (f : Nat → Int32) (h : Nat → Int32) (f1 : Nat → Int32) (g1 : Nat → Int32) (be : Nat → Int32) (p2 : Int32) : Int32 × (Nat → Int32) × (Nat → Int32) := lpX0_becomeNextOf_3 p2 f1 g1 be 8 0 f h
theorem spX0_becomeNextOf_e (f : Nat → Int32) (h : Nat → Int32) (f1 : Nat → Int32) (g1 : Nat → Int32) (be : Nat → Int32) (p2 : Int32) : spX0_becomeNextOf f h f1 g1 be p2 = lpX0_becomeNextOf_3 p2 f1 g1 be 8 0 f h := rfl
set_option maxHeartbeats 4000000 in
set_option maxRecDepth 100000 in
theorem kX0_becomeNextOf (l : Launch) (dC : Nat → ClassId) (dI : Nat → Nat → Nat) (cI cL : ClassId) (h0 : Nat) (h1 : Nat) (h2 : Nat) (k0 : Nat) (k1 : Nat) (k2 : Nat) (b0 : Nat) (f : Nat → Int32) (h : Nat → Int32) (f1 : Nat → Int32) (g1 : Nat → Int32) (be : Nat → Int32) (p2 : Int32) : gv_Mi l yX0_becomeNextOf wsX0_becomeNextOf 4 99 (dC, dI) [(cI, .int), (cL, .long)] [.ref h0, .ref k0, .int p2, .ref b0] (gv_WWA cI h0 h1 h2 k0 k1 k2 b0 f h f1 g1 be) (fun (r : Int32) (u : (Nat → Int32) × (Nat → Int32)) => (r, u) = spX0_becomeNextOf f h f1 g1 be p2) (fun (u : (Nat → Int32) × (Nat → Int32)) => (gv_WWA cI h0 h1 h2 k0 k1 k2 b0 u.1 u.2 f1 g1 be)) := by
  refine gv_ofi (cc := cX0_becomeNextOf) (maxL := 6) (own := RX0) (by decide) rfl (Nat.le_of_ble_eq_true rfl) rfl ?_
  intro A p e s m args below meth c Q ls H locs hx hb hml hts hown hP hK hD hN hS hl kr
  have inX0 : ∀ w ∈ wsX00, w ∈ wsX0_becomeNextOf := (fun _ h => List.mem_cons_of_mem _ (List.mem_append_right _ h))
  have hl : lv_has ls 6 [(0, .ref h0), (1, .ref k0), (2, .int p2), (3, .ref b0)] := hl
  have he := (spX0_becomeNextOf_e f h f1 g1 be p2).symm
  refine lv_iconst (v := 0) hx hb dX0_becomeNextOf_0 (by decide) ?_
  refine lv_istore (lv' := [(4, .int 0), (0, .ref h0), (1, .ref k0), (2, .int p2), (3, .ref b0)]) hx hb dX0_becomeNextOf_1 hl (by decide) rfl (fun ls hl => ?_)
  have L3 : ∀ (n3 i3 : Nat) (f_3 : Nat → Int32) (h_3 : Nat → Int32) (H : Heap) (locs : List Loc) (ls : Array Slot), i3 + n3 = 8 → lpX0_becomeNextOf_3 p2 f1 g1 be n3 i3 f_3 h_3 = spX0_becomeNextOf f h f1 g1 be p2 → va_P (dC, dI) vwCl (gv_WWA cI h0 h1 h2 k0 k1 k2 b0 f_3 h_3 f1 g1 be) H → va_D A (gv_WWA cI h0 h1 h2 k0 k1 k2 b0 f_3 h_3 f1 g1 be) → va_S A s.heap H locs → lv_has ls 6 [(0, .ref h0), (1, .ref k0), (2, .int p2), (3, .ref b0), (4, .int (nI i3))] → W p l e (gv_R 4 99) s m args below meth c H locs 0 0 Q (F0 m 3 ls []) := by
    intro n3
    induction n3 with
    | zero =>
      intro i3 f_3 h_3 H locs ls hi3 he hP hD hS hl
      have he := (lpX0_becomeNextOf_3_0 _ _ _ _ _ _ _).symm.trans he
      refine lv_iload hx hb dX0_becomeNextOf_3 (lv_at hl 4 rfl) ?_
      refine lv_bipush (v := 8) hx hb dX0_becomeNextOf_5 (by decide) ?_
      refine lv_icmp_ge (tgt := 38) hx hb dX0_becomeNextOf_7 (by decide) (fun _ => ?_) (fun c => absurd c (gv_ge (N := 8) rfl (rfl : (8 : Int32) = nI 8) (by omega) (by omega)))
      refine lv_iconst (v := 0) hx hb dX0_becomeNextOf_38 (by decide) ?_
      refine lv_istore (lv' := [(4, .int 0), (0, .ref h0), (1, .ref k0), (2, .int p2), (3, .ref b0)]) hx hb dX0_becomeNextOf_39 hl (by decide) rfl (fun ls hl => ?_)
      refine lv_iconst (v := 0) hx hb dX0_becomeNextOf_41 (by decide) ?_
      refine lv_istore (lv' := [(5, .int 0), (4, .int 0), (0, .ref h0), (1, .ref k0), (2, .int p2), (3, .ref b0)]) hx hb dX0_becomeNextOf_42 hl (by decide) rfl (fun ls hl => ?_)
      have L44 : ∀ (n44 i44 : Nat) (x4_44 : Int32) (f_44 : Nat → Int32) (H : Heap) (locs : List Loc) (ls : Array Slot), i44 + n44 = 12 → lpX0_becomeNextOf_44 h_3 f1 g1 be n44 i44 x4_44 f_44 = spX0_becomeNextOf f h f1 g1 be p2 → va_P (dC, dI) vwCl (gv_WWA cI h0 h1 h2 k0 k1 k2 b0 f_44 h_3 f1 g1 be) H → va_D A (gv_WWA cI h0 h1 h2 k0 k1 k2 b0 f_44 h_3 f1 g1 be) → va_S A s.heap H locs → lv_has ls 6 [(0, .ref h0), (1, .ref k0), (2, .int p2), (3, .ref b0), (4, .int x4_44), (5, .int (nI i44))] → W p l e (gv_R 4 99) s m args below meth c H locs 0 0 Q (F0 m 44 ls []) := by
        intro n44
        induction n44 with
        | zero =>
          intro i44 x4_44 f_44 H locs ls hi44 he hP hD hS hl
          have he := (lpX0_becomeNextOf_44_0 _ _ _ _ _ _ _).symm.trans he
          refine lv_iload hx hb dX0_becomeNextOf_44 (lv_at hl 5 rfl) ?_
          refine lv_bipush (v := 12) hx hb dX0_becomeNextOf_46 (by decide) ?_
          refine lv_icmp_ge (tgt := 79) hx hb dX0_becomeNextOf_48 (by decide) (fun _ => ?_) (fun c => absurd c (gv_ge (N := 12) rfl (rfl : (12 : Int32) = nI 12) (by omega) (by omega)))
          refine lv_iload hx hb dX0_becomeNextOf_79 (lv_at hl 4 rfl) ?_
          exact kr x4_44 (f_44, h_3) _ _ _ _ he hP hS dX0_becomeNextOf_81
        | succ n44 ih44 =>
          intro i44 x4_44 f_44 H locs ls hi44 he hP hD hS hl
          have he := (lpX0_becomeNextOf_44_s _ _ _ _ _ _ _ _).symm.trans he
          refine lv_iload hx hb dX0_becomeNextOf_44 (lv_at hl 5 rfl) ?_
          refine lv_bipush (v := 12) hx hb dX0_becomeNextOf_46 (by decide) ?_
          refine lv_icmp_ge (tgt := 79) hx hb dX0_becomeNextOf_48 (by decide) (fun c => absurd c (gv_lt (N := 12) rfl (rfl : (12 : Int32) = nI 12) (by omega) (by omega))) (fun _ => ?_)
          refine lv_iload hx hb dX0_becomeNextOf_51 (lv_at hl 4 rfl) ?_
          refine lv_aload_n hx hb dX0_becomeNextOf_53 rfl (lv_at hl 0 rfl) ?_
          refine lv_iload hx hb dX0_becomeNextOf_54 (lv_at hl 5 rfl) ?_
          refine lv_aload_n hx hb dX0_becomeNextOf_56 rfl (lv_at hl 0 rfl) ?_
          refine lv_iload hx hb dX0_becomeNextOf_57 (lv_at hl 5 rfl) ?_
          have hPc : va_P (dC, dI) vwCl (gv_W cI h0 h1 h2 f_44 h_3) H := gv_sub [0, 1, 2] hP rfl
          have hDc : va_D (gv_in (gv_W cI h0 h1 h2 f_44 h_3)) (gv_W cI h0 h1 h2 f_44 h_3) := gv_D hD [0, 1, 2] (by decide) rfl
          refine gv_ki (wf := (fun (_ : Unit) => (gv_W cI h0 h1 h2 f_44 h_3))) (wc := (gv_W cI h0 h1 h2 f_44 h_3)) [0, 1, 2] (fun _ => rfl) hP hD hS rfl rfl (va_runV (As := [.int (nI i44)]) (rest := [.int (nI i44), .ref h0, .int x4_44]) ⟨hx, hb, hml, hown, hts⟩ (kX0_countInColumn l dC dI cI cL h0 h1 h2 f_44 h_3 (nI i44) (gv_in (gv_W cI h0 h1 h2 f_44 h_3))) (cwV (rm := gv_R 2 45) 1 hts gX0_becomeNextOf_X0_countInColumn rfl rfl rfl (by decide +kernel) ⟨Nat.le_of_ble_eq_true rfl, Nat.le_of_ble_eq_true rfl⟩) (gv_preV (ci := 0) hK hPc hDc hN rfl rfl) rfl rfl hl.1 rfl (lv_room (Nat.le_of_ble_eq_true rfl)) dX0_becomeNextOf_59 ⟨Nat.zero_le _, Nat.zero_le _⟩) (fun q59 u H locs hw hP hD hS => ?_)
          have he := gv_q hw he
          have hP : va_P (dC, dI) vwCl (gv_WWA cI h0 h1 h2 k0 k1 k2 b0 f_44 h_3 f1 g1 be) H := hP
          have hD : va_D A (gv_WWA cI h0 h1 h2 k0 k1 k2 b0 f_44 h_3 f1 g1 be) := hD
          refine lv_aload_n hx hb dX0_becomeNextOf_62 rfl (lv_at hl 3 rfl) ?_
          refine lv_iload hx hb dX0_becomeNextOf_63 (lv_at hl 5 rfl) ?_
          refine gv_iald (cA := cI) (f := be) (k := i44) hx hb hK hP 6 0 rfl rfl rfl (by omega) (by decide) dX0_becomeNextOf_65 ?_
          refine lv_isub hx hb dX0_becomeNextOf_66 ?_
          have hPc : va_P (dC, dI) vwCl (gv_W cI h0 h1 h2 f_44 h_3) H := gv_sub [0, 1, 2] hP rfl
          have hDc : va_D (gv_in (gv_W cI h0 h1 h2 f_44 h_3)) (gv_W cI h0 h1 h2 f_44 h_3) := gv_D hD [0, 1, 2] (by decide) rfl
          refine gv_ki (wf := (fun (u : (Nat → Int32)) => (gv_W cI h0 h1 h2 u h_3))) (wc := (gv_W cI h0 h1 h2 f_44 h_3)) [0, 1, 2] (fun _ => rfl) hP hD hS rfl rfl (va_runV (As := [.int (nI i44), .int (q59 - (be i44))]) (rest := [.int x4_44]) ⟨hx, hb, hml, hown, hts⟩ (kX0_takeTopmost l dC dI cI cL h0 h1 h2 f_44 h_3 (nI i44) (q59 - (be i44)) (gv_in (gv_W cI h0 h1 h2 f_44 h_3))) (cwV (rm := gv_R 2 43) 2 hts gX0_becomeNextOf_X0_takeTopmost rfl rfl rfl (by decide +kernel) ⟨Nat.le_of_ble_eq_true rfl, Nat.le_of_ble_eq_true rfl⟩) (gv_preV (ci := 0) hK hPc hDc hN rfl rfl) rfl rfl hl.1 rfl (lv_room (Nat.le_of_ble_eq_true rfl)) dX0_becomeNextOf_67 ⟨Nat.zero_le _, Nat.zero_le _⟩) (fun q67 u H locs hw hP hD hS => ?_)
          obtain ⟨f_q67, rfl⟩ : ∃ z, z = u := ⟨_, rfl⟩
          have he := gv_q2 hw he
          have hP : va_P (dC, dI) vwCl (gv_WWA cI h0 h1 h2 k0 k1 k2 b0 f_q67 h_3 f1 g1 be) H := hP
          have hD : va_D A (gv_WWA cI h0 h1 h2 k0 k1 k2 b0 f_q67 h_3 f1 g1 be) := hD
          refine lv_iadd hx hb dX0_becomeNextOf_70 ?_
          refine lv_istore (lv' := [(4, .int (x4_44 + q67)), (0, .ref h0), (1, .ref k0), (2, .int p2), (3, .ref b0), (5, .int (nI i44))]) hx hb dX0_becomeNextOf_71 hl (by decide) rfl (fun ls hl => ?_)
          refine lv_iinc (v := (nI (i44 + 1))) (lv' := [(5, .int (nI (i44 + 1))), (4, .int (x4_44 + q67)), (0, .ref h0), (1, .ref k0), (2, .int p2), (3, .ref b0)]) hx hb dX0_becomeNextOf_73 hl (k := 5) rfl (nI_1 i44) (by decide) rfl (fun ls hl => ?_)
          refine lv_goto (tgt := 44) hx hb dX0_becomeNextOf_76 (by decide) ?_
          exact ih44 (i44 + 1) (x4_44 + q67) f_q67 _ _ _ (by omega) he hP hD hS (lv_sub hl [2, 3, 4, 5, 1, 0] rfl)
      exact L44 12 0 0 f_3 _ _ _ (by omega) he hP hD hS (lv_sub hl [2, 3, 4, 5, 1, 0] rfl)
    | succ n3 ih3 =>
      intro i3 f_3 h_3 H locs ls hi3 he hP hD hS hl
      have he := (lpX0_becomeNextOf_3_s _ _ _ _ _ _ _ _).symm.trans he
      refine lv_iload hx hb dX0_becomeNextOf_3 (lv_at hl 4 rfl) ?_
      refine lv_bipush (v := 8) hx hb dX0_becomeNextOf_5 (by decide) ?_
      refine lv_icmp_ge (tgt := 38) hx hb dX0_becomeNextOf_7 (by decide) (fun c => absurd c (gv_lt (N := 8) rfl (rfl : (8 : Int32) = nI 8) (by omega) (by omega))) (fun _ => ?_)
      refine lv_aload_n hx hb dX0_becomeNextOf_10 rfl (lv_at hl 0 rfl) ?_
      refine va_get (D := (dC, dI)) (ci := 0) (v := .ref h1) (C := RX0) (T := TX0) (N := 2) hx hb hts inX0 hown hK hP 0 rfl rfl 0 (by decide) (hts (.fieldLink RX0 9 "VineWall$Wall" "leafRows" "[I") (List.mem_of_getElem? (i := 1) rfl)) (fun _ h9 => h9) rfl dX0_becomeNextOf_11 ?_
      refine lv_iload hx hb dX0_becomeNextOf_14 (lv_at hl 4 rfl) ?_
      refine lv_aload_n hx hb dX0_becomeNextOf_16 rfl (lv_at hl 1 rfl) ?_
      refine lv_iload hx hb dX0_becomeNextOf_17 (lv_at hl 4 rfl) ?_
      refine lv_iload_n hx hb dX0_becomeNextOf_19 rfl (lv_at hl 2 rfl) ?_
      have hPc : va_P (dC, dI) vwCl (gv_W cI k0 k1 k2 f1 g1) H := gv_sub [3, 4, 5] hP rfl
      have hDc : va_D (gv_in (gv_W cI k0 k1 k2 f1 g1)) (gv_W cI k0 k1 k2 f1 g1) := gv_D hD [3, 4, 5] (by decide) rfl
      refine gv_ki (wf := (fun (_ : Unit) => (gv_W cI k0 k1 k2 f1 g1))) (wc := (gv_W cI k0 k1 k2 f1 g1)) [3, 4, 5] (fun _ => rfl) hP hD hS rfl rfl (va_runV (As := [.int (nI i3), .int p2]) (rest := [.int (nI i3), .ref h1]) ⟨hx, hb, hml, hown, hts⟩ (kX0_leafRowNext l dC dI cI cL k0 k1 k2 f1 g1 (nI i3) i3 rfl p2 (by omega) (gv_in (gv_W cI k0 k1 k2 f1 g1))) (cwV (rm := gv_R 3 70) 2 hts gX0_becomeNextOf_X0_leafRowNext rfl rfl rfl (by decide +kernel) ⟨Nat.le_of_ble_eq_true rfl, Nat.le_of_ble_eq_true rfl⟩) (gv_preV (ci := 0) hK hPc hDc hN rfl rfl) rfl rfl hl.1 rfl (lv_room (Nat.le_of_ble_eq_true rfl)) dX0_becomeNextOf_20 ⟨Nat.zero_le _, Nat.zero_le _⟩) (fun q20 u H locs hw hP hD hS => ?_)
      have he := gv_q hw he
      have hP : va_P (dC, dI) vwCl (gv_WWA cI h0 h1 h2 k0 k1 k2 b0 f_3 h_3 f1 g1 be) H := hP
      have hD : va_D A (gv_WWA cI h0 h1 h2 k0 k1 k2 b0 f_3 h_3 f1 g1 be) := hD
      refine gv_iast (cA := cI) (k := i3) hx hb hK hP hD hS 1 0 rfl rfl rfl (by omega) (by decide) dX0_becomeNextOf_23 (fun H locs hP hD hS => ?_)
      have hP : va_P (dC, dI) vwCl (gv_WWA cI h0 h1 h2 k0 k1 k2 b0 (upd f_3 i3 q20) h_3 f1 g1 be) H := hP
      have hD : va_D A (gv_WWA cI h0 h1 h2 k0 k1 k2 b0 (upd f_3 i3 q20) h_3 f1 g1 be) := hD
      refine lv_aload_n hx hb dX0_becomeNextOf_24 rfl (lv_at hl 0 rfl) ?_
      refine va_get (D := (dC, dI)) (ci := 0) (v := .ref h2) (C := RX0) (T := TX0) (N := 2) hx hb hts inX0 hown hK hP 0 rfl rfl 1 (by decide) (hts (.fieldLink RX0 15 "VineWall$Wall" "cutRows" "[I") (List.mem_of_getElem? (i := 2) rfl)) (fun _ h9 => h9) rfl dX0_becomeNextOf_25 ?_
      refine lv_iload hx hb dX0_becomeNextOf_28 (lv_at hl 4 rfl) ?_
      refine lv_iconst (v := 0) hx hb dX0_becomeNextOf_30 (by decide) ?_
      refine gv_iast (cA := cI) (k := i3) hx hb hK hP hD hS 2 0 rfl rfl rfl (by omega) (by decide) dX0_becomeNextOf_31 (fun H locs hP hD hS => ?_)
      have hP : va_P (dC, dI) vwCl (gv_WWA cI h0 h1 h2 k0 k1 k2 b0 (upd f_3 i3 q20) (upd h_3 i3 0) f1 g1 be) H := hP
      have hD : va_D A (gv_WWA cI h0 h1 h2 k0 k1 k2 b0 (upd f_3 i3 q20) (upd h_3 i3 0) f1 g1 be) := hD
      refine lv_iinc (v := (nI (i3 + 1))) (lv' := [(4, .int (nI (i3 + 1))), (0, .ref h0), (1, .ref k0), (2, .int p2), (3, .ref b0)]) hx hb dX0_becomeNextOf_32 hl (k := 4) rfl (nI_1 i3) (by decide) rfl (fun ls hl => ?_)
      refine lv_goto (tgt := 3) hx hb dX0_becomeNextOf_35 (by decide) ?_
      exact ih3 (i3 + 1) (upd f_3 i3 q20) (upd h_3 i3 0) _ _ _ (by omega) he hP hD hS (lv_sub hl [1, 2, 3, 4, 0] rfl)
  exact L3 8 0 f h _ _ _ (by omega) he hP hD hS (lv_sub hl [1, 2, 3, 4, 0] rfl)
end
section
def spX1_leaves (f0 : Nat → Int32) (c0 : Nat → Int32) (f1 : Nat → Int32) (c1 : Nat → Int32) (f2 : Nat → Int32) (c2 : Nat → Int32) (lo : Nat → Int64) (up : Nat → Int64) (be : Nat → Int32) (si : Int32) (pl : Int32) (cu : Int32) (ge : Int32) (fa : Int32) : Int32 := gv_b (spX0_countLeaves f0 c0) (fun q4 => q4)
theorem spX1_leaves_e (f0 : Nat → Int32) (c0 : Nat → Int32) (f1 : Nat → Int32) (c1 : Nat → Int32) (f2 : Nat → Int32) (c2 : Nat → Int32) (lo : Nat → Int64) (up : Nat → Int64) (be : Nat → Int32) (si : Int32) (pl : Int32) (cu : Int32) (ge : Int32) (fa : Int32) : spX1_leaves f0 c0 f1 c1 f2 c2 lo up be si pl cu ge fa = gv_b (spX0_countLeaves f0 c0) (fun q4 => q4) := rfl
set_option maxHeartbeats 4000000 in
set_option maxRecDepth 100000 in
theorem kX1_leaves (l : Launch) (dC : Nat → ClassId) (dI : Nat → Nat → Nat) (cI cL : ClassId) (ad : Nat → Nat) (f0 : Nat → Int32) (c0 : Nat → Int32) (f1 : Nat → Int32) (c1 : Nat → Int32) (f2 : Nat → Int32) (c2 : Nat → Int32) (lo : Nat → Int64) (up : Nat → Int64) (be : Nat → Int32) (si : Int32) (pl : Int32) (cu : Int32) (ge : Int32) (fa : Int32) : gv_Mi l yX1_leaves wsX1_leaves 2 42 (dC, dI) [(cI, .int), (cL, .long)] [.ref (ad 0)] (gv_V cI cL ad f0 c0 f1 c1 f2 c2 lo up be si pl cu ge fa) (fun (r : Int32) (_ : Unit) => r = spX1_leaves f0 c0 f1 c1 f2 c2 lo up be si pl cu ge fa) (fun (_ : Unit) => (gv_V cI cL ad f0 c0 f1 c1 f2 c2 lo up be si pl cu ge fa)) := by
  refine gv_ofi (cc := cX1_leaves) (maxL := 1) (own := RX1) (by decide) rfl (Nat.le_of_ble_eq_true rfl) rfl ?_
  intro A p e s m args below meth c Q ls H locs hx hb hml hts hown hP hK hD hN hS hl kr
  have inX0 : ∀ w ∈ wsX00, w ∈ wsX1_leaves := (fun _ h => List.mem_cons_of_mem _ (List.mem_append_right _ h))
  have inX1 : ∀ w ∈ wsX10, w ∈ wsX1_leaves := (fun _ h => List.mem_cons_of_mem _ (List.mem_append_left _ (List.mem_append_right _ h)))
  have hl : lv_has ls 1 [(0, .ref (ad 0))] := hl
  have he := (spX1_leaves_e f0 c0 f1 c1 f2 c2 lo up be si pl cu ge fa).symm
  refine lv_aload_n hx hb dX1_leaves_0 rfl (lv_at hl 0 rfl) ?_
  refine va_get (D := (dC, dI)) (ci := 1) (v := .ref (ad 1)) (C := RX1) (T := TX1) (N := 11) hx hb hts inX1 hown hK hP 0 rfl rfl 0 (by decide) (hts (.fieldLink RX1 10 "VineWall" "wall" "LVineWall$Wall;") (List.mem_of_getElem? (i := 1) rfl)) (fun _ h9 => h9) rfl dX1_leaves_1 ?_
  have hPc : va_P (dC, dI) vwCl (gv_W cI (ad 1) (ad 2) (ad 3) f0 c0) H := gv_sub [1, 2, 3] hP rfl
  have hDc : va_D (gv_in (gv_W cI (ad 1) (ad 2) (ad 3) f0 c0)) (gv_W cI (ad 1) (ad 2) (ad 3) f0 c0) := gv_D hD [1, 2, 3] (by decide) rfl
  refine gv_ki (wf := (fun (_ : Unit) => (gv_W cI (ad 1) (ad 2) (ad 3) f0 c0))) (wc := (gv_W cI (ad 1) (ad 2) (ad 3) f0 c0)) [1, 2, 3] (fun _ => rfl) hP hD hS rfl rfl (va_runV (As := []) (rest := []) ⟨hx, hb, hml, hown, hts⟩ (kX0_countLeaves l dC dI cI cL (ad 1) (ad 2) (ad 3) f0 c0 (gv_in (gv_W cI (ad 1) (ad 2) (ad 3) f0 c0))) (cwV (rm := gv_R 1 20) 0 hts gX1_leaves_X0_countLeaves rfl rfl rfl (by decide +kernel) ⟨Nat.le_of_ble_eq_true rfl, Nat.le_of_ble_eq_true rfl⟩) (gv_preV (ci := 0) hK hPc hDc hN rfl rfl) rfl rfl hl.1 rfl (lv_room (Nat.le_of_ble_eq_true rfl)) dX1_leaves_4 ⟨Nat.zero_le _, Nat.zero_le _⟩) (fun q4 u H locs hw hP hD hS => ?_)
  have he := gv_q hw he
  have hP : va_P (dC, dI) vwCl (gv_V cI cL ad f0 c0 f1 c1 f2 c2 lo up be si pl cu ge fa) H := hP
  have hD : va_D A (gv_V cI cL ad f0 c0 f1 c1 f2 c2 lo up be si pl cu ge fa) := hD
  exact kr q4 () _ _ _ _ he hP hS dX1_leaves_7
def spX1_lit (f0 : Nat → Int32) (c0 : Nat → Int32) (f1 : Nat → Int32) (c1 : Nat → Int32) (f2 : Nat → Int32) (c2 : Nat → Int32) (lo : Nat → Int64) (up : Nat → Int64) (be : Nat → Int32) (si : Int32) (pl : Int32) (cu : Int32) (ge : Int32) (fa : Int32) : Int32 := gv_b (spX0_countLit f0 c0) (fun q4 => q4)
theorem spX1_lit_e (f0 : Nat → Int32) (c0 : Nat → Int32) (f1 : Nat → Int32) (c1 : Nat → Int32) (f2 : Nat → Int32) (c2 : Nat → Int32) (lo : Nat → Int64) (up : Nat → Int64) (be : Nat → Int32) (si : Int32) (pl : Int32) (cu : Int32) (ge : Int32) (fa : Int32) : spX1_lit f0 c0 f1 c1 f2 c2 lo up be si pl cu ge fa = gv_b (spX0_countLit f0 c0) (fun q4 => q4) := rfl
set_option maxHeartbeats 4000000 in
set_option maxRecDepth 100000 in
theorem kX1_lit (l : Launch) (dC : Nat → ClassId) (dI : Nat → Nat → Nat) (cI cL : ClassId) (ad : Nat → Nat) (f0 : Nat → Int32) (c0 : Nat → Int32) (f1 : Nat → Int32) (c1 : Nat → Int32) (f2 : Nat → Int32) (c2 : Nat → Int32) (lo : Nat → Int64) (up : Nat → Int64) (be : Nat → Int32) (si : Int32) (pl : Int32) (cu : Int32) (ge : Int32) (fa : Int32) : gv_Mi l yX1_lit wsX1_lit 2 42 (dC, dI) [(cI, .int), (cL, .long)] [.ref (ad 0)] (gv_V cI cL ad f0 c0 f1 c1 f2 c2 lo up be si pl cu ge fa) (fun (r : Int32) (_ : Unit) => r = spX1_lit f0 c0 f1 c1 f2 c2 lo up be si pl cu ge fa) (fun (_ : Unit) => (gv_V cI cL ad f0 c0 f1 c1 f2 c2 lo up be si pl cu ge fa)) := by
  refine gv_ofi (cc := cX1_lit) (maxL := 1) (own := RX1) (by decide) rfl (Nat.le_of_ble_eq_true rfl) rfl ?_
  intro A p e s m args below meth c Q ls H locs hx hb hml hts hown hP hK hD hN hS hl kr
  have inX0 : ∀ w ∈ wsX00, w ∈ wsX1_lit := (fun _ h => List.mem_cons_of_mem _ (List.mem_append_right _ h))
  have inX1 : ∀ w ∈ wsX10, w ∈ wsX1_lit := (fun _ h => List.mem_cons_of_mem _ (List.mem_append_left _ (List.mem_append_right _ h)))
  have hl : lv_has ls 1 [(0, .ref (ad 0))] := hl
  have he := (spX1_lit_e f0 c0 f1 c1 f2 c2 lo up be si pl cu ge fa).symm
  refine lv_aload_n hx hb dX1_lit_0 rfl (lv_at hl 0 rfl) ?_
  refine va_get (D := (dC, dI)) (ci := 1) (v := .ref (ad 1)) (C := RX1) (T := TX1) (N := 11) hx hb hts inX1 hown hK hP 0 rfl rfl 0 (by decide) (hts (.fieldLink RX1 10 "VineWall" "wall" "LVineWall$Wall;") (List.mem_of_getElem? (i := 1) rfl)) (fun _ h9 => h9) rfl dX1_lit_1 ?_
  have hPc : va_P (dC, dI) vwCl (gv_W cI (ad 1) (ad 2) (ad 3) f0 c0) H := gv_sub [1, 2, 3] hP rfl
  have hDc : va_D (gv_in (gv_W cI (ad 1) (ad 2) (ad 3) f0 c0)) (gv_W cI (ad 1) (ad 2) (ad 3) f0 c0) := gv_D hD [1, 2, 3] (by decide) rfl
  refine gv_ki (wf := (fun (_ : Unit) => (gv_W cI (ad 1) (ad 2) (ad 3) f0 c0))) (wc := (gv_W cI (ad 1) (ad 2) (ad 3) f0 c0)) [1, 2, 3] (fun _ => rfl) hP hD hS rfl rfl (va_runV (As := []) (rest := []) ⟨hx, hb, hml, hown, hts⟩ (kX0_countLit l dC dI cI cL (ad 1) (ad 2) (ad 3) f0 c0 (gv_in (gv_W cI (ad 1) (ad 2) (ad 3) f0 c0))) (cwV (rm := gv_R 1 20) 0 hts gX1_lit_X0_countLit rfl rfl rfl (by decide +kernel) ⟨Nat.le_of_ble_eq_true rfl, Nat.le_of_ble_eq_true rfl⟩) (gv_preV (ci := 0) hK hPc hDc hN rfl rfl) rfl rfl hl.1 rfl (lv_room (Nat.le_of_ble_eq_true rfl)) dX1_lit_4 ⟨Nat.zero_le _, Nat.zero_le _⟩) (fun q4 u H locs hw hP hD hS => ?_)
  have he := gv_q hw he
  have hP : va_P (dC, dI) vwCl (gv_V cI cL ad f0 c0 f1 c1 f2 c2 lo up be si pl cu ge fa) H := hP
  have hD : va_D A (gv_V cI cL ad f0 c0 f1 c1 f2 c2 lo up be si pl cu ge fa) := hD
  exact kr q4 () _ _ _ _ he hP hS dX1_lit_7
def spX1_generation (f0 : Nat → Int32) (c0 : Nat → Int32) (f1 : Nat → Int32) (c1 : Nat → Int32) (f2 : Nat → Int32) (c2 : Nat → Int32) (lo : Nat → Int64) (up : Nat → Int64) (be : Nat → Int32) (si : Int32) (pl : Int32) (cu : Int32) (ge : Int32) (fa : Int32) : Int32 := ge
theorem spX1_generation_e (f0 : Nat → Int32) (c0 : Nat → Int32) (f1 : Nat → Int32) (c1 : Nat → Int32) (f2 : Nat → Int32) (c2 : Nat → Int32) (lo : Nat → Int64) (up : Nat → Int64) (be : Nat → Int32) (si : Int32) (pl : Int32) (cu : Int32) (ge : Int32) (fa : Int32) : spX1_generation f0 c0 f1 c1 f2 c2 lo up be si pl cu ge fa = ge := rfl
set_option maxHeartbeats 4000000 in
set_option maxRecDepth 100000 in
theorem kX1_generation (l : Launch) (dC : Nat → ClassId) (dI : Nat → Nat → Nat) (cI cL : ClassId) (ad : Nat → Nat) (f0 : Nat → Int32) (c0 : Nat → Int32) (f1 : Nat → Int32) (c1 : Nat → Int32) (f2 : Nat → Int32) (c2 : Nat → Int32) (lo : Nat → Int64) (up : Nat → Int64) (be : Nat → Int32) (si : Int32) (pl : Int32) (cu : Int32) (ge : Int32) (fa : Int32) : gv_Mi l yX1_generation wsX1_generation 0 0 (dC, dI) [(cI, .int), (cL, .long)] [.ref (ad 0)] (gv_V cI cL ad f0 c0 f1 c1 f2 c2 lo up be si pl cu ge fa) (fun (r : Int32) (_ : Unit) => r = spX1_generation f0 c0 f1 c1 f2 c2 lo up be si pl cu ge fa) (fun (_ : Unit) => (gv_V cI cL ad f0 c0 f1 c1 f2 c2 lo up be si pl cu ge fa)) := by
  refine gv_ofi (cc := cX1_generation) (maxL := 1) (own := RX1) (by decide) rfl (Nat.le_of_ble_eq_true rfl) rfl ?_
  intro A p e s m args below meth c Q ls H locs hx hb hml hts hown hP hK hD hN hS hl kr
  have inX1 : ∀ w ∈ wsX10, w ∈ wsX1_generation := (fun _ h => List.mem_cons_of_mem _ (List.mem_append_right _ h))
  have hl : lv_has ls 1 [(0, .ref (ad 0))] := hl
  have he := (spX1_generation_e f0 c0 f1 c1 f2 c2 lo up be si pl cu ge fa).symm
  refine lv_aload_n hx hb dX1_generation_0 rfl (lv_at hl 0 rfl) ?_
  refine va_get (D := (dC, dI)) (ci := 1) (v := .int ge) (C := RX1) (T := TX1) (N := 11) hx hb hts inX1 hown hK hP 0 rfl rfl 9 (by decide) (hts (.fieldLink RX1 43 "VineWall" "generationsGone" "I") (List.mem_of_getElem? (i := 1) rfl)) (fun _ h9 => h9) rfl dX1_generation_1 ?_
  exact kr ge () _ _ _ _ he hP hS dX1_generation_4
def spX1_cutsLeft (f0 : Nat → Int32) (c0 : Nat → Int32) (f1 : Nat → Int32) (c1 : Nat → Int32) (f2 : Nat → Int32) (c2 : Nat → Int32) (lo : Nat → Int64) (up : Nat → Int64) (be : Nat → Int32) (si : Int32) (pl : Int32) (cu : Int32) (ge : Int32) (fa : Int32) : Int32 := 3 - cu
theorem spX1_cutsLeft_e (f0 : Nat → Int32) (c0 : Nat → Int32) (f1 : Nat → Int32) (c1 : Nat → Int32) (f2 : Nat → Int32) (c2 : Nat → Int32) (lo : Nat → Int64) (up : Nat → Int64) (be : Nat → Int32) (si : Int32) (pl : Int32) (cu : Int32) (ge : Int32) (fa : Int32) : spX1_cutsLeft f0 c0 f1 c1 f2 c2 lo up be si pl cu ge fa = 3 - cu := rfl
set_option maxHeartbeats 4000000 in
set_option maxRecDepth 100000 in
theorem kX1_cutsLeft (l : Launch) (dC : Nat → ClassId) (dI : Nat → Nat → Nat) (cI cL : ClassId) (ad : Nat → Nat) (f0 : Nat → Int32) (c0 : Nat → Int32) (f1 : Nat → Int32) (c1 : Nat → Int32) (f2 : Nat → Int32) (c2 : Nat → Int32) (lo : Nat → Int64) (up : Nat → Int64) (be : Nat → Int32) (si : Int32) (pl : Int32) (cu : Int32) (ge : Int32) (fa : Int32) : gv_Mi l yX1_cutsLeft wsX1_cutsLeft 0 0 (dC, dI) [(cI, .int), (cL, .long)] [.ref (ad 0)] (gv_V cI cL ad f0 c0 f1 c1 f2 c2 lo up be si pl cu ge fa) (fun (r : Int32) (_ : Unit) => r = spX1_cutsLeft f0 c0 f1 c1 f2 c2 lo up be si pl cu ge fa) (fun (_ : Unit) => (gv_V cI cL ad f0 c0 f1 c1 f2 c2 lo up be si pl cu ge fa)) := by
  refine gv_ofi (cc := cX1_cutsLeft) (maxL := 1) (own := RX1) (by decide) rfl (Nat.le_of_ble_eq_true rfl) rfl ?_
  intro A p e s m args below meth c Q ls H locs hx hb hml hts hown hP hK hD hN hS hl kr
  have inX1 : ∀ w ∈ wsX10, w ∈ wsX1_cutsLeft := (fun _ h => List.mem_cons_of_mem _ (List.mem_append_right _ h))
  have hl : lv_has ls 1 [(0, .ref (ad 0))] := hl
  have he := (spX1_cutsLeft_e f0 c0 f1 c1 f2 c2 lo up be si pl cu ge fa).symm
  refine lv_iconst (v := 3) hx hb dX1_cutsLeft_0 (by decide) ?_
  refine lv_aload_n hx hb dX1_cutsLeft_1 rfl (lv_at hl 0 rfl) ?_
  refine va_get (D := (dC, dI)) (ci := 1) (v := .int cu) (C := RX1) (T := TX1) (N := 11) hx hb hts inX1 hown hK hP 0 rfl rfl 8 (by decide) (hts (.fieldLink RX1 40 "VineWall" "cutsDone" "I") (List.mem_of_getElem? (i := 1) rfl)) (fun _ h9 => h9) rfl dX1_cutsLeft_2 ?_
  refine lv_isub hx hb dX1_cutsLeft_5 ?_
  exact kr (3 - cu) () _ _ _ _ he hP hS dX1_cutsLeft_6
def spX1_broken (f0 : Nat → Int32) (c0 : Nat → Int32) (f1 : Nat → Int32) (c1 : Nat → Int32) (f2 : Nat → Int32) (c2 : Nat → Int32) (lo : Nat → Int64) (up : Nat → Int64) (be : Nat → Int32) (si : Int32) (pl : Int32) (cu : Int32) (ge : Int32) (fa : Int32) : Int32 := fa
theorem spX1_broken_e (f0 : Nat → Int32) (c0 : Nat → Int32) (f1 : Nat → Int32) (c1 : Nat → Int32) (f2 : Nat → Int32) (c2 : Nat → Int32) (lo : Nat → Int64) (up : Nat → Int64) (be : Nat → Int32) (si : Int32) (pl : Int32) (cu : Int32) (ge : Int32) (fa : Int32) : spX1_broken f0 c0 f1 c1 f2 c2 lo up be si pl cu ge fa = fa := rfl
set_option maxHeartbeats 4000000 in
set_option maxRecDepth 100000 in
theorem kX1_broken (l : Launch) (dC : Nat → ClassId) (dI : Nat → Nat → Nat) (cI cL : ClassId) (ad : Nat → Nat) (f0 : Nat → Int32) (c0 : Nat → Int32) (f1 : Nat → Int32) (c1 : Nat → Int32) (f2 : Nat → Int32) (c2 : Nat → Int32) (lo : Nat → Int64) (up : Nat → Int64) (be : Nat → Int32) (si : Int32) (pl : Int32) (cu : Int32) (ge : Int32) (fa : Int32) : gv_Mi l yX1_broken wsX1_broken 0 0 (dC, dI) [(cI, .int), (cL, .long)] [.ref (ad 0)] (gv_V cI cL ad f0 c0 f1 c1 f2 c2 lo up be si pl cu ge fa) (fun (r : Int32) (_ : Unit) => r = spX1_broken f0 c0 f1 c1 f2 c2 lo up be si pl cu ge fa) (fun (_ : Unit) => (gv_V cI cL ad f0 c0 f1 c1 f2 c2 lo up be si pl cu ge fa)) := by
  refine gv_ofi (cc := cX1_broken) (maxL := 1) (own := RX1) (by decide) rfl (Nat.le_of_ble_eq_true rfl) rfl ?_
  intro A p e s m args below meth c Q ls H locs hx hb hml hts hown hP hK hD hN hS hl kr
  have inX1 : ∀ w ∈ wsX10, w ∈ wsX1_broken := (fun _ h => List.mem_cons_of_mem _ (List.mem_append_right _ h))
  have hl : lv_has ls 1 [(0, .ref (ad 0))] := hl
  have he := (spX1_broken_e f0 c0 f1 c1 f2 c2 lo up be si pl cu ge fa).symm
  refine lv_aload_n hx hb dX1_broken_0 rfl (lv_at hl 0 rfl) ?_
  refine va_get (D := (dC, dI)) (ci := 1) (v := .int fa) (C := RX1) (T := TX1) (N := 11) hx hb hts inX1 hown hK hP 0 rfl rfl 10 (by decide) (hts (.fieldLink RX1 46 "VineWall" "fallen" "I") (List.mem_of_getElem? (i := 1) rfl)) (fun _ h9 => h9) rfl dX1_broken_1 ?_
  exact kr fa () _ _ _ _ he hP hS dX1_broken_4
def spX1_litBehindCut (f0 : Nat → Int32) (c0 : Nat → Int32) (f1 : Nat → Int32) (c1 : Nat → Int32) (f2 : Nat → Int32) (c2 : Nat → Int32) (lo : Nat → Int64) (up : Nat → Int64) (be : Nat → Int32) (si : Int32) (pl : Int32) (cu : Int32) (ge : Int32) (fa : Int32) (p1 : Int32) (p2 : Int32) : Int32 × (Nat → Int32) × (Nat → Int32) × (Nat → Int32) × (Nat → Int32) := gv_b2 (spX0_copyFrom f1 c1 f0 c0) (fun f_q8 h_q8 => gv_b2 (spX0_cutLeaf f_q8 h_q8 p1 p2) (fun f_q17 h_q17 => gv_b3 (spX0_becomeNextOf f2 c2 f_q17 h_q17 be si) (fun q36 f_q36 h_q36 => gv_b (spX0_countLit f_q36 h_q36) (fun q44 => (q44, f_q17, h_q17, f_q36, h_q36)))))
theorem spX1_litBehindCut_e (f0 : Nat → Int32) (c0 : Nat → Int32) (f1 : Nat → Int32) (c1 : Nat → Int32) (f2 : Nat → Int32) (c2 : Nat → Int32) (lo : Nat → Int64) (up : Nat → Int64) (be : Nat → Int32) (si : Int32) (pl : Int32) (cu : Int32) (ge : Int32) (fa : Int32) (p1 : Int32) (p2 : Int32) : spX1_litBehindCut f0 c0 f1 c1 f2 c2 lo up be si pl cu ge fa p1 p2 = gv_b2 (spX0_copyFrom f1 c1 f0 c0) (fun f_q8 h_q8 => gv_b2 (spX0_cutLeaf f_q8 h_q8 p1 p2) (fun f_q17 h_q17 => gv_b3 (spX0_becomeNextOf f2 c2 f_q17 h_q17 be si) (fun q36 f_q36 h_q36 => gv_b (spX0_countLit f_q36 h_q36) (fun q44 => (q44, f_q17, h_q17, f_q36, h_q36))))) := rfl
set_option maxHeartbeats 4000000 in
set_option maxRecDepth 100000 in
theorem kX1_litBehindCut (l : Launch) (dC : Nat → ClassId) (dI : Nat → Nat → Nat) (cI cL : ClassId) (ad : Nat → Nat) (f0 : Nat → Int32) (c0 : Nat → Int32) (f1 : Nat → Int32) (c1 : Nat → Int32) (f2 : Nat → Int32) (c2 : Nat → Int32) (lo : Nat → Int64) (up : Nat → Int64) (be : Nat → Int32) (si : Int32) (pl : Int32) (cu : Int32) (ge : Int32) (fa : Int32) (p1 : Int32) (p2 : Int32) : gv_Mi l yX1_litBehindCut wsX1_litBehindCut 5 124 (dC, dI) [(cI, .int), (cL, .long)] [.ref (ad 0), .int p1, .int p2] (gv_V cI cL ad f0 c0 f1 c1 f2 c2 lo up be si pl cu ge fa) (fun (r : Int32) (u : (Nat → Int32) × (Nat → Int32) × (Nat → Int32) × (Nat → Int32)) => (r, u) = spX1_litBehindCut f0 c0 f1 c1 f2 c2 lo up be si pl cu ge fa p1 p2) (fun (u : (Nat → Int32) × (Nat → Int32) × (Nat → Int32) × (Nat → Int32)) => (gv_V cI cL ad f0 c0 u.1 u.2.1 u.2.2.1 u.2.2.2 lo up be si pl cu ge fa)) := by
  refine gv_ofi (cc := cX1_litBehindCut) (maxL := 3) (own := RX1) (by decide) rfl (Nat.le_of_ble_eq_true rfl) rfl ?_
  intro A p e s m args below meth c Q ls H locs hx hb hml hts hown hP hK hD hN hS hl kr
  have inX0 : ∀ w ∈ wsX00, w ∈ wsX1_litBehindCut := (fun _ h => List.mem_cons_of_mem _ (List.mem_append_right _ h))
  have inX1 : ∀ w ∈ wsX10, w ∈ wsX1_litBehindCut := (fun _ h => List.mem_cons_of_mem _ (List.mem_append_left _ (List.mem_append_right _ h)))
  have hl : lv_has ls 3 [(0, .ref (ad 0)), (1, .int p1), (2, .int p2)] := hl
  have he := (spX1_litBehindCut_e f0 c0 f1 c1 f2 c2 lo up be si pl cu ge fa p1 p2).symm
  refine lv_aload_n hx hb dX1_litBehindCut_0 rfl (lv_at hl 0 rfl) ?_
  refine va_get (D := (dC, dI)) (ci := 1) (v := .ref (ad 4)) (C := RX1) (T := TX1) (N := 11) hx hb hts inX1 hown hK hP 0 rfl rfl 1 (by decide) (hts (.fieldLink RX1 16 "VineWall" "trial" "LVineWall$Wall;") (List.mem_of_getElem? (i := 1) rfl)) (fun _ h9 => h9) rfl dX1_litBehindCut_1 ?_
  refine lv_aload_n hx hb dX1_litBehindCut_4 rfl (lv_at hl 0 rfl) ?_
  refine va_get (D := (dC, dI)) (ci := 1) (v := .ref (ad 1)) (C := RX1) (T := TX1) (N := 11) hx hb hts inX1 hown hK hP 0 rfl rfl 0 (by decide) (hts (.fieldLink RX1 10 "VineWall" "wall" "LVineWall$Wall;") (List.mem_of_getElem? (i := 2) rfl)) (fun _ h9 => h9) rfl dX1_litBehindCut_5 ?_
  have hPc : va_P (dC, dI) vwCl (gv_WW cI (ad 4) (ad 5) (ad 6) (ad 1) (ad 2) (ad 3) f1 c1 f0 c0) H := gv_sub [4, 5, 6, 1, 2, 3] hP rfl
  have hDc : va_D (gv_in (gv_WW cI (ad 4) (ad 5) (ad 6) (ad 1) (ad 2) (ad 3) f1 c1 f0 c0)) (gv_WW cI (ad 4) (ad 5) (ad 6) (ad 1) (ad 2) (ad 3) f1 c1 f0 c0) := gv_D hD [4, 5, 6, 1, 2, 3] (by decide) rfl
  refine gv_kv (wf := (fun (u : (Nat → Int32) × (Nat → Int32)) => (gv_WW cI (ad 4) (ad 5) (ad 6) (ad 1) (ad 2) (ad 3) u.1 u.2 f0 c0))) (wc := (gv_WW cI (ad 4) (ad 5) (ad 6) (ad 1) (ad 2) (ad 3) f1 c1 f0 c0)) [4, 5, 6, 1, 2, 3] (fun _ => rfl) hP hD hS rfl rfl (va_runV (As := [.ref (ad 1)]) (rest := []) ⟨hx, hb, hml, hown, hts⟩ (kX0_copyFrom l dC dI cI cL (ad 4) (ad 5) (ad 6) (ad 1) (ad 2) (ad 3) f1 c1 f0 c0 (gv_in (gv_WW cI (ad 4) (ad 5) (ad 6) (ad 1) (ad 2) (ad 3) f1 c1 f0 c0))) (cwV (rm := gv_R 0 0) 1 hts gX1_litBehindCut_X0_copyFrom rfl rfl rfl (by decide +kernel) ⟨Nat.le_of_ble_eq_true rfl, Nat.le_of_ble_eq_true rfl⟩) (gv_preV (ci := 0) hK hPc hDc hN rfl rfl) rfl rfl hl.1 rfl (lv_room (Nat.le_of_ble_eq_true rfl)) dX1_litBehindCut_8 ⟨Nat.zero_le _, Nat.zero_le _⟩) (fun u H locs hw hP hD hS => ?_)
  obtain ⟨f_q8, h_q8⟩ := u
  have he := gv_q2 hw he
  have hP : va_P (dC, dI) vwCl (gv_V cI cL ad f0 c0 f_q8 h_q8 f2 c2 lo up be si pl cu ge fa) H := hP
  have hD : va_D A (gv_V cI cL ad f0 c0 f_q8 h_q8 f2 c2 lo up be si pl cu ge fa) := hD
  refine lv_aload_n hx hb dX1_litBehindCut_11 rfl (lv_at hl 0 rfl) ?_
  refine va_get (D := (dC, dI)) (ci := 1) (v := .ref (ad 4)) (C := RX1) (T := TX1) (N := 11) hx hb hts inX1 hown hK hP 0 rfl rfl 1 (by decide) (hts (.fieldLink RX1 16 "VineWall" "trial" "LVineWall$Wall;") (List.mem_of_getElem? (i := 1) rfl)) (fun _ h9 => h9) rfl dX1_litBehindCut_12 ?_
  refine lv_iload_n hx hb dX1_litBehindCut_15 rfl (lv_at hl 1 rfl) ?_
  refine lv_iload_n hx hb dX1_litBehindCut_16 rfl (lv_at hl 2 rfl) ?_
  have hPc : va_P (dC, dI) vwCl (gv_W cI (ad 4) (ad 5) (ad 6) f_q8 h_q8) H := gv_sub [4, 5, 6] hP rfl
  have hDc : va_D (gv_in (gv_W cI (ad 4) (ad 5) (ad 6) f_q8 h_q8)) (gv_W cI (ad 4) (ad 5) (ad 6) f_q8 h_q8) := gv_D hD [4, 5, 6] (by decide) rfl
  refine gv_kv (wf := (fun (u : (Nat → Int32) × (Nat → Int32)) => (gv_W cI (ad 4) (ad 5) (ad 6) u.1 u.2))) (wc := (gv_W cI (ad 4) (ad 5) (ad 6) f_q8 h_q8)) [4, 5, 6] (fun _ => rfl) hP hD hS rfl rfl (va_runV (As := [.int p1, .int p2]) (rest := []) ⟨hx, hb, hml, hown, hts⟩ (kX0_cutLeaf l dC dI cI cL (ad 4) (ad 5) (ad 6) f_q8 h_q8 p1 p2 (gv_in (gv_W cI (ad 4) (ad 5) (ad 6) f_q8 h_q8))) (cwV (rm := gv_R 2 43) 2 hts gX1_litBehindCut_X0_cutLeaf rfl rfl rfl (by decide +kernel) ⟨Nat.le_of_ble_eq_true rfl, Nat.le_of_ble_eq_true rfl⟩) (gv_preV (ci := 0) hK hPc hDc hN rfl rfl) rfl rfl hl.1 rfl (lv_room (Nat.le_of_ble_eq_true rfl)) dX1_litBehindCut_17 ⟨Nat.zero_le _, Nat.zero_le _⟩) (fun u H locs hw hP hD hS => ?_)
  obtain ⟨f_q17, h_q17⟩ := u
  have he := gv_q2 hw he
  have hP : va_P (dC, dI) vwCl (gv_V cI cL ad f0 c0 f_q17 h_q17 f2 c2 lo up be si pl cu ge fa) H := hP
  have hD : va_D A (gv_V cI cL ad f0 c0 f_q17 h_q17 f2 c2 lo up be si pl cu ge fa) := hD
  refine lv_aload_n hx hb dX1_litBehindCut_20 rfl (lv_at hl 0 rfl) ?_
  refine va_get (D := (dC, dI)) (ci := 1) (v := .ref (ad 7)) (C := RX1) (T := TX1) (N := 11) hx hb hts inX1 hown hK hP 0 rfl rfl 2 (by decide) (hts (.fieldLink RX1 19 "VineWall" "behind" "LVineWall$Wall;") (List.mem_of_getElem? (i := 3) rfl)) (fun _ h9 => h9) rfl dX1_litBehindCut_21 ?_
  refine lv_aload_n hx hb dX1_litBehindCut_24 rfl (lv_at hl 0 rfl) ?_
  refine va_get (D := (dC, dI)) (ci := 1) (v := .ref (ad 4)) (C := RX1) (T := TX1) (N := 11) hx hb hts inX1 hown hK hP 0 rfl rfl 1 (by decide) (hts (.fieldLink RX1 16 "VineWall" "trial" "LVineWall$Wall;") (List.mem_of_getElem? (i := 1) rfl)) (fun _ h9 => h9) rfl dX1_litBehindCut_25 ?_
  refine lv_aload_n hx hb dX1_litBehindCut_28 rfl (lv_at hl 0 rfl) ?_
  refine va_get (D := (dC, dI)) (ci := 1) (v := .int si) (C := RX1) (T := TX1) (N := 11) hx hb hts inX1 hown hK hP 0 rfl rfl 6 (by decide) (hts (.fieldLink RX1 33 "VineWall" "beyond" "I") (List.mem_of_getElem? (i := 4) rfl)) (fun _ h9 => h9) rfl dX1_litBehindCut_29 ?_
  refine lv_aload_n hx hb dX1_litBehindCut_32 rfl (lv_at hl 0 rfl) ?_
  refine va_get (D := (dC, dI)) (ci := 1) (v := .ref (ad 12)) (C := RX1) (T := TX1) (N := 11) hx hb hts inX1 hown hK hP 0 rfl rfl 5 (by decide) (hts (.fieldLink RX1 29 "VineWall" "bearings" "[I") (List.mem_of_getElem? (i := 5) rfl)) (fun _ h9 => h9) rfl dX1_litBehindCut_33 ?_
  have hPc : va_P (dC, dI) vwCl (gv_WWA cI (ad 7) (ad 8) (ad 9) (ad 4) (ad 5) (ad 6) (ad 12) f2 c2 f_q17 h_q17 be) H := gv_sub [7, 8, 9, 4, 5, 6, 12] hP rfl
  have hDc : va_D (gv_in (gv_WWA cI (ad 7) (ad 8) (ad 9) (ad 4) (ad 5) (ad 6) (ad 12) f2 c2 f_q17 h_q17 be)) (gv_WWA cI (ad 7) (ad 8) (ad 9) (ad 4) (ad 5) (ad 6) (ad 12) f2 c2 f_q17 h_q17 be) := gv_D hD [7, 8, 9, 4, 5, 6, 12] (by decide) rfl
  refine gv_ki (wf := (fun (u : (Nat → Int32) × (Nat → Int32)) => (gv_WWA cI (ad 7) (ad 8) (ad 9) (ad 4) (ad 5) (ad 6) (ad 12) u.1 u.2 f_q17 h_q17 be))) (wc := (gv_WWA cI (ad 7) (ad 8) (ad 9) (ad 4) (ad 5) (ad 6) (ad 12) f2 c2 f_q17 h_q17 be)) [7, 8, 9, 4, 5, 6, 12] (fun _ => rfl) hP hD hS rfl rfl (va_runV (As := [.ref (ad 4), .int si, .ref (ad 12)]) (rest := []) ⟨hx, hb, hml, hown, hts⟩ (kX0_becomeNextOf l dC dI cI cL (ad 7) (ad 8) (ad 9) (ad 4) (ad 5) (ad 6) (ad 12) f2 c2 f_q17 h_q17 be si (gv_in (gv_WWA cI (ad 7) (ad 8) (ad 9) (ad 4) (ad 5) (ad 6) (ad 12) f2 c2 f_q17 h_q17 be))) (cwV (rm := gv_R 4 99) 3 hts gX1_litBehindCut_X0_becomeNextOf rfl rfl rfl (by decide +kernel) ⟨Nat.le_of_ble_eq_true rfl, Nat.le_of_ble_eq_true rfl⟩) (gv_preV (ci := 0) hK hPc hDc hN rfl rfl) rfl rfl hl.1 rfl (lv_room (Nat.le_of_ble_eq_true rfl)) dX1_litBehindCut_36 ⟨Nat.zero_le _, Nat.zero_le _⟩) (fun q36 u H locs hw hP hD hS => ?_)
  obtain ⟨f_q36, h_q36⟩ := u
  have he := gv_q3 hw he
  have hP : va_P (dC, dI) vwCl (gv_V cI cL ad f0 c0 f_q17 h_q17 f_q36 h_q36 lo up be si pl cu ge fa) H := hP
  have hD : va_D A (gv_V cI cL ad f0 c0 f_q17 h_q17 f_q36 h_q36 lo up be si pl cu ge fa) := hD
  refine lv_pop hx hb dX1_litBehindCut_39 rfl ?_
  refine lv_aload_n hx hb dX1_litBehindCut_40 rfl (lv_at hl 0 rfl) ?_
  refine va_get (D := (dC, dI)) (ci := 1) (v := .ref (ad 7)) (C := RX1) (T := TX1) (N := 11) hx hb hts inX1 hown hK hP 0 rfl rfl 2 (by decide) (hts (.fieldLink RX1 19 "VineWall" "behind" "LVineWall$Wall;") (List.mem_of_getElem? (i := 3) rfl)) (fun _ h9 => h9) rfl dX1_litBehindCut_41 ?_
  have hPc : va_P (dC, dI) vwCl (gv_W cI (ad 7) (ad 8) (ad 9) f_q36 h_q36) H := gv_sub [7, 8, 9] hP rfl
  have hDc : va_D (gv_in (gv_W cI (ad 7) (ad 8) (ad 9) f_q36 h_q36)) (gv_W cI (ad 7) (ad 8) (ad 9) f_q36 h_q36) := gv_D hD [7, 8, 9] (by decide) rfl
  refine gv_ki (wf := (fun (_ : Unit) => (gv_W cI (ad 7) (ad 8) (ad 9) f_q36 h_q36))) (wc := (gv_W cI (ad 7) (ad 8) (ad 9) f_q36 h_q36)) [7, 8, 9] (fun _ => rfl) hP hD hS rfl rfl (va_runV (As := []) (rest := []) ⟨hx, hb, hml, hown, hts⟩ (kX0_countLit l dC dI cI cL (ad 7) (ad 8) (ad 9) f_q36 h_q36 (gv_in (gv_W cI (ad 7) (ad 8) (ad 9) f_q36 h_q36))) (cwV (rm := gv_R 1 20) 0 hts gX1_litBehindCut_X0_countLit rfl rfl rfl (by decide +kernel) ⟨Nat.le_of_ble_eq_true rfl, Nat.le_of_ble_eq_true rfl⟩) (gv_preV (ci := 0) hK hPc hDc hN rfl rfl) rfl rfl hl.1 rfl (lv_room (Nat.le_of_ble_eq_true rfl)) dX1_litBehindCut_44 ⟨Nat.zero_le _, Nat.zero_le _⟩) (fun q44 u H locs hw hP hD hS => ?_)
  have he := gv_q hw he
  have hP : va_P (dC, dI) vwCl (gv_V cI cL ad f0 c0 f_q17 h_q17 f_q36 h_q36 lo up be si pl cu ge fa) H := hP
  have hD : va_D A (gv_V cI cL ad f0 c0 f_q17 h_q17 f_q36 h_q36 lo up be si pl cu ge fa) := hD
  exact kr q44 (f_q17, h_q17, f_q36, h_q36) _ _ _ _ he hP hS dX1_litBehindCut_47
def spX1_leavesNext (f0 : Nat → Int32) (c0 : Nat → Int32) (f1 : Nat → Int32) (c1 : Nat → Int32) (f2 : Nat → Int32) (c2 : Nat → Int32) (lo : Nat → Int64) (up : Nat → Int64) (be : Nat → Int32) (si : Int32) (pl : Int32) (cu : Int32) (ge : Int32) (fa : Int32) : Int32 × (Nat → Int32) × (Nat → Int32) := gv_b3 (spX0_becomeNextOf f2 c2 f0 c0 be si) (fun q16 f_q16 h_q16 => gv_b (spX0_countLeaves f_q16 h_q16) (fun q24 => (q24, f_q16, h_q16)))
theorem spX1_leavesNext_e (f0 : Nat → Int32) (c0 : Nat → Int32) (f1 : Nat → Int32) (c1 : Nat → Int32) (f2 : Nat → Int32) (c2 : Nat → Int32) (lo : Nat → Int64) (up : Nat → Int64) (be : Nat → Int32) (si : Int32) (pl : Int32) (cu : Int32) (ge : Int32) (fa : Int32) : spX1_leavesNext f0 c0 f1 c1 f2 c2 lo up be si pl cu ge fa = gv_b3 (spX0_becomeNextOf f2 c2 f0 c0 be si) (fun q16 f_q16 h_q16 => gv_b (spX0_countLeaves f_q16 h_q16) (fun q24 => (q24, f_q16, h_q16))) := rfl
set_option maxHeartbeats 4000000 in
set_option maxRecDepth 100000 in
theorem kX1_leavesNext (l : Launch) (dC : Nat → ClassId) (dI : Nat → Nat → Nat) (cI cL : ClassId) (ad : Nat → Nat) (f0 : Nat → Int32) (c0 : Nat → Int32) (f1 : Nat → Int32) (c1 : Nat → Int32) (f2 : Nat → Int32) (c2 : Nat → Int32) (lo : Nat → Int64) (up : Nat → Int64) (be : Nat → Int32) (si : Int32) (pl : Int32) (cu : Int32) (ge : Int32) (fa : Int32) : gv_Mi l yX1_leavesNext wsX1_leavesNext 5 124 (dC, dI) [(cI, .int), (cL, .long)] [.ref (ad 0)] (gv_V cI cL ad f0 c0 f1 c1 f2 c2 lo up be si pl cu ge fa) (fun (r : Int32) (u : (Nat → Int32) × (Nat → Int32)) => (r, u) = spX1_leavesNext f0 c0 f1 c1 f2 c2 lo up be si pl cu ge fa) (fun (u : (Nat → Int32) × (Nat → Int32)) => (gv_V cI cL ad f0 c0 f1 c1 u.1 u.2 lo up be si pl cu ge fa)) := by
  refine gv_ofi (cc := cX1_leavesNext) (maxL := 1) (own := RX1) (by decide) rfl (Nat.le_of_ble_eq_true rfl) rfl ?_
  intro A p e s m args below meth c Q ls H locs hx hb hml hts hown hP hK hD hN hS hl kr
  have inX0 : ∀ w ∈ wsX00, w ∈ wsX1_leavesNext := (fun _ h => List.mem_cons_of_mem _ (List.mem_append_right _ h))
  have inX1 : ∀ w ∈ wsX10, w ∈ wsX1_leavesNext := (fun _ h => List.mem_cons_of_mem _ (List.mem_append_left _ (List.mem_append_right _ h)))
  have hl : lv_has ls 1 [(0, .ref (ad 0))] := hl
  have he := (spX1_leavesNext_e f0 c0 f1 c1 f2 c2 lo up be si pl cu ge fa).symm
  refine lv_aload_n hx hb dX1_leavesNext_0 rfl (lv_at hl 0 rfl) ?_
  refine va_get (D := (dC, dI)) (ci := 1) (v := .ref (ad 7)) (C := RX1) (T := TX1) (N := 11) hx hb hts inX1 hown hK hP 0 rfl rfl 2 (by decide) (hts (.fieldLink RX1 19 "VineWall" "behind" "LVineWall$Wall;") (List.mem_of_getElem? (i := 1) rfl)) (fun _ h9 => h9) rfl dX1_leavesNext_1 ?_
  refine lv_aload_n hx hb dX1_leavesNext_4 rfl (lv_at hl 0 rfl) ?_
  refine va_get (D := (dC, dI)) (ci := 1) (v := .ref (ad 1)) (C := RX1) (T := TX1) (N := 11) hx hb hts inX1 hown hK hP 0 rfl rfl 0 (by decide) (hts (.fieldLink RX1 10 "VineWall" "wall" "LVineWall$Wall;") (List.mem_of_getElem? (i := 2) rfl)) (fun _ h9 => h9) rfl dX1_leavesNext_5 ?_
  refine lv_aload_n hx hb dX1_leavesNext_8 rfl (lv_at hl 0 rfl) ?_
  refine va_get (D := (dC, dI)) (ci := 1) (v := .int si) (C := RX1) (T := TX1) (N := 11) hx hb hts inX1 hown hK hP 0 rfl rfl 6 (by decide) (hts (.fieldLink RX1 33 "VineWall" "beyond" "I") (List.mem_of_getElem? (i := 3) rfl)) (fun _ h9 => h9) rfl dX1_leavesNext_9 ?_
  refine lv_aload_n hx hb dX1_leavesNext_12 rfl (lv_at hl 0 rfl) ?_
  refine va_get (D := (dC, dI)) (ci := 1) (v := .ref (ad 12)) (C := RX1) (T := TX1) (N := 11) hx hb hts inX1 hown hK hP 0 rfl rfl 5 (by decide) (hts (.fieldLink RX1 29 "VineWall" "bearings" "[I") (List.mem_of_getElem? (i := 4) rfl)) (fun _ h9 => h9) rfl dX1_leavesNext_13 ?_
  have hPc : va_P (dC, dI) vwCl (gv_WWA cI (ad 7) (ad 8) (ad 9) (ad 1) (ad 2) (ad 3) (ad 12) f2 c2 f0 c0 be) H := gv_sub [7, 8, 9, 1, 2, 3, 12] hP rfl
  have hDc : va_D (gv_in (gv_WWA cI (ad 7) (ad 8) (ad 9) (ad 1) (ad 2) (ad 3) (ad 12) f2 c2 f0 c0 be)) (gv_WWA cI (ad 7) (ad 8) (ad 9) (ad 1) (ad 2) (ad 3) (ad 12) f2 c2 f0 c0 be) := gv_D hD [7, 8, 9, 1, 2, 3, 12] (by decide) rfl
  refine gv_ki (wf := (fun (u : (Nat → Int32) × (Nat → Int32)) => (gv_WWA cI (ad 7) (ad 8) (ad 9) (ad 1) (ad 2) (ad 3) (ad 12) u.1 u.2 f0 c0 be))) (wc := (gv_WWA cI (ad 7) (ad 8) (ad 9) (ad 1) (ad 2) (ad 3) (ad 12) f2 c2 f0 c0 be)) [7, 8, 9, 1, 2, 3, 12] (fun _ => rfl) hP hD hS rfl rfl (va_runV (As := [.ref (ad 1), .int si, .ref (ad 12)]) (rest := []) ⟨hx, hb, hml, hown, hts⟩ (kX0_becomeNextOf l dC dI cI cL (ad 7) (ad 8) (ad 9) (ad 1) (ad 2) (ad 3) (ad 12) f2 c2 f0 c0 be si (gv_in (gv_WWA cI (ad 7) (ad 8) (ad 9) (ad 1) (ad 2) (ad 3) (ad 12) f2 c2 f0 c0 be))) (cwV (rm := gv_R 4 99) 3 hts gX1_leavesNext_X0_becomeNextOf rfl rfl rfl (by decide +kernel) ⟨Nat.le_of_ble_eq_true rfl, Nat.le_of_ble_eq_true rfl⟩) (gv_preV (ci := 0) hK hPc hDc hN rfl rfl) rfl rfl hl.1 rfl (lv_room (Nat.le_of_ble_eq_true rfl)) dX1_leavesNext_16 ⟨Nat.zero_le _, Nat.zero_le _⟩) (fun q16 u H locs hw hP hD hS => ?_)
  obtain ⟨f_q16, h_q16⟩ := u
  have he := gv_q3 hw he
  have hP : va_P (dC, dI) vwCl (gv_V cI cL ad f0 c0 f1 c1 f_q16 h_q16 lo up be si pl cu ge fa) H := hP
  have hD : va_D A (gv_V cI cL ad f0 c0 f1 c1 f_q16 h_q16 lo up be si pl cu ge fa) := hD
  refine lv_pop hx hb dX1_leavesNext_19 rfl ?_
  refine lv_aload_n hx hb dX1_leavesNext_20 rfl (lv_at hl 0 rfl) ?_
  refine va_get (D := (dC, dI)) (ci := 1) (v := .ref (ad 7)) (C := RX1) (T := TX1) (N := 11) hx hb hts inX1 hown hK hP 0 rfl rfl 2 (by decide) (hts (.fieldLink RX1 19 "VineWall" "behind" "LVineWall$Wall;") (List.mem_of_getElem? (i := 1) rfl)) (fun _ h9 => h9) rfl dX1_leavesNext_21 ?_
  have hPc : va_P (dC, dI) vwCl (gv_W cI (ad 7) (ad 8) (ad 9) f_q16 h_q16) H := gv_sub [7, 8, 9] hP rfl
  have hDc : va_D (gv_in (gv_W cI (ad 7) (ad 8) (ad 9) f_q16 h_q16)) (gv_W cI (ad 7) (ad 8) (ad 9) f_q16 h_q16) := gv_D hD [7, 8, 9] (by decide) rfl
  refine gv_ki (wf := (fun (_ : Unit) => (gv_W cI (ad 7) (ad 8) (ad 9) f_q16 h_q16))) (wc := (gv_W cI (ad 7) (ad 8) (ad 9) f_q16 h_q16)) [7, 8, 9] (fun _ => rfl) hP hD hS rfl rfl (va_runV (As := []) (rest := []) ⟨hx, hb, hml, hown, hts⟩ (kX0_countLeaves l dC dI cI cL (ad 7) (ad 8) (ad 9) f_q16 h_q16 (gv_in (gv_W cI (ad 7) (ad 8) (ad 9) f_q16 h_q16))) (cwV (rm := gv_R 1 20) 0 hts gX1_leavesNext_X0_countLeaves rfl rfl rfl (by decide +kernel) ⟨Nat.le_of_ble_eq_true rfl, Nat.le_of_ble_eq_true rfl⟩) (gv_preV (ci := 0) hK hPc hDc hN rfl rfl) rfl rfl hl.1 rfl (lv_room (Nat.le_of_ble_eq_true rfl)) dX1_leavesNext_24 ⟨Nat.zero_le _, Nat.zero_le _⟩) (fun q24 u H locs hw hP hD hS => ?_)
  have he := gv_q hw he
  have hP : va_P (dC, dI) vwCl (gv_V cI cL ad f0 c0 f1 c1 f_q16 h_q16 lo up be si pl cu ge fa) H := hP
  have hD : va_D A (gv_V cI cL ad f0 c0 f1 c1 f_q16 h_q16 lo up be si pl cu ge fa) := hD
  exact kr q24 (f_q16, h_q16) _ _ _ _ he hP hS dX1_leavesNext_27
def spX1_remember (f0 : Nat → Int32) (c0 : Nat → Int32) (f1 : Nat → Int32) (c1 : Nat → Int32) (f2 : Nat → Int32) (c2 : Nat → Int32) (lo : Nat → Int64) (up : Nat → Int64) (be : Nat → Int32) (si : Int32) (pl : Int32) (cu : Int32) (ge : Int32) (fa : Int32) (w1 : Nat) : (Nat → Int64) × (Nat → Int64) := gv_b (spX0_leavesOfHalf f1 c1 0) (fun q10 => gv_b (spX0_leavesOfHalf f1 c1 4) (fun q24 => (vp_updL lo w1 q10, vp_updL up w1 q24)))
theorem spX1_remember_e (f0 : Nat → Int32) (c0 : Nat → Int32) (f1 : Nat → Int32) (c1 : Nat → Int32) (f2 : Nat → Int32) (c2 : Nat → Int32) (lo : Nat → Int64) (up : Nat → Int64) (be : Nat → Int32) (si : Int32) (pl : Int32) (cu : Int32) (ge : Int32) (fa : Int32) (w1 : Nat) : spX1_remember f0 c0 f1 c1 f2 c2 lo up be si pl cu ge fa w1 = gv_b (spX0_leavesOfHalf f1 c1 0) (fun q10 => gv_b (spX0_leavesOfHalf f1 c1 4) (fun q24 => (vp_updL lo w1 q10, vp_updL up w1 q24))) := rfl
set_option maxHeartbeats 4000000 in
set_option maxRecDepth 100000 in
theorem kX1_remember (l : Launch) (dC : Nat → ClassId) (dI : Nat → Nat → Nat) (cI cL : ClassId) (ad : Nat → Nat) (f0 : Nat → Int32) (c0 : Nat → Int32) (f1 : Nat → Int32) (c1 : Nat → Int32) (f2 : Nat → Int32) (c2 : Nat → Int32) (lo : Nat → Int64) (up : Nat → Int64) (be : Nat → Int32) (si : Int32) (pl : Int32) (cu : Int32) (ge : Int32) (fa : Int32) (p1 : Int32) (w1 : Nat) (hw1 : p1 = nI w1) (hy0 : w1 < 61) : gv_Mv l yX1_remember wsX1_remember 2 45 (dC, dI) [(cI, .int), (cL, .long)] [.ref (ad 0), .int p1] (gv_V cI cL ad f0 c0 f1 c1 f2 c2 lo up be si pl cu ge fa) (fun (u : (Nat → Int64) × (Nat → Int64)) => u = spX1_remember f0 c0 f1 c1 f2 c2 lo up be si pl cu ge fa w1) (fun (u : (Nat → Int64) × (Nat → Int64)) => (gv_V cI cL ad f0 c0 f1 c1 f2 c2 u.1 u.2 be si pl cu ge fa)) := by
  subst hw1
  refine gv_ofv (cc := cX1_remember) (maxL := 2) (own := RX1) (by decide) rfl (Nat.le_of_ble_eq_true rfl) rfl ?_
  intro A p e s m args below meth c Q ls H locs hx hb hml hts hown hP hK hD hN hS hl kr
  have inX0 : ∀ w ∈ wsX00, w ∈ wsX1_remember := (fun _ h => List.mem_cons_of_mem _ (List.mem_append_right _ h))
  have inX1 : ∀ w ∈ wsX10, w ∈ wsX1_remember := (fun _ h => List.mem_cons_of_mem _ (List.mem_append_left _ (List.mem_append_right _ h)))
  have hl : lv_has ls 2 [(0, .ref (ad 0)), (1, .int (nI w1))] := hl
  have he := (spX1_remember_e f0 c0 f1 c1 f2 c2 lo up be si pl cu ge fa w1).symm
  refine lv_aload_n hx hb dX1_remember_0 rfl (lv_at hl 0 rfl) ?_
  refine va_get (D := (dC, dI)) (ci := 1) (v := .ref (ad 10)) (C := RX1) (T := TX1) (N := 11) hx hb hts inX1 hown hK hP 0 rfl rfl 3 (by decide) (hts (.fieldLink RX1 22 "VineWall" "lowerHalves" "[J") (List.mem_of_getElem? (i := 1) rfl)) (fun _ h9 => h9) rfl dX1_remember_1 ?_
  refine lv_iload_n hx hb dX1_remember_4 rfl (lv_at hl 1 rfl) ?_
  refine lv_aload_n hx hb dX1_remember_5 rfl (lv_at hl 0 rfl) ?_
  refine va_get (D := (dC, dI)) (ci := 1) (v := .ref (ad 4)) (C := RX1) (T := TX1) (N := 11) hx hb hts inX1 hown hK hP 0 rfl rfl 1 (by decide) (hts (.fieldLink RX1 16 "VineWall" "trial" "LVineWall$Wall;") (List.mem_of_getElem? (i := 2) rfl)) (fun _ h9 => h9) rfl dX1_remember_6 ?_
  refine lv_iconst (v := 0) hx hb dX1_remember_9 (by decide) ?_
  have hPc : va_P (dC, dI) vwCl (gv_W cI (ad 4) (ad 5) (ad 6) f1 c1) H := gv_sub [4, 5, 6] hP rfl
  have hDc : va_D (gv_in (gv_W cI (ad 4) (ad 5) (ad 6) f1 c1)) (gv_W cI (ad 4) (ad 5) (ad 6) f1 c1) := gv_D hD [4, 5, 6] (by decide) rfl
  refine gv_kl (wf := (fun (_ : Unit) => (gv_W cI (ad 4) (ad 5) (ad 6) f1 c1))) (wc := (gv_W cI (ad 4) (ad 5) (ad 6) f1 c1)) [4, 5, 6] (fun _ => rfl) hP hD hS rfl rfl (va_runV (As := [.int 0]) (rest := [.int (nI w1), .ref (ad 10)]) ⟨hx, hb, hml, hown, hts⟩ (kX0_leavesOfHalf l dC dI cI cL (ad 4) (ad 5) (ad 6) f1 c1 0 0 (rfl : (0 : Int32) = nI 0) (by omega) (gv_in (gv_W cI (ad 4) (ad 5) (ad 6) f1 c1))) (cwV (rm := gv_R 1 21) 1 hts gX1_remember_X0_leavesOfHalf rfl rfl rfl (by decide +kernel) ⟨Nat.le_of_ble_eq_true rfl, Nat.le_of_ble_eq_true rfl⟩) (gv_preV (ci := 0) hK hPc hDc hN rfl rfl) rfl rfl hl.1 rfl (lv_room (Nat.le_of_ble_eq_true rfl)) dX1_remember_10 ⟨Nat.zero_le _, Nat.zero_le _⟩) (fun q10 u H locs hw hP hD hS => ?_)
  have he := gv_q hw he
  have hP : va_P (dC, dI) vwCl (gv_V cI cL ad f0 c0 f1 c1 f2 c2 lo up be si pl cu ge fa) H := hP
  have hD : va_D A (gv_V cI cL ad f0 c0 f1 c1 f2 c2 lo up be si pl cu ge fa) := hD
  refine gv_last (cA := cL) (k := w1) hx hb hK hP hD hS 10 1 rfl rfl rfl (by omega) (by decide) dX1_remember_13 (fun H locs hP hD hS => ?_)
  have hP : va_P (dC, dI) vwCl (gv_V cI cL ad f0 c0 f1 c1 f2 c2 (vp_updL lo w1 q10) up be si pl cu ge fa) H := hP
  have hD : va_D A (gv_V cI cL ad f0 c0 f1 c1 f2 c2 (vp_updL lo w1 q10) up be si pl cu ge fa) := hD
  refine lv_aload_n hx hb dX1_remember_14 rfl (lv_at hl 0 rfl) ?_
  refine va_get (D := (dC, dI)) (ci := 1) (v := .ref (ad 11)) (C := RX1) (T := TX1) (N := 11) hx hb hts inX1 hown hK hP 0 rfl rfl 4 (by decide) (hts (.fieldLink RX1 26 "VineWall" "upperHalves" "[J") (List.mem_of_getElem? (i := 3) rfl)) (fun _ h9 => h9) rfl dX1_remember_15 ?_
  refine lv_iload_n hx hb dX1_remember_18 rfl (lv_at hl 1 rfl) ?_
  refine lv_aload_n hx hb dX1_remember_19 rfl (lv_at hl 0 rfl) ?_
  refine va_get (D := (dC, dI)) (ci := 1) (v := .ref (ad 4)) (C := RX1) (T := TX1) (N := 11) hx hb hts inX1 hown hK hP 0 rfl rfl 1 (by decide) (hts (.fieldLink RX1 16 "VineWall" "trial" "LVineWall$Wall;") (List.mem_of_getElem? (i := 2) rfl)) (fun _ h9 => h9) rfl dX1_remember_20 ?_
  refine lv_iconst (v := 4) hx hb dX1_remember_23 (by decide) ?_
  have hPc : va_P (dC, dI) vwCl (gv_W cI (ad 4) (ad 5) (ad 6) f1 c1) H := gv_sub [4, 5, 6] hP rfl
  have hDc : va_D (gv_in (gv_W cI (ad 4) (ad 5) (ad 6) f1 c1)) (gv_W cI (ad 4) (ad 5) (ad 6) f1 c1) := gv_D hD [4, 5, 6] (by decide) rfl
  refine gv_kl (wf := (fun (_ : Unit) => (gv_W cI (ad 4) (ad 5) (ad 6) f1 c1))) (wc := (gv_W cI (ad 4) (ad 5) (ad 6) f1 c1)) [4, 5, 6] (fun _ => rfl) hP hD hS rfl rfl (va_runV (As := [.int 4]) (rest := [.int (nI w1), .ref (ad 11)]) ⟨hx, hb, hml, hown, hts⟩ (kX0_leavesOfHalf l dC dI cI cL (ad 4) (ad 5) (ad 6) f1 c1 4 4 (rfl : (4 : Int32) = nI 4) (by omega) (gv_in (gv_W cI (ad 4) (ad 5) (ad 6) f1 c1))) (cwV (rm := gv_R 1 21) 1 hts gX1_remember_X0_leavesOfHalf rfl rfl rfl (by decide +kernel) ⟨Nat.le_of_ble_eq_true rfl, Nat.le_of_ble_eq_true rfl⟩) (gv_preV (ci := 0) hK hPc hDc hN rfl rfl) rfl rfl hl.1 rfl (lv_room (Nat.le_of_ble_eq_true rfl)) dX1_remember_24 ⟨Nat.zero_le _, Nat.zero_le _⟩) (fun q24 u H locs hw hP hD hS => ?_)
  have he := gv_q hw he
  have hP : va_P (dC, dI) vwCl (gv_V cI cL ad f0 c0 f1 c1 f2 c2 (vp_updL lo w1 q10) up be si pl cu ge fa) H := hP
  have hD : va_D A (gv_V cI cL ad f0 c0 f1 c1 f2 c2 (vp_updL lo w1 q10) up be si pl cu ge fa) := hD
  refine gv_last (cA := cL) (k := w1) hx hb hK hP hD hS 11 1 rfl rfl rfl (by omega) (by decide) dX1_remember_27 (fun H locs hP hD hS => ?_)
  have hP : va_P (dC, dI) vwCl (gv_V cI cL ad f0 c0 f1 c1 f2 c2 (vp_updL lo w1 q10) (vp_updL up w1 q24) be si pl cu ge fa) H := hP
  have hD : va_D A (gv_V cI cL ad f0 c0 f1 c1 f2 c2 (vp_updL lo w1 q10) (vp_updL up w1 q24) be si pl cu ge fa) := hD
  exact kr (vp_updL lo w1 q10, vp_updL up w1 q24) _ _ _ _ he hP hS dX1_remember_28
def lpX1_looksAsBefore_2 (n1_2 : Nat) (f0_c : Nat → Int32) (c0_c : Nat → Int32) (f1_c : Nat → Int32) (c1_c : Nat → Int32) (f2_c : Nat → Int32) (c2_c : Nat → Int32) (lo_c : Nat → Int64) (up_c : Nat → Int64) (be_c : Nat → Int32) (si_c : Int32) (pl_c : Int32) (cu_c : Int32) (ge_c : Int32) (fa_c : Int32) : Nat → Nat → Int32
  | 0, _ => 0
  | n2 + 1, i2 => (if (lg_cmp (lo_c i2) (lo_c n1_2)) = 0 then (if (lg_cmp (up_c i2) (up_c n1_2)) = 0 then 1 else lpX1_looksAsBefore_2 n1_2 f0_c c0_c f1_c c1_c f2_c c2_c lo_c up_c be_c si_c pl_c cu_c ge_c fa_c n2 (i2 + 1) ) else lpX1_looksAsBefore_2 n1_2 f0_c c0_c f1_c c1_c f2_c c2_c lo_c up_c be_c si_c pl_c cu_c ge_c fa_c n2 (i2 + 1) )
theorem lpX1_looksAsBefore_2_0 (n1_2 : Nat) (f0_c : Nat → Int32) (c0_c : Nat → Int32) (f1_c : Nat → Int32) (c1_c : Nat → Int32) (f2_c : Nat → Int32) (c2_c : Nat → Int32) (lo_c : Nat → Int64) (up_c : Nat → Int64) (be_c : Nat → Int32) (si_c : Int32) (pl_c : Int32) (cu_c : Int32) (ge_c : Int32) (fa_c : Int32) (i2 : Nat)  : lpX1_looksAsBefore_2 n1_2 f0_c c0_c f1_c c1_c f2_c c2_c lo_c up_c be_c si_c pl_c cu_c ge_c fa_c 0 i2 = 0 := rfl
theorem lpX1_looksAsBefore_2_s (n1_2 : Nat) (f0_c : Nat → Int32) (c0_c : Nat → Int32) (f1_c : Nat → Int32) (c1_c : Nat → Int32) (f2_c : Nat → Int32) (c2_c : Nat → Int32) (lo_c : Nat → Int64) (up_c : Nat → Int64) (be_c : Nat → Int32) (si_c : Int32) (pl_c : Int32) (cu_c : Int32) (ge_c : Int32) (fa_c : Int32) (n2 : Nat) (i2 : Nat)  : lpX1_looksAsBefore_2 n1_2 f0_c c0_c f1_c c1_c f2_c c2_c lo_c up_c be_c si_c pl_c cu_c ge_c fa_c (n2 + 1) i2 = (if (lg_cmp (lo_c i2) (lo_c n1_2)) = 0 then (if (lg_cmp (up_c i2) (up_c n1_2)) = 0 then 1 else lpX1_looksAsBefore_2 n1_2 f0_c c0_c f1_c c1_c f2_c c2_c lo_c up_c be_c si_c pl_c cu_c ge_c fa_c n2 (i2 + 1) ) else lpX1_looksAsBefore_2 n1_2 f0_c c0_c f1_c c1_c f2_c c2_c lo_c up_c be_c si_c pl_c cu_c ge_c fa_c n2 (i2 + 1) ) := rfl
def spX1_looksAsBefore (f0 : Nat → Int32) (c0 : Nat → Int32) (f1 : Nat → Int32) (c1 : Nat → Int32) (f2 : Nat → Int32) (c2 : Nat → Int32) (lo : Nat → Int64) (up : Nat → Int64) (be : Nat → Int32) (si : Int32) (pl : Int32) (cu : Int32) (ge : Int32) (fa : Int32) (w1 : Nat) (w2 : Nat) : Int32 := lpX1_looksAsBefore_2 w1 f0 c0 f1 c1 f2 c2 lo up be si pl cu ge fa (w1 - w2) w2 
theorem spX1_looksAsBefore_e (f0 : Nat → Int32) (c0 : Nat → Int32) (f1 : Nat → Int32) (c1 : Nat → Int32) (f2 : Nat → Int32) (c2 : Nat → Int32) (lo : Nat → Int64) (up : Nat → Int64) (be : Nat → Int32) (si : Int32) (pl : Int32) (cu : Int32) (ge : Int32) (fa : Int32) (w1 : Nat) (w2 : Nat) : spX1_looksAsBefore f0 c0 f1 c1 f2 c2 lo up be si pl cu ge fa w1 w2 = lpX1_looksAsBefore_2 w1 f0 c0 f1 c1 f2 c2 lo up be si pl cu ge fa (w1 - w2) w2  := rfl
set_option maxHeartbeats 4000000 in
set_option maxRecDepth 100000 in
theorem kX1_looksAsBefore (l : Launch) (dC : Nat → ClassId) (dI : Nat → Nat → Nat) (cI cL : ClassId) (ad : Nat → Nat) (f0 : Nat → Int32) (c0 : Nat → Int32) (f1 : Nat → Int32) (c1 : Nat → Int32) (f2 : Nat → Int32) (c2 : Nat → Int32) (lo : Nat → Int64) (up : Nat → Int64) (be : Nat → Int32) (si : Int32) (pl : Int32) (cu : Int32) (ge : Int32) (fa : Int32) (p1 : Int32) (w1 : Nat) (hw1 : p1 = nI w1) (p2 : Int32) (w2 : Nat) (hw2 : p2 = nI w2) (hy0 : w1 < 61) (hy1 : w2 ≤ w1) : gv_Mi l yX1_looksAsBefore wsX1_looksAsBefore 0 0 (dC, dI) [(cI, .int), (cL, .long)] [.ref (ad 0), .int p1, .int p2] (gv_V cI cL ad f0 c0 f1 c1 f2 c2 lo up be si pl cu ge fa) (fun (r : Int32) (_ : Unit) => r = spX1_looksAsBefore f0 c0 f1 c1 f2 c2 lo up be si pl cu ge fa w1 w2) (fun (_ : Unit) => (gv_V cI cL ad f0 c0 f1 c1 f2 c2 lo up be si pl cu ge fa)) := by
  subst hw1
  subst hw2
  refine gv_ofz (cc := cX1_looksAsBefore) (maxL := 4) (own := RX1) (ty := .boolean) (by decide) rfl (Nat.le_of_ble_eq_true rfl) rfl ?_
  intro A p e s m args below meth c Q ls H locs hx hb hml hts hown hP hK hD hN hS hl kr
  have inX1 : ∀ w ∈ wsX10, w ∈ wsX1_looksAsBefore := (fun _ h => List.mem_cons_of_mem _ (List.mem_append_right _ h))
  have hl : lv_has ls 4 [(0, .ref (ad 0)), (1, .int (nI w1)), (2, .int (nI w2))] := hl
  have he := (spX1_looksAsBefore_e f0 c0 f1 c1 f2 c2 lo up be si pl cu ge fa w1 w2).symm
  refine lv_iload_n hx hb dX1_looksAsBefore_0 rfl (lv_at hl 2 rfl) ?_
  refine lv_istore_n (lv' := [(3, .int (nI w2)), (0, .ref (ad 0)), (1, .int (nI w1)), (2, .int (nI w2))]) hx hb dX1_looksAsBefore_1 rfl hl (by decide) rfl (fun ls hl => ?_)
  have L2 : ∀ (n2 i2 : Nat) (H : Heap) (locs : List Loc) (ls : Array Slot), w2 ≤ i2 ∧ i2 + n2 = w1 → lpX1_looksAsBefore_2 w1 f0 c0 f1 c1 f2 c2 lo up be si pl cu ge fa n2 i2  = spX1_looksAsBefore f0 c0 f1 c1 f2 c2 lo up be si pl cu ge fa w1 w2 → va_P (dC, dI) vwCl (gv_V cI cL ad f0 c0 f1 c1 f2 c2 lo up be si pl cu ge fa) H → va_D A (gv_V cI cL ad f0 c0 f1 c1 f2 c2 lo up be si pl cu ge fa) → va_S A s.heap H locs → lv_has ls 4 [(0, .ref (ad 0)), (1, .int (nI w1)), (2, .int (nI w2)), (3, .int (nI i2))] → W p l e (gv_R 0 0) s m args below meth c H locs 0 0 Q (F0 m 2 ls []) := by
    intro n2
    induction n2 with
    | zero =>
      intro i2  H locs ls hi2 he hP hD hS hl
      have he := (lpX1_looksAsBefore_2_0 _ _ _ _ _ _ _ _ _ _ _ _ _ _ _ _).symm.trans he
      refine lv_iload_n hx hb dX1_looksAsBefore_2 rfl (lv_at hl 3 rfl) ?_
      refine lv_iload_n hx hb dX1_looksAsBefore_3 rfl (lv_at hl 1 rfl) ?_
      refine lv_icmp_ge (tgt := 47) hx hb dX1_looksAsBefore_4 (by decide) (fun _ => ?_) (fun c => absurd c (gv_ge (N := w1) rfl rfl (by omega) (by omega)))
      refine lv_iconst (v := 0) hx hb dX1_looksAsBefore_47 (by decide) ?_
      exact kr 0 () _ _ _ _ rfl he hP hS dX1_looksAsBefore_48
    | succ n2 ih2 =>
      intro i2  H locs ls hi2 he hP hD hS hl
      have he := (lpX1_looksAsBefore_2_s _ _ _ _ _ _ _ _ _ _ _ _ _ _ _ _ _).symm.trans he
      refine lv_iload_n hx hb dX1_looksAsBefore_2 rfl (lv_at hl 3 rfl) ?_
      refine lv_iload_n hx hb dX1_looksAsBefore_3 rfl (lv_at hl 1 rfl) ?_
      refine lv_icmp_ge (tgt := 47) hx hb dX1_looksAsBefore_4 (by decide) (fun c => absurd c (gv_lt (N := w1) rfl rfl (by omega) (by omega))) (fun _ => ?_)
      refine lv_aload_n hx hb dX1_looksAsBefore_7 rfl (lv_at hl 0 rfl) ?_
      refine va_get (D := (dC, dI)) (ci := 1) (v := .ref (ad 10)) (C := RX1) (T := TX1) (N := 11) hx hb hts inX1 hown hK hP 0 rfl rfl 3 (by decide) (hts (.fieldLink RX1 22 "VineWall" "lowerHalves" "[J") (List.mem_of_getElem? (i := 1) rfl)) (fun _ h9 => h9) rfl dX1_looksAsBefore_8 ?_
      refine lv_iload_n hx hb dX1_looksAsBefore_11 rfl (lv_at hl 3 rfl) ?_
      refine gv_lald (cA := cL) (f := lo) (k := i2) hx hb hK hP 10 1 rfl rfl rfl (by omega) (by decide) dX1_looksAsBefore_12 ?_
      refine lv_aload_n hx hb dX1_looksAsBefore_13 rfl (lv_at hl 0 rfl) ?_
      refine va_get (D := (dC, dI)) (ci := 1) (v := .ref (ad 10)) (C := RX1) (T := TX1) (N := 11) hx hb hts inX1 hown hK hP 0 rfl rfl 3 (by decide) (hts (.fieldLink RX1 22 "VineWall" "lowerHalves" "[J") (List.mem_of_getElem? (i := 1) rfl)) (fun _ h9 => h9) rfl dX1_looksAsBefore_14 ?_
      refine lv_iload_n hx hb dX1_looksAsBefore_17 rfl (lv_at hl 1 rfl) ?_
      refine gv_lald (cA := cL) (f := lo) (k := w1) hx hb hK hP 10 1 rfl rfl rfl (by omega) (by decide) dX1_looksAsBefore_18 ?_
      refine W.lcmp hx hb dX1_looksAsBefore_19 ?_
      refine lv_if_ne (tgt := 41) hx hb dX1_looksAsBefore_20 (by decide) (fun cd20 => ?_) (fun cd20 => ?_)
      · have he := gv_f cd20 he
        refine lv_iinc (v := (nI (i2 + 1))) (lv' := [(3, .int (nI (i2 + 1))), (0, .ref (ad 0)), (1, .int (nI w1)), (2, .int (nI w2))]) hx hb dX1_looksAsBefore_41 hl (k := 3) rfl (nI_1 i2) (by decide) rfl (fun ls hl => ?_)
        refine lv_goto (tgt := 2) hx hb dX1_looksAsBefore_44 (by decide) ?_
        exact ih2 (i2 + 1)  _ _ _ (by omega) he hP hD hS (lv_sub hl [1, 2, 3, 0] rfl)
      · have he := gv_t cd20 he
        refine lv_aload_n hx hb dX1_looksAsBefore_23 rfl (lv_at hl 0 rfl) ?_
        refine va_get (D := (dC, dI)) (ci := 1) (v := .ref (ad 11)) (C := RX1) (T := TX1) (N := 11) hx hb hts inX1 hown hK hP 0 rfl rfl 4 (by decide) (hts (.fieldLink RX1 26 "VineWall" "upperHalves" "[J") (List.mem_of_getElem? (i := 2) rfl)) (fun _ h9 => h9) rfl dX1_looksAsBefore_24 ?_
        refine lv_iload_n hx hb dX1_looksAsBefore_27 rfl (lv_at hl 3 rfl) ?_
        refine gv_lald (cA := cL) (f := up) (k := i2) hx hb hK hP 11 1 rfl rfl rfl (by omega) (by decide) dX1_looksAsBefore_28 ?_
        refine lv_aload_n hx hb dX1_looksAsBefore_29 rfl (lv_at hl 0 rfl) ?_
        refine va_get (D := (dC, dI)) (ci := 1) (v := .ref (ad 11)) (C := RX1) (T := TX1) (N := 11) hx hb hts inX1 hown hK hP 0 rfl rfl 4 (by decide) (hts (.fieldLink RX1 26 "VineWall" "upperHalves" "[J") (List.mem_of_getElem? (i := 2) rfl)) (fun _ h9 => h9) rfl dX1_looksAsBefore_30 ?_
        refine lv_iload_n hx hb dX1_looksAsBefore_33 rfl (lv_at hl 1 rfl) ?_
        refine gv_lald (cA := cL) (f := up) (k := w1) hx hb hK hP 11 1 rfl rfl rfl (by omega) (by decide) dX1_looksAsBefore_34 ?_
        refine W.lcmp hx hb dX1_looksAsBefore_35 ?_
        refine lv_if_ne (tgt := 41) hx hb dX1_looksAsBefore_36 (by decide) (fun cd36 => ?_) (fun cd36 => ?_)
        · have he := gv_f cd36 he
          refine lv_iinc (v := (nI (i2 + 1))) (lv' := [(3, .int (nI (i2 + 1))), (0, .ref (ad 0)), (1, .int (nI w1)), (2, .int (nI w2))]) hx hb dX1_looksAsBefore_41 hl (k := 3) rfl (nI_1 i2) (by decide) rfl (fun ls hl => ?_)
          refine lv_goto (tgt := 2) hx hb dX1_looksAsBefore_44 (by decide) ?_
          exact ih2 (i2 + 1)  _ _ _ (by omega) he hP hD hS (lv_sub hl [1, 2, 3, 0] rfl)
        · have he := gv_t cd36 he
          refine lv_iconst (v := 1) hx hb dX1_looksAsBefore_39 (by decide) ?_
          exact kr 1 () _ _ _ _ rfl he hP hS dX1_looksAsBefore_40
  exact L2 (w1 - w2) w2  _ _ _ (by omega) he hP hD hS (lv_sub hl [1, 2, 3, 0] rfl)
end
section
def lpX1_repeatsIn_34 (b1_34 : Int32) (n1_34 : Nat) (f0_c : Nat → Int32) (c0_c : Nat → Int32) (be_c : Nat → Int32) (si_c : Int32) (pl_c : Int32) (cu_c : Int32) (ge_c : Int32) (fa_c : Int32) : Nat → Nat → (Nat → Int32) → (Nat → Int32) → (Nat → Int32) → (Nat → Int32) → (Nat → Int64) → (Nat → Int64) → Int32 × (Nat → Int32) × (Nat → Int32) × (Nat → Int32) × (Nat → Int32) × (Nat → Int64) × (Nat → Int64)
  | 0, _, f1_34, c1_34, f2_34, c2_34, lo_34, up_34 => ((-1), f1_34, c1_34, f2_34, c2_34, lo_34, up_34)
  | n34 + 1, i34, f1_34, c1_34, f2_34, c2_34, lo_34, up_34 => gv_b3 (spX0_becomeNextOf f2_34 c2_34 f1_34 c1_34 be_c si_c) (fun q56 f_q56 h_q56 => gv_b2 (spX0_copyFrom f1_34 c1_34 f_q56 h_q56) (fun f_q68 h_q68 => gv_b2 (spX1_remember f0_c c0_c f_q68 h_q68 f_q56 h_q56 lo_34 up_34 be_c si_c pl_c cu_c ge_c fa_c i34) (fun lo_q73 up_q73 => gv_b (spX1_looksAsBefore f0_c c0_c f_q68 h_q68 f_q56 h_q56 lo_q73 up_q73 be_c si_c pl_c cu_c ge_c fa_c i34 n1_34) (fun q79 => (if q79 = 0 then lpX1_repeatsIn_34 b1_34 n1_34 f0_c c0_c be_c si_c pl_c cu_c ge_c fa_c n34 (i34 + 1) f_q68 h_q68 f_q56 h_q56 lo_q73 up_q73 else ((nI i34), f_q68, h_q68, f_q56, h_q56, lo_q73, up_q73))))))
theorem lpX1_repeatsIn_34_0 (b1_34 : Int32) (n1_34 : Nat) (f0_c : Nat → Int32) (c0_c : Nat → Int32) (be_c : Nat → Int32) (si_c : Int32) (pl_c : Int32) (cu_c : Int32) (ge_c : Int32) (fa_c : Int32) (i34 : Nat) (f1_34 : Nat → Int32) (c1_34 : Nat → Int32) (f2_34 : Nat → Int32) (c2_34 : Nat → Int32) (lo_34 : Nat → Int64) (up_34 : Nat → Int64) : lpX1_repeatsIn_34 b1_34 n1_34 f0_c c0_c be_c si_c pl_c cu_c ge_c fa_c 0 i34 f1_34 c1_34 f2_34 c2_34 lo_34 up_34 = ((-1), f1_34, c1_34, f2_34, c2_34, lo_34, up_34) := rfl
theorem lpX1_repeatsIn_34_s (b1_34 : Int32) (n1_34 : Nat) (f0_c : Nat → Int32) (c0_c : Nat → Int32) (be_c : Nat → Int32) (si_c : Int32) (pl_c : Int32) (cu_c : Int32) (ge_c : Int32) (fa_c : Int32) (n34 : Nat) (i34 : Nat) (f1_34 : Nat → Int32) (c1_34 : Nat → Int32) (f2_34 : Nat → Int32) (c2_34 : Nat → Int32) (lo_34 : Nat → Int64) (up_34 : Nat → Int64) : lpX1_repeatsIn_34 b1_34 n1_34 f0_c c0_c be_c si_c pl_c cu_c ge_c fa_c (n34 + 1) i34 f1_34 c1_34 f2_34 c2_34 lo_34 up_34 = gv_b3 (spX0_becomeNextOf f2_34 c2_34 f1_34 c1_34 be_c si_c) (fun q56 f_q56 h_q56 => gv_b2 (spX0_copyFrom f1_34 c1_34 f_q56 h_q56) (fun f_q68 h_q68 => gv_b2 (spX1_remember f0_c c0_c f_q68 h_q68 f_q56 h_q56 lo_34 up_34 be_c si_c pl_c cu_c ge_c fa_c i34) (fun lo_q73 up_q73 => gv_b (spX1_looksAsBefore f0_c c0_c f_q68 h_q68 f_q56 h_q56 lo_q73 up_q73 be_c si_c pl_c cu_c ge_c fa_c i34 n1_34) (fun q79 => (if q79 = 0 then lpX1_repeatsIn_34 b1_34 n1_34 f0_c c0_c be_c si_c pl_c cu_c ge_c fa_c n34 (i34 + 1) f_q68 h_q68 f_q56 h_q56 lo_q73 up_q73 else ((nI i34), f_q68, h_q68, f_q56, h_q56, lo_q73, up_q73)))))) := rfl
def spX1_repeatsIn (f0 : Nat → Int32) (c0 : Nat → Int32) (f1 : Nat → Int32) (c1 : Nat → Int32) (f2 : Nat → Int32) (c2 : Nat → Int32) (lo : Nat → Int64) (up : Nat → Int64) (be : Nat → Int32) (si : Int32) (pl : Int32) (cu : Int32) (ge : Int32) (fa : Int32) : Int32 × (Nat → Int32) × (Nat → Int32) × (Nat → Int32) × (Nat → Int32) × (Nat → Int64) × (Nat → Int64) := gv_b (spX0_hasCuts f0 c0) (fun q4 => (if q4 = 0 then gv_b2 (spX0_copyFrom f1 c1 f0 c0) (fun f_q24 h_q24 => gv_b2 (spX1_remember f0 c0 f_q24 h_q24 f2 c2 lo up be si pl cu ge fa 0) (fun lo_q29 up_q29 => lpX1_repeatsIn_34 0 0 f0 c0 be si pl cu ge fa 60 1 f_q24 h_q24 f2 c2 lo_q29 up_q29)) else gv_b2 (spX0_copyFrom f1 c1 f0 c0) (fun f_q24 h_q24 => gv_b2 (spX1_remember f0 c0 f_q24 h_q24 f2 c2 lo up be si pl cu ge fa 0) (fun lo_q29 up_q29 => lpX1_repeatsIn_34 1 1 f0 c0 be si pl cu ge fa 60 1 f_q24 h_q24 f2 c2 lo_q29 up_q29))))
theorem spX1_repeatsIn_e (f0 : Nat → Int32) (c0 : Nat → Int32) (f1 : Nat → Int32) (c1 : Nat → Int32) (f2 : Nat → Int32) (c2 : Nat → Int32) (lo : Nat → Int64) (up : Nat → Int64) (be : Nat → Int32) (si : Int32) (pl : Int32) (cu : Int32) (ge : Int32) (fa : Int32) : spX1_repeatsIn f0 c0 f1 c1 f2 c2 lo up be si pl cu ge fa = gv_b (spX0_hasCuts f0 c0) (fun q4 => (if q4 = 0 then gv_b2 (spX0_copyFrom f1 c1 f0 c0) (fun f_q24 h_q24 => gv_b2 (spX1_remember f0 c0 f_q24 h_q24 f2 c2 lo up be si pl cu ge fa 0) (fun lo_q29 up_q29 => lpX1_repeatsIn_34 0 0 f0 c0 be si pl cu ge fa 60 1 f_q24 h_q24 f2 c2 lo_q29 up_q29)) else gv_b2 (spX0_copyFrom f1 c1 f0 c0) (fun f_q24 h_q24 => gv_b2 (spX1_remember f0 c0 f_q24 h_q24 f2 c2 lo up be si pl cu ge fa 0) (fun lo_q29 up_q29 => lpX1_repeatsIn_34 1 1 f0 c0 be si pl cu ge fa 60 1 f_q24 h_q24 f2 c2 lo_q29 up_q29)))) := rfl
set_option maxHeartbeats 4000000 in
set_option maxRecDepth 100000 in
theorem kX1_repeatsIn (l : Launch) (dC : Nat → ClassId) (dI : Nat → Nat → Nat) (cI cL : ClassId) (ad : Nat → Nat) (f0 : Nat → Int32) (c0 : Nat → Int32) (f1 : Nat → Int32) (c1 : Nat → Int32) (f2 : Nat → Int32) (c2 : Nat → Int32) (lo : Nat → Int64) (up : Nat → Int64) (be : Nat → Int32) (si : Int32) (pl : Int32) (cu : Int32) (ge : Int32) (fa : Int32) : gv_Mi l yX1_repeatsIn wsX1_repeatsIn 5 124 (dC, dI) [(cI, .int), (cL, .long)] [.ref (ad 0)] (gv_V cI cL ad f0 c0 f1 c1 f2 c2 lo up be si pl cu ge fa) (fun (r : Int32) (u : (Nat → Int32) × (Nat → Int32) × (Nat → Int32) × (Nat → Int32) × (Nat → Int64) × (Nat → Int64)) => (r, u) = spX1_repeatsIn f0 c0 f1 c1 f2 c2 lo up be si pl cu ge fa) (fun (u : (Nat → Int32) × (Nat → Int32) × (Nat → Int32) × (Nat → Int32) × (Nat → Int64) × (Nat → Int64)) => (gv_V cI cL ad f0 c0 u.1 u.2.1 u.2.2.1 u.2.2.2.1 u.2.2.2.2.1 u.2.2.2.2.2 be si pl cu ge fa)) := by
  refine gv_ofi (cc := cX1_repeatsIn) (maxL := 3) (own := RX1) (by decide) rfl (Nat.le_of_ble_eq_true rfl) rfl ?_
  intro A p e s m args below meth c Q ls H locs hx hb hml hts hown hP hK hD hN hS hl kr
  have inX0 : ∀ w ∈ wsX00, w ∈ wsX1_repeatsIn := (fun _ h => List.mem_cons_of_mem _ (List.mem_append_right _ h))
  have inX1 : ∀ w ∈ wsX10, w ∈ wsX1_repeatsIn := (fun _ h => List.mem_cons_of_mem _ (List.mem_append_left _ (List.mem_append_right _ h)))
  have hl : lv_has ls 3 [(0, .ref (ad 0))] := hl
  have he := (spX1_repeatsIn_e f0 c0 f1 c1 f2 c2 lo up be si pl cu ge fa).symm
  refine lv_aload_n hx hb dX1_repeatsIn_0 rfl (lv_at hl 0 rfl) ?_
  refine va_get (D := (dC, dI)) (ci := 1) (v := .ref (ad 1)) (C := RX1) (T := TX1) (N := 11) hx hb hts inX1 hown hK hP 0 rfl rfl 0 (by decide) (hts (.fieldLink RX1 10 "VineWall" "wall" "LVineWall$Wall;") (List.mem_of_getElem? (i := 1) rfl)) (fun _ h9 => h9) rfl dX1_repeatsIn_1 ?_
  have hPc : va_P (dC, dI) vwCl (gv_W cI (ad 1) (ad 2) (ad 3) f0 c0) H := gv_sub [1, 2, 3] hP rfl
  have hDc : va_D (gv_in (gv_W cI (ad 1) (ad 2) (ad 3) f0 c0)) (gv_W cI (ad 1) (ad 2) (ad 3) f0 c0) := gv_D hD [1, 2, 3] (by decide) rfl
  refine gv_ki (wf := (fun (_ : Unit) => (gv_W cI (ad 1) (ad 2) (ad 3) f0 c0))) (wc := (gv_W cI (ad 1) (ad 2) (ad 3) f0 c0)) [1, 2, 3] (fun _ => rfl) hP hD hS rfl rfl (va_runV (As := []) (rest := []) ⟨hx, hb, hml, hown, hts⟩ (kX0_hasCuts l dC dI cI cL (ad 1) (ad 2) (ad 3) f0 c0 (gv_in (gv_W cI (ad 1) (ad 2) (ad 3) f0 c0))) (cwV (rm := gv_R 0 0) 0 hts gX1_repeatsIn_X0_hasCuts rfl rfl rfl (by decide +kernel) ⟨Nat.le_of_ble_eq_true rfl, Nat.le_of_ble_eq_true rfl⟩) (gv_preV (ci := 0) hK hPc hDc hN rfl rfl) rfl rfl hl.1 rfl (lv_room (Nat.le_of_ble_eq_true rfl)) dX1_repeatsIn_4 ⟨Nat.zero_le _, Nat.zero_le _⟩) (fun q4 u H locs hw hP hD hS => ?_)
  have he := gv_q hw he
  have hP : va_P (dC, dI) vwCl (gv_V cI cL ad f0 c0 f1 c1 f2 c2 lo up be si pl cu ge fa) H := hP
  have hD : va_D A (gv_V cI cL ad f0 c0 f1 c1 f2 c2 lo up be si pl cu ge fa) := hD
  refine lv_if_eq (tgt := 14) hx hb dX1_repeatsIn_7 (by decide) (fun cd7 => ?_) (fun cd7 => ?_)
  · have he := gv_t cd7 he
    refine lv_iconst (v := 0) hx hb dX1_repeatsIn_14 (by decide) ?_
    refine lv_istore_n (lv' := [(1, .int 0), (0, .ref (ad 0))]) hx hb dX1_repeatsIn_15 rfl hl (by decide) rfl (fun ls hl => ?_)
    refine lv_aload_n hx hb dX1_repeatsIn_16 rfl (lv_at hl 1 rfl) ?_
    refine va_get (D := (dC, dI)) (ci := 1) (v := .ref (ad 4)) (C := RX1) (T := TX1) (N := 11) hx hb hts inX1 hown hK hP 0 rfl rfl 1 (by decide) (hts (.fieldLink RX1 16 "VineWall" "trial" "LVineWall$Wall;") (List.mem_of_getElem? (i := 2) rfl)) (fun _ h9 => h9) rfl dX1_repeatsIn_17 ?_
    refine lv_aload_n hx hb dX1_repeatsIn_20 rfl (lv_at hl 1 rfl) ?_
    refine va_get (D := (dC, dI)) (ci := 1) (v := .ref (ad 1)) (C := RX1) (T := TX1) (N := 11) hx hb hts inX1 hown hK hP 0 rfl rfl 0 (by decide) (hts (.fieldLink RX1 10 "VineWall" "wall" "LVineWall$Wall;") (List.mem_of_getElem? (i := 1) rfl)) (fun _ h9 => h9) rfl dX1_repeatsIn_21 ?_
    have hPc : va_P (dC, dI) vwCl (gv_WW cI (ad 4) (ad 5) (ad 6) (ad 1) (ad 2) (ad 3) f1 c1 f0 c0) H := gv_sub [4, 5, 6, 1, 2, 3] hP rfl
    have hDc : va_D (gv_in (gv_WW cI (ad 4) (ad 5) (ad 6) (ad 1) (ad 2) (ad 3) f1 c1 f0 c0)) (gv_WW cI (ad 4) (ad 5) (ad 6) (ad 1) (ad 2) (ad 3) f1 c1 f0 c0) := gv_D hD [4, 5, 6, 1, 2, 3] (by decide) rfl
    refine gv_kv (wf := (fun (u : (Nat → Int32) × (Nat → Int32)) => (gv_WW cI (ad 4) (ad 5) (ad 6) (ad 1) (ad 2) (ad 3) u.1 u.2 f0 c0))) (wc := (gv_WW cI (ad 4) (ad 5) (ad 6) (ad 1) (ad 2) (ad 3) f1 c1 f0 c0)) [4, 5, 6, 1, 2, 3] (fun _ => rfl) hP hD hS rfl rfl (va_runV (As := [.ref (ad 1)]) (rest := []) ⟨hx, hb, hml, hown, hts⟩ (kX0_copyFrom l dC dI cI cL (ad 4) (ad 5) (ad 6) (ad 1) (ad 2) (ad 3) f1 c1 f0 c0 (gv_in (gv_WW cI (ad 4) (ad 5) (ad 6) (ad 1) (ad 2) (ad 3) f1 c1 f0 c0))) (cwV (rm := gv_R 0 0) 1 hts gX1_repeatsIn_X0_copyFrom rfl rfl rfl (by decide +kernel) ⟨Nat.le_of_ble_eq_true rfl, Nat.le_of_ble_eq_true rfl⟩) (gv_preV (ci := 0) hK hPc hDc hN rfl rfl) rfl rfl hl.1 rfl (lv_room (Nat.le_of_ble_eq_true rfl)) dX1_repeatsIn_24 ⟨Nat.zero_le _, Nat.zero_le _⟩) (fun u H locs hw hP hD hS => ?_)
    obtain ⟨f_q24, h_q24⟩ := u
    have he := gv_q2 hw he
    have hP : va_P (dC, dI) vwCl (gv_V cI cL ad f0 c0 f_q24 h_q24 f2 c2 lo up be si pl cu ge fa) H := hP
    have hD : va_D A (gv_V cI cL ad f0 c0 f_q24 h_q24 f2 c2 lo up be si pl cu ge fa) := hD
    refine lv_aload_n hx hb dX1_repeatsIn_27 rfl (lv_at hl 1 rfl) ?_
    refine lv_iconst (v := 0) hx hb dX1_repeatsIn_28 (by decide) ?_
    have hPc : va_P (dC, dI) vwCl (gv_V cI cL ad f0 c0 f_q24 h_q24 f2 c2 lo up be si pl cu ge fa) H := gv_sub [0, 1, 2, 3, 4, 5, 6, 7, 8, 9, 10, 11, 12] hP rfl
    have hDc : va_D (gv_in (gv_V cI cL ad f0 c0 f_q24 h_q24 f2 c2 lo up be si pl cu ge fa)) (gv_V cI cL ad f0 c0 f_q24 h_q24 f2 c2 lo up be si pl cu ge fa) := gv_D hD [0, 1, 2, 3, 4, 5, 6, 7, 8, 9, 10, 11, 12] (by decide) rfl
    refine gv_kv (wf := (fun (u : (Nat → Int64) × (Nat → Int64)) => (gv_V cI cL ad f0 c0 f_q24 h_q24 f2 c2 u.1 u.2 be si pl cu ge fa))) (wc := (gv_V cI cL ad f0 c0 f_q24 h_q24 f2 c2 lo up be si pl cu ge fa)) [0, 1, 2, 3, 4, 5, 6, 7, 8, 9, 10, 11, 12] (fun _ => rfl) hP hD hS rfl rfl (va_runV (As := [.int 0]) (rest := []) ⟨hx, hb, hml, hown, hts⟩ (kX1_remember l dC dI cI cL ad f0 c0 f_q24 h_q24 f2 c2 lo up be si pl cu ge fa 0 0 (rfl : (0 : Int32) = nI 0) (by omega) (gv_in (gv_V cI cL ad f0 c0 f_q24 h_q24 f2 c2 lo up be si pl cu ge fa))) (cwV (rm := gv_R 2 45) 1 hts gX1_repeatsIn_X1_remember rfl rfl rfl (by decide +kernel) ⟨Nat.le_of_ble_eq_true rfl, Nat.le_of_ble_eq_true rfl⟩) (gv_preV (ci := 1) hK hPc hDc hN rfl rfl) rfl rfl hl.1 rfl (lv_room (Nat.le_of_ble_eq_true rfl)) dX1_repeatsIn_29 ⟨Nat.zero_le _, Nat.zero_le _⟩) (fun u H locs hw hP hD hS => ?_)
    obtain ⟨lo_q29, up_q29⟩ := u
    have he := gv_q2 hw he
    have hP : va_P (dC, dI) vwCl (gv_V cI cL ad f0 c0 f_q24 h_q24 f2 c2 lo_q29 up_q29 be si pl cu ge fa) H := hP
    have hD : va_D A (gv_V cI cL ad f0 c0 f_q24 h_q24 f2 c2 lo_q29 up_q29 be si pl cu ge fa) := hD
    refine lv_iconst (v := 1) hx hb dX1_repeatsIn_32 (by decide) ?_
    refine lv_istore_n (lv' := [(2, .int 1), (1, .int 0), (0, .ref (ad 0))]) hx hb dX1_repeatsIn_33 rfl hl (by decide) rfl (fun ls hl => ?_)
    have L34 : ∀ (n34 i34 : Nat) (f1_34 : Nat → Int32) (c1_34 : Nat → Int32) (f2_34 : Nat → Int32) (c2_34 : Nat → Int32) (lo_34 : Nat → Int64) (up_34 : Nat → Int64) (H : Heap) (locs : List Loc) (ls : Array Slot), 1 ≤ i34 ∧ i34 + n34 = 61 → lpX1_repeatsIn_34 0 0 f0 c0 be si pl cu ge fa n34 i34 f1_34 c1_34 f2_34 c2_34 lo_34 up_34 = spX1_repeatsIn f0 c0 f1 c1 f2 c2 lo up be si pl cu ge fa → va_P (dC, dI) vwCl (gv_V cI cL ad f0 c0 f1_34 c1_34 f2_34 c2_34 lo_34 up_34 be si pl cu ge fa) H → va_D A (gv_V cI cL ad f0 c0 f1_34 c1_34 f2_34 c2_34 lo_34 up_34 be si pl cu ge fa) → va_S A s.heap H locs → lv_has ls 3 [(0, .ref (ad 0)), (1, .int 0), (2, .int (nI i34))] → W p l e (gv_R 5 124) s m args below meth c H locs 0 0 Q (F0 m 34 ls []) := by
      intro n34
      induction n34 with
      | zero =>
        intro i34 f1_34 c1_34 f2_34 c2_34 lo_34 up_34 H locs ls hi34 he hP hD hS hl
        have he := (lpX1_repeatsIn_34_0 _ _ _ _ _ _ _ _ _ _ _ _ _ _ _ _ _).symm.trans he
        refine lv_iload_n hx hb dX1_repeatsIn_34 rfl (lv_at hl 2 rfl) ?_
        refine lv_bipush (v := 60) hx hb dX1_repeatsIn_35 (by decide) ?_
        refine lv_icmp_gt (tgt := 93) hx hb dX1_repeatsIn_37 (by decide) (fun _ => ?_) (fun c => absurd c (gv_gt (N := 60) rfl (rfl : (60 : Int32) = nI 60) (by omega) (by omega)))
        refine lv_iconst (v := (-1)) hx hb dX1_repeatsIn_93 (by decide) ?_
        exact kr (-1) (f1_34, c1_34, f2_34, c2_34, lo_34, up_34) _ _ _ _ he hP hS dX1_repeatsIn_94
      | succ n34 ih34 =>
        intro i34 f1_34 c1_34 f2_34 c2_34 lo_34 up_34 H locs ls hi34 he hP hD hS hl
        have he := (lpX1_repeatsIn_34_s _ _ _ _ _ _ _ _ _ _ _ _ _ _ _ _ _ _).symm.trans he
        refine lv_iload_n hx hb dX1_repeatsIn_34 rfl (lv_at hl 2 rfl) ?_
        refine lv_bipush (v := 60) hx hb dX1_repeatsIn_35 (by decide) ?_
        refine lv_icmp_gt (tgt := 93) hx hb dX1_repeatsIn_37 (by decide) (fun c => absurd c (gv_ngt (N := 60) rfl (rfl : (60 : Int32) = nI 60) (by omega) (by omega))) (fun _ => ?_)
        refine lv_aload_n hx hb dX1_repeatsIn_40 rfl (lv_at hl 0 rfl) ?_
        refine va_get (D := (dC, dI)) (ci := 1) (v := .ref (ad 7)) (C := RX1) (T := TX1) (N := 11) hx hb hts inX1 hown hK hP 0 rfl rfl 2 (by decide) (hts (.fieldLink RX1 19 "VineWall" "behind" "LVineWall$Wall;") (List.mem_of_getElem? (i := 3) rfl)) (fun _ h9 => h9) rfl dX1_repeatsIn_41 ?_
        refine lv_aload_n hx hb dX1_repeatsIn_44 rfl (lv_at hl 0 rfl) ?_
        refine va_get (D := (dC, dI)) (ci := 1) (v := .ref (ad 4)) (C := RX1) (T := TX1) (N := 11) hx hb hts inX1 hown hK hP 0 rfl rfl 1 (by decide) (hts (.fieldLink RX1 16 "VineWall" "trial" "LVineWall$Wall;") (List.mem_of_getElem? (i := 2) rfl)) (fun _ h9 => h9) rfl dX1_repeatsIn_45 ?_
        refine lv_aload_n hx hb dX1_repeatsIn_48 rfl (lv_at hl 0 rfl) ?_
        refine va_get (D := (dC, dI)) (ci := 1) (v := .int si) (C := RX1) (T := TX1) (N := 11) hx hb hts inX1 hown hK hP 0 rfl rfl 6 (by decide) (hts (.fieldLink RX1 33 "VineWall" "beyond" "I") (List.mem_of_getElem? (i := 4) rfl)) (fun _ h9 => h9) rfl dX1_repeatsIn_49 ?_
        refine lv_aload_n hx hb dX1_repeatsIn_52 rfl (lv_at hl 0 rfl) ?_
        refine va_get (D := (dC, dI)) (ci := 1) (v := .ref (ad 12)) (C := RX1) (T := TX1) (N := 11) hx hb hts inX1 hown hK hP 0 rfl rfl 5 (by decide) (hts (.fieldLink RX1 29 "VineWall" "bearings" "[I") (List.mem_of_getElem? (i := 5) rfl)) (fun _ h9 => h9) rfl dX1_repeatsIn_53 ?_
        have hPc : va_P (dC, dI) vwCl (gv_WWA cI (ad 7) (ad 8) (ad 9) (ad 4) (ad 5) (ad 6) (ad 12) f2_34 c2_34 f1_34 c1_34 be) H := gv_sub [7, 8, 9, 4, 5, 6, 12] hP rfl
        have hDc : va_D (gv_in (gv_WWA cI (ad 7) (ad 8) (ad 9) (ad 4) (ad 5) (ad 6) (ad 12) f2_34 c2_34 f1_34 c1_34 be)) (gv_WWA cI (ad 7) (ad 8) (ad 9) (ad 4) (ad 5) (ad 6) (ad 12) f2_34 c2_34 f1_34 c1_34 be) := gv_D hD [7, 8, 9, 4, 5, 6, 12] (by decide) rfl
        refine gv_ki (wf := (fun (u : (Nat → Int32) × (Nat → Int32)) => (gv_WWA cI (ad 7) (ad 8) (ad 9) (ad 4) (ad 5) (ad 6) (ad 12) u.1 u.2 f1_34 c1_34 be))) (wc := (gv_WWA cI (ad 7) (ad 8) (ad 9) (ad 4) (ad 5) (ad 6) (ad 12) f2_34 c2_34 f1_34 c1_34 be)) [7, 8, 9, 4, 5, 6, 12] (fun _ => rfl) hP hD hS rfl rfl (va_runV (As := [.ref (ad 4), .int si, .ref (ad 12)]) (rest := []) ⟨hx, hb, hml, hown, hts⟩ (kX0_becomeNextOf l dC dI cI cL (ad 7) (ad 8) (ad 9) (ad 4) (ad 5) (ad 6) (ad 12) f2_34 c2_34 f1_34 c1_34 be si (gv_in (gv_WWA cI (ad 7) (ad 8) (ad 9) (ad 4) (ad 5) (ad 6) (ad 12) f2_34 c2_34 f1_34 c1_34 be))) (cwV (rm := gv_R 4 99) 3 hts gX1_repeatsIn_X0_becomeNextOf rfl rfl rfl (by decide +kernel) ⟨Nat.le_of_ble_eq_true rfl, Nat.le_of_ble_eq_true rfl⟩) (gv_preV (ci := 0) hK hPc hDc hN rfl rfl) rfl rfl hl.1 rfl (lv_room (Nat.le_of_ble_eq_true rfl)) dX1_repeatsIn_56 ⟨Nat.zero_le _, Nat.zero_le _⟩) (fun q56 u H locs hw hP hD hS => ?_)
        obtain ⟨f_q56, h_q56⟩ := u
        have he := gv_q3 hw he
        have hP : va_P (dC, dI) vwCl (gv_V cI cL ad f0 c0 f1_34 c1_34 f_q56 h_q56 lo_34 up_34 be si pl cu ge fa) H := hP
        have hD : va_D A (gv_V cI cL ad f0 c0 f1_34 c1_34 f_q56 h_q56 lo_34 up_34 be si pl cu ge fa) := hD
        refine lv_pop hx hb dX1_repeatsIn_59 rfl ?_
        refine lv_aload_n hx hb dX1_repeatsIn_60 rfl (lv_at hl 0 rfl) ?_
        refine va_get (D := (dC, dI)) (ci := 1) (v := .ref (ad 4)) (C := RX1) (T := TX1) (N := 11) hx hb hts inX1 hown hK hP 0 rfl rfl 1 (by decide) (hts (.fieldLink RX1 16 "VineWall" "trial" "LVineWall$Wall;") (List.mem_of_getElem? (i := 2) rfl)) (fun _ h9 => h9) rfl dX1_repeatsIn_61 ?_
        refine lv_aload_n hx hb dX1_repeatsIn_64 rfl (lv_at hl 0 rfl) ?_
        refine va_get (D := (dC, dI)) (ci := 1) (v := .ref (ad 7)) (C := RX1) (T := TX1) (N := 11) hx hb hts inX1 hown hK hP 0 rfl rfl 2 (by decide) (hts (.fieldLink RX1 19 "VineWall" "behind" "LVineWall$Wall;") (List.mem_of_getElem? (i := 3) rfl)) (fun _ h9 => h9) rfl dX1_repeatsIn_65 ?_
        have hPc : va_P (dC, dI) vwCl (gv_WW cI (ad 4) (ad 5) (ad 6) (ad 7) (ad 8) (ad 9) f1_34 c1_34 f_q56 h_q56) H := gv_sub [4, 5, 6, 7, 8, 9] hP rfl
        have hDc : va_D (gv_in (gv_WW cI (ad 4) (ad 5) (ad 6) (ad 7) (ad 8) (ad 9) f1_34 c1_34 f_q56 h_q56)) (gv_WW cI (ad 4) (ad 5) (ad 6) (ad 7) (ad 8) (ad 9) f1_34 c1_34 f_q56 h_q56) := gv_D hD [4, 5, 6, 7, 8, 9] (by decide) rfl
        refine gv_kv (wf := (fun (u : (Nat → Int32) × (Nat → Int32)) => (gv_WW cI (ad 4) (ad 5) (ad 6) (ad 7) (ad 8) (ad 9) u.1 u.2 f_q56 h_q56))) (wc := (gv_WW cI (ad 4) (ad 5) (ad 6) (ad 7) (ad 8) (ad 9) f1_34 c1_34 f_q56 h_q56)) [4, 5, 6, 7, 8, 9] (fun _ => rfl) hP hD hS rfl rfl (va_runV (As := [.ref (ad 7)]) (rest := []) ⟨hx, hb, hml, hown, hts⟩ (kX0_copyFrom l dC dI cI cL (ad 4) (ad 5) (ad 6) (ad 7) (ad 8) (ad 9) f1_34 c1_34 f_q56 h_q56 (gv_in (gv_WW cI (ad 4) (ad 5) (ad 6) (ad 7) (ad 8) (ad 9) f1_34 c1_34 f_q56 h_q56))) (cwV (rm := gv_R 0 0) 1 hts gX1_repeatsIn_X0_copyFrom rfl rfl rfl (by decide +kernel) ⟨Nat.le_of_ble_eq_true rfl, Nat.le_of_ble_eq_true rfl⟩) (gv_preV (ci := 0) hK hPc hDc hN rfl rfl) rfl rfl hl.1 rfl (lv_room (Nat.le_of_ble_eq_true rfl)) dX1_repeatsIn_68 ⟨Nat.zero_le _, Nat.zero_le _⟩) (fun u H locs hw hP hD hS => ?_)
        obtain ⟨f_q68, h_q68⟩ := u
        have he := gv_q2 hw he
        have hP : va_P (dC, dI) vwCl (gv_V cI cL ad f0 c0 f_q68 h_q68 f_q56 h_q56 lo_34 up_34 be si pl cu ge fa) H := hP
        have hD : va_D A (gv_V cI cL ad f0 c0 f_q68 h_q68 f_q56 h_q56 lo_34 up_34 be si pl cu ge fa) := hD
        refine lv_aload_n hx hb dX1_repeatsIn_71 rfl (lv_at hl 0 rfl) ?_
        refine lv_iload_n hx hb dX1_repeatsIn_72 rfl (lv_at hl 2 rfl) ?_
        have hPc : va_P (dC, dI) vwCl (gv_V cI cL ad f0 c0 f_q68 h_q68 f_q56 h_q56 lo_34 up_34 be si pl cu ge fa) H := gv_sub [0, 1, 2, 3, 4, 5, 6, 7, 8, 9, 10, 11, 12] hP rfl
        have hDc : va_D (gv_in (gv_V cI cL ad f0 c0 f_q68 h_q68 f_q56 h_q56 lo_34 up_34 be si pl cu ge fa)) (gv_V cI cL ad f0 c0 f_q68 h_q68 f_q56 h_q56 lo_34 up_34 be si pl cu ge fa) := gv_D hD [0, 1, 2, 3, 4, 5, 6, 7, 8, 9, 10, 11, 12] (by decide) rfl
        refine gv_kv (wf := (fun (u : (Nat → Int64) × (Nat → Int64)) => (gv_V cI cL ad f0 c0 f_q68 h_q68 f_q56 h_q56 u.1 u.2 be si pl cu ge fa))) (wc := (gv_V cI cL ad f0 c0 f_q68 h_q68 f_q56 h_q56 lo_34 up_34 be si pl cu ge fa)) [0, 1, 2, 3, 4, 5, 6, 7, 8, 9, 10, 11, 12] (fun _ => rfl) hP hD hS rfl rfl (va_runV (As := [.int (nI i34)]) (rest := []) ⟨hx, hb, hml, hown, hts⟩ (kX1_remember l dC dI cI cL ad f0 c0 f_q68 h_q68 f_q56 h_q56 lo_34 up_34 be si pl cu ge fa (nI i34) i34 rfl (by omega) (gv_in (gv_V cI cL ad f0 c0 f_q68 h_q68 f_q56 h_q56 lo_34 up_34 be si pl cu ge fa))) (cwV (rm := gv_R 2 45) 1 hts gX1_repeatsIn_X1_remember rfl rfl rfl (by decide +kernel) ⟨Nat.le_of_ble_eq_true rfl, Nat.le_of_ble_eq_true rfl⟩) (gv_preV (ci := 1) hK hPc hDc hN rfl rfl) rfl rfl hl.1 rfl (lv_room (Nat.le_of_ble_eq_true rfl)) dX1_repeatsIn_73 ⟨Nat.zero_le _, Nat.zero_le _⟩) (fun u H locs hw hP hD hS => ?_)
        obtain ⟨lo_q73, up_q73⟩ := u
        have he := gv_q2 hw he
        have hP : va_P (dC, dI) vwCl (gv_V cI cL ad f0 c0 f_q68 h_q68 f_q56 h_q56 lo_q73 up_q73 be si pl cu ge fa) H := hP
        have hD : va_D A (gv_V cI cL ad f0 c0 f_q68 h_q68 f_q56 h_q56 lo_q73 up_q73 be si pl cu ge fa) := hD
        refine lv_aload_n hx hb dX1_repeatsIn_76 rfl (lv_at hl 0 rfl) ?_
        refine lv_iload_n hx hb dX1_repeatsIn_77 rfl (lv_at hl 2 rfl) ?_
        refine lv_iload_n hx hb dX1_repeatsIn_78 rfl (lv_at hl 1 rfl) ?_
        have hPc : va_P (dC, dI) vwCl (gv_V cI cL ad f0 c0 f_q68 h_q68 f_q56 h_q56 lo_q73 up_q73 be si pl cu ge fa) H := gv_sub [0, 1, 2, 3, 4, 5, 6, 7, 8, 9, 10, 11, 12] hP rfl
        have hDc : va_D (gv_in (gv_V cI cL ad f0 c0 f_q68 h_q68 f_q56 h_q56 lo_q73 up_q73 be si pl cu ge fa)) (gv_V cI cL ad f0 c0 f_q68 h_q68 f_q56 h_q56 lo_q73 up_q73 be si pl cu ge fa) := gv_D hD [0, 1, 2, 3, 4, 5, 6, 7, 8, 9, 10, 11, 12] (by decide) rfl
        refine gv_ki (wf := (fun (_ : Unit) => (gv_V cI cL ad f0 c0 f_q68 h_q68 f_q56 h_q56 lo_q73 up_q73 be si pl cu ge fa))) (wc := (gv_V cI cL ad f0 c0 f_q68 h_q68 f_q56 h_q56 lo_q73 up_q73 be si pl cu ge fa)) [0, 1, 2, 3, 4, 5, 6, 7, 8, 9, 10, 11, 12] (fun _ => rfl) hP hD hS rfl rfl (va_runV (As := [.int (nI i34), .int 0]) (rest := []) ⟨hx, hb, hml, hown, hts⟩ (kX1_looksAsBefore l dC dI cI cL ad f0 c0 f_q68 h_q68 f_q56 h_q56 lo_q73 up_q73 be si pl cu ge fa (nI i34) i34 rfl 0 0 (rfl : (0 : Int32) = nI 0) (by omega) (by omega) (gv_in (gv_V cI cL ad f0 c0 f_q68 h_q68 f_q56 h_q56 lo_q73 up_q73 be si pl cu ge fa))) (cwV (rm := gv_R 0 0) 2 hts gX1_repeatsIn_X1_looksAsBefore rfl rfl rfl (by decide +kernel) ⟨Nat.le_of_ble_eq_true rfl, Nat.le_of_ble_eq_true rfl⟩) (gv_preV (ci := 1) hK hPc hDc hN rfl rfl) rfl rfl hl.1 rfl (lv_room (Nat.le_of_ble_eq_true rfl)) dX1_repeatsIn_79 ⟨Nat.zero_le _, Nat.zero_le _⟩) (fun q79 u H locs hw hP hD hS => ?_)
        have he := gv_q hw he
        have hP : va_P (dC, dI) vwCl (gv_V cI cL ad f0 c0 f_q68 h_q68 f_q56 h_q56 lo_q73 up_q73 be si pl cu ge fa) H := hP
        have hD : va_D A (gv_V cI cL ad f0 c0 f_q68 h_q68 f_q56 h_q56 lo_q73 up_q73 be si pl cu ge fa) := hD
        refine lv_if_eq (tgt := 87) hx hb dX1_repeatsIn_82 (by decide) (fun cd82 => ?_) (fun cd82 => ?_)
        · have he := gv_t cd82 he
          refine lv_iinc (v := (nI (i34 + 1))) (lv' := [(2, .int (nI (i34 + 1))), (0, .ref (ad 0)), (1, .int 0)]) hx hb dX1_repeatsIn_87 hl (k := 2) rfl (nI_1 i34) (by decide) rfl (fun ls hl => ?_)
          refine lv_goto (tgt := 34) hx hb dX1_repeatsIn_90 (by decide) ?_
          exact ih34 (i34 + 1) f_q68 h_q68 f_q56 h_q56 lo_q73 up_q73 _ _ _ (by omega) he hP hD hS (lv_sub hl [1, 2, 0] rfl)
        · have he := gv_f cd82 he
          refine lv_iload_n hx hb dX1_repeatsIn_85 rfl (lv_at hl 2 rfl) ?_
          exact kr (nI i34) (f_q68, h_q68, f_q56, h_q56, lo_q73, up_q73) _ _ _ _ he hP hS dX1_repeatsIn_86
    exact L34 60 1 f_q24 h_q24 f2 c2 lo_q29 up_q29 _ _ _ (by omega) he hP hD hS (lv_sub hl [2, 1, 0] rfl)
  · have he := gv_f cd7 he
    refine lv_iconst (v := 1) hx hb dX1_repeatsIn_10 (by decide) ?_
    refine lv_goto (tgt := 15) hx hb dX1_repeatsIn_11 (by decide) ?_
    refine lv_istore_n (lv' := [(1, .int 1), (0, .ref (ad 0))]) hx hb dX1_repeatsIn_15 rfl hl (by decide) rfl (fun ls hl => ?_)
    refine lv_aload_n hx hb dX1_repeatsIn_16 rfl (lv_at hl 1 rfl) ?_
    refine va_get (D := (dC, dI)) (ci := 1) (v := .ref (ad 4)) (C := RX1) (T := TX1) (N := 11) hx hb hts inX1 hown hK hP 0 rfl rfl 1 (by decide) (hts (.fieldLink RX1 16 "VineWall" "trial" "LVineWall$Wall;") (List.mem_of_getElem? (i := 2) rfl)) (fun _ h9 => h9) rfl dX1_repeatsIn_17 ?_
    refine lv_aload_n hx hb dX1_repeatsIn_20 rfl (lv_at hl 1 rfl) ?_
    refine va_get (D := (dC, dI)) (ci := 1) (v := .ref (ad 1)) (C := RX1) (T := TX1) (N := 11) hx hb hts inX1 hown hK hP 0 rfl rfl 0 (by decide) (hts (.fieldLink RX1 10 "VineWall" "wall" "LVineWall$Wall;") (List.mem_of_getElem? (i := 1) rfl)) (fun _ h9 => h9) rfl dX1_repeatsIn_21 ?_
    have hPc : va_P (dC, dI) vwCl (gv_WW cI (ad 4) (ad 5) (ad 6) (ad 1) (ad 2) (ad 3) f1 c1 f0 c0) H := gv_sub [4, 5, 6, 1, 2, 3] hP rfl
    have hDc : va_D (gv_in (gv_WW cI (ad 4) (ad 5) (ad 6) (ad 1) (ad 2) (ad 3) f1 c1 f0 c0)) (gv_WW cI (ad 4) (ad 5) (ad 6) (ad 1) (ad 2) (ad 3) f1 c1 f0 c0) := gv_D hD [4, 5, 6, 1, 2, 3] (by decide) rfl
    refine gv_kv (wf := (fun (u : (Nat → Int32) × (Nat → Int32)) => (gv_WW cI (ad 4) (ad 5) (ad 6) (ad 1) (ad 2) (ad 3) u.1 u.2 f0 c0))) (wc := (gv_WW cI (ad 4) (ad 5) (ad 6) (ad 1) (ad 2) (ad 3) f1 c1 f0 c0)) [4, 5, 6, 1, 2, 3] (fun _ => rfl) hP hD hS rfl rfl (va_runV (As := [.ref (ad 1)]) (rest := []) ⟨hx, hb, hml, hown, hts⟩ (kX0_copyFrom l dC dI cI cL (ad 4) (ad 5) (ad 6) (ad 1) (ad 2) (ad 3) f1 c1 f0 c0 (gv_in (gv_WW cI (ad 4) (ad 5) (ad 6) (ad 1) (ad 2) (ad 3) f1 c1 f0 c0))) (cwV (rm := gv_R 0 0) 1 hts gX1_repeatsIn_X0_copyFrom rfl rfl rfl (by decide +kernel) ⟨Nat.le_of_ble_eq_true rfl, Nat.le_of_ble_eq_true rfl⟩) (gv_preV (ci := 0) hK hPc hDc hN rfl rfl) rfl rfl hl.1 rfl (lv_room (Nat.le_of_ble_eq_true rfl)) dX1_repeatsIn_24 ⟨Nat.zero_le _, Nat.zero_le _⟩) (fun u H locs hw hP hD hS => ?_)
    obtain ⟨f_q24, h_q24⟩ := u
    have he := gv_q2 hw he
    have hP : va_P (dC, dI) vwCl (gv_V cI cL ad f0 c0 f_q24 h_q24 f2 c2 lo up be si pl cu ge fa) H := hP
    have hD : va_D A (gv_V cI cL ad f0 c0 f_q24 h_q24 f2 c2 lo up be si pl cu ge fa) := hD
    refine lv_aload_n hx hb dX1_repeatsIn_27 rfl (lv_at hl 1 rfl) ?_
    refine lv_iconst (v := 0) hx hb dX1_repeatsIn_28 (by decide) ?_
    have hPc : va_P (dC, dI) vwCl (gv_V cI cL ad f0 c0 f_q24 h_q24 f2 c2 lo up be si pl cu ge fa) H := gv_sub [0, 1, 2, 3, 4, 5, 6, 7, 8, 9, 10, 11, 12] hP rfl
    have hDc : va_D (gv_in (gv_V cI cL ad f0 c0 f_q24 h_q24 f2 c2 lo up be si pl cu ge fa)) (gv_V cI cL ad f0 c0 f_q24 h_q24 f2 c2 lo up be si pl cu ge fa) := gv_D hD [0, 1, 2, 3, 4, 5, 6, 7, 8, 9, 10, 11, 12] (by decide) rfl
    refine gv_kv (wf := (fun (u : (Nat → Int64) × (Nat → Int64)) => (gv_V cI cL ad f0 c0 f_q24 h_q24 f2 c2 u.1 u.2 be si pl cu ge fa))) (wc := (gv_V cI cL ad f0 c0 f_q24 h_q24 f2 c2 lo up be si pl cu ge fa)) [0, 1, 2, 3, 4, 5, 6, 7, 8, 9, 10, 11, 12] (fun _ => rfl) hP hD hS rfl rfl (va_runV (As := [.int 0]) (rest := []) ⟨hx, hb, hml, hown, hts⟩ (kX1_remember l dC dI cI cL ad f0 c0 f_q24 h_q24 f2 c2 lo up be si pl cu ge fa 0 0 (rfl : (0 : Int32) = nI 0) (by omega) (gv_in (gv_V cI cL ad f0 c0 f_q24 h_q24 f2 c2 lo up be si pl cu ge fa))) (cwV (rm := gv_R 2 45) 1 hts gX1_repeatsIn_X1_remember rfl rfl rfl (by decide +kernel) ⟨Nat.le_of_ble_eq_true rfl, Nat.le_of_ble_eq_true rfl⟩) (gv_preV (ci := 1) hK hPc hDc hN rfl rfl) rfl rfl hl.1 rfl (lv_room (Nat.le_of_ble_eq_true rfl)) dX1_repeatsIn_29 ⟨Nat.zero_le _, Nat.zero_le _⟩) (fun u H locs hw hP hD hS => ?_)
    obtain ⟨lo_q29, up_q29⟩ := u
    have he := gv_q2 hw he
    have hP : va_P (dC, dI) vwCl (gv_V cI cL ad f0 c0 f_q24 h_q24 f2 c2 lo_q29 up_q29 be si pl cu ge fa) H := hP
    have hD : va_D A (gv_V cI cL ad f0 c0 f_q24 h_q24 f2 c2 lo_q29 up_q29 be si pl cu ge fa) := hD
    refine lv_iconst (v := 1) hx hb dX1_repeatsIn_32 (by decide) ?_
    refine lv_istore_n (lv' := [(2, .int 1), (1, .int 1), (0, .ref (ad 0))]) hx hb dX1_repeatsIn_33 rfl hl (by decide) rfl (fun ls hl => ?_)
    have L34 : ∀ (n34 i34 : Nat) (f1_34 : Nat → Int32) (c1_34 : Nat → Int32) (f2_34 : Nat → Int32) (c2_34 : Nat → Int32) (lo_34 : Nat → Int64) (up_34 : Nat → Int64) (H : Heap) (locs : List Loc) (ls : Array Slot), 1 ≤ i34 ∧ i34 + n34 = 61 → lpX1_repeatsIn_34 1 1 f0 c0 be si pl cu ge fa n34 i34 f1_34 c1_34 f2_34 c2_34 lo_34 up_34 = spX1_repeatsIn f0 c0 f1 c1 f2 c2 lo up be si pl cu ge fa → va_P (dC, dI) vwCl (gv_V cI cL ad f0 c0 f1_34 c1_34 f2_34 c2_34 lo_34 up_34 be si pl cu ge fa) H → va_D A (gv_V cI cL ad f0 c0 f1_34 c1_34 f2_34 c2_34 lo_34 up_34 be si pl cu ge fa) → va_S A s.heap H locs → lv_has ls 3 [(0, .ref (ad 0)), (1, .int 1), (2, .int (nI i34))] → W p l e (gv_R 5 124) s m args below meth c H locs 0 0 Q (F0 m 34 ls []) := by
      intro n34
      induction n34 with
      | zero =>
        intro i34 f1_34 c1_34 f2_34 c2_34 lo_34 up_34 H locs ls hi34 he hP hD hS hl
        have he := (lpX1_repeatsIn_34_0 _ _ _ _ _ _ _ _ _ _ _ _ _ _ _ _ _).symm.trans he
        refine lv_iload_n hx hb dX1_repeatsIn_34 rfl (lv_at hl 2 rfl) ?_
        refine lv_bipush (v := 60) hx hb dX1_repeatsIn_35 (by decide) ?_
        refine lv_icmp_gt (tgt := 93) hx hb dX1_repeatsIn_37 (by decide) (fun _ => ?_) (fun c => absurd c (gv_gt (N := 60) rfl (rfl : (60 : Int32) = nI 60) (by omega) (by omega)))
        refine lv_iconst (v := (-1)) hx hb dX1_repeatsIn_93 (by decide) ?_
        exact kr (-1) (f1_34, c1_34, f2_34, c2_34, lo_34, up_34) _ _ _ _ he hP hS dX1_repeatsIn_94
      | succ n34 ih34 =>
        intro i34 f1_34 c1_34 f2_34 c2_34 lo_34 up_34 H locs ls hi34 he hP hD hS hl
        have he := (lpX1_repeatsIn_34_s _ _ _ _ _ _ _ _ _ _ _ _ _ _ _ _ _ _).symm.trans he
        refine lv_iload_n hx hb dX1_repeatsIn_34 rfl (lv_at hl 2 rfl) ?_
        refine lv_bipush (v := 60) hx hb dX1_repeatsIn_35 (by decide) ?_
        refine lv_icmp_gt (tgt := 93) hx hb dX1_repeatsIn_37 (by decide) (fun c => absurd c (gv_ngt (N := 60) rfl (rfl : (60 : Int32) = nI 60) (by omega) (by omega))) (fun _ => ?_)
        refine lv_aload_n hx hb dX1_repeatsIn_40 rfl (lv_at hl 0 rfl) ?_
        refine va_get (D := (dC, dI)) (ci := 1) (v := .ref (ad 7)) (C := RX1) (T := TX1) (N := 11) hx hb hts inX1 hown hK hP 0 rfl rfl 2 (by decide) (hts (.fieldLink RX1 19 "VineWall" "behind" "LVineWall$Wall;") (List.mem_of_getElem? (i := 3) rfl)) (fun _ h9 => h9) rfl dX1_repeatsIn_41 ?_
        refine lv_aload_n hx hb dX1_repeatsIn_44 rfl (lv_at hl 0 rfl) ?_
        refine va_get (D := (dC, dI)) (ci := 1) (v := .ref (ad 4)) (C := RX1) (T := TX1) (N := 11) hx hb hts inX1 hown hK hP 0 rfl rfl 1 (by decide) (hts (.fieldLink RX1 16 "VineWall" "trial" "LVineWall$Wall;") (List.mem_of_getElem? (i := 2) rfl)) (fun _ h9 => h9) rfl dX1_repeatsIn_45 ?_
        refine lv_aload_n hx hb dX1_repeatsIn_48 rfl (lv_at hl 0 rfl) ?_
        refine va_get (D := (dC, dI)) (ci := 1) (v := .int si) (C := RX1) (T := TX1) (N := 11) hx hb hts inX1 hown hK hP 0 rfl rfl 6 (by decide) (hts (.fieldLink RX1 33 "VineWall" "beyond" "I") (List.mem_of_getElem? (i := 4) rfl)) (fun _ h9 => h9) rfl dX1_repeatsIn_49 ?_
        refine lv_aload_n hx hb dX1_repeatsIn_52 rfl (lv_at hl 0 rfl) ?_
        refine va_get (D := (dC, dI)) (ci := 1) (v := .ref (ad 12)) (C := RX1) (T := TX1) (N := 11) hx hb hts inX1 hown hK hP 0 rfl rfl 5 (by decide) (hts (.fieldLink RX1 29 "VineWall" "bearings" "[I") (List.mem_of_getElem? (i := 5) rfl)) (fun _ h9 => h9) rfl dX1_repeatsIn_53 ?_
        have hPc : va_P (dC, dI) vwCl (gv_WWA cI (ad 7) (ad 8) (ad 9) (ad 4) (ad 5) (ad 6) (ad 12) f2_34 c2_34 f1_34 c1_34 be) H := gv_sub [7, 8, 9, 4, 5, 6, 12] hP rfl
        have hDc : va_D (gv_in (gv_WWA cI (ad 7) (ad 8) (ad 9) (ad 4) (ad 5) (ad 6) (ad 12) f2_34 c2_34 f1_34 c1_34 be)) (gv_WWA cI (ad 7) (ad 8) (ad 9) (ad 4) (ad 5) (ad 6) (ad 12) f2_34 c2_34 f1_34 c1_34 be) := gv_D hD [7, 8, 9, 4, 5, 6, 12] (by decide) rfl
        refine gv_ki (wf := (fun (u : (Nat → Int32) × (Nat → Int32)) => (gv_WWA cI (ad 7) (ad 8) (ad 9) (ad 4) (ad 5) (ad 6) (ad 12) u.1 u.2 f1_34 c1_34 be))) (wc := (gv_WWA cI (ad 7) (ad 8) (ad 9) (ad 4) (ad 5) (ad 6) (ad 12) f2_34 c2_34 f1_34 c1_34 be)) [7, 8, 9, 4, 5, 6, 12] (fun _ => rfl) hP hD hS rfl rfl (va_runV (As := [.ref (ad 4), .int si, .ref (ad 12)]) (rest := []) ⟨hx, hb, hml, hown, hts⟩ (kX0_becomeNextOf l dC dI cI cL (ad 7) (ad 8) (ad 9) (ad 4) (ad 5) (ad 6) (ad 12) f2_34 c2_34 f1_34 c1_34 be si (gv_in (gv_WWA cI (ad 7) (ad 8) (ad 9) (ad 4) (ad 5) (ad 6) (ad 12) f2_34 c2_34 f1_34 c1_34 be))) (cwV (rm := gv_R 4 99) 3 hts gX1_repeatsIn_X0_becomeNextOf rfl rfl rfl (by decide +kernel) ⟨Nat.le_of_ble_eq_true rfl, Nat.le_of_ble_eq_true rfl⟩) (gv_preV (ci := 0) hK hPc hDc hN rfl rfl) rfl rfl hl.1 rfl (lv_room (Nat.le_of_ble_eq_true rfl)) dX1_repeatsIn_56 ⟨Nat.zero_le _, Nat.zero_le _⟩) (fun q56 u H locs hw hP hD hS => ?_)
        obtain ⟨f_q56, h_q56⟩ := u
        have he := gv_q3 hw he
        have hP : va_P (dC, dI) vwCl (gv_V cI cL ad f0 c0 f1_34 c1_34 f_q56 h_q56 lo_34 up_34 be si pl cu ge fa) H := hP
        have hD : va_D A (gv_V cI cL ad f0 c0 f1_34 c1_34 f_q56 h_q56 lo_34 up_34 be si pl cu ge fa) := hD
        refine lv_pop hx hb dX1_repeatsIn_59 rfl ?_
        refine lv_aload_n hx hb dX1_repeatsIn_60 rfl (lv_at hl 0 rfl) ?_
        refine va_get (D := (dC, dI)) (ci := 1) (v := .ref (ad 4)) (C := RX1) (T := TX1) (N := 11) hx hb hts inX1 hown hK hP 0 rfl rfl 1 (by decide) (hts (.fieldLink RX1 16 "VineWall" "trial" "LVineWall$Wall;") (List.mem_of_getElem? (i := 2) rfl)) (fun _ h9 => h9) rfl dX1_repeatsIn_61 ?_
        refine lv_aload_n hx hb dX1_repeatsIn_64 rfl (lv_at hl 0 rfl) ?_
        refine va_get (D := (dC, dI)) (ci := 1) (v := .ref (ad 7)) (C := RX1) (T := TX1) (N := 11) hx hb hts inX1 hown hK hP 0 rfl rfl 2 (by decide) (hts (.fieldLink RX1 19 "VineWall" "behind" "LVineWall$Wall;") (List.mem_of_getElem? (i := 3) rfl)) (fun _ h9 => h9) rfl dX1_repeatsIn_65 ?_
        have hPc : va_P (dC, dI) vwCl (gv_WW cI (ad 4) (ad 5) (ad 6) (ad 7) (ad 8) (ad 9) f1_34 c1_34 f_q56 h_q56) H := gv_sub [4, 5, 6, 7, 8, 9] hP rfl
        have hDc : va_D (gv_in (gv_WW cI (ad 4) (ad 5) (ad 6) (ad 7) (ad 8) (ad 9) f1_34 c1_34 f_q56 h_q56)) (gv_WW cI (ad 4) (ad 5) (ad 6) (ad 7) (ad 8) (ad 9) f1_34 c1_34 f_q56 h_q56) := gv_D hD [4, 5, 6, 7, 8, 9] (by decide) rfl
        refine gv_kv (wf := (fun (u : (Nat → Int32) × (Nat → Int32)) => (gv_WW cI (ad 4) (ad 5) (ad 6) (ad 7) (ad 8) (ad 9) u.1 u.2 f_q56 h_q56))) (wc := (gv_WW cI (ad 4) (ad 5) (ad 6) (ad 7) (ad 8) (ad 9) f1_34 c1_34 f_q56 h_q56)) [4, 5, 6, 7, 8, 9] (fun _ => rfl) hP hD hS rfl rfl (va_runV (As := [.ref (ad 7)]) (rest := []) ⟨hx, hb, hml, hown, hts⟩ (kX0_copyFrom l dC dI cI cL (ad 4) (ad 5) (ad 6) (ad 7) (ad 8) (ad 9) f1_34 c1_34 f_q56 h_q56 (gv_in (gv_WW cI (ad 4) (ad 5) (ad 6) (ad 7) (ad 8) (ad 9) f1_34 c1_34 f_q56 h_q56))) (cwV (rm := gv_R 0 0) 1 hts gX1_repeatsIn_X0_copyFrom rfl rfl rfl (by decide +kernel) ⟨Nat.le_of_ble_eq_true rfl, Nat.le_of_ble_eq_true rfl⟩) (gv_preV (ci := 0) hK hPc hDc hN rfl rfl) rfl rfl hl.1 rfl (lv_room (Nat.le_of_ble_eq_true rfl)) dX1_repeatsIn_68 ⟨Nat.zero_le _, Nat.zero_le _⟩) (fun u H locs hw hP hD hS => ?_)
        obtain ⟨f_q68, h_q68⟩ := u
        have he := gv_q2 hw he
        have hP : va_P (dC, dI) vwCl (gv_V cI cL ad f0 c0 f_q68 h_q68 f_q56 h_q56 lo_34 up_34 be si pl cu ge fa) H := hP
        have hD : va_D A (gv_V cI cL ad f0 c0 f_q68 h_q68 f_q56 h_q56 lo_34 up_34 be si pl cu ge fa) := hD
        refine lv_aload_n hx hb dX1_repeatsIn_71 rfl (lv_at hl 0 rfl) ?_
        refine lv_iload_n hx hb dX1_repeatsIn_72 rfl (lv_at hl 2 rfl) ?_
        have hPc : va_P (dC, dI) vwCl (gv_V cI cL ad f0 c0 f_q68 h_q68 f_q56 h_q56 lo_34 up_34 be si pl cu ge fa) H := gv_sub [0, 1, 2, 3, 4, 5, 6, 7, 8, 9, 10, 11, 12] hP rfl
        have hDc : va_D (gv_in (gv_V cI cL ad f0 c0 f_q68 h_q68 f_q56 h_q56 lo_34 up_34 be si pl cu ge fa)) (gv_V cI cL ad f0 c0 f_q68 h_q68 f_q56 h_q56 lo_34 up_34 be si pl cu ge fa) := gv_D hD [0, 1, 2, 3, 4, 5, 6, 7, 8, 9, 10, 11, 12] (by decide) rfl
        refine gv_kv (wf := (fun (u : (Nat → Int64) × (Nat → Int64)) => (gv_V cI cL ad f0 c0 f_q68 h_q68 f_q56 h_q56 u.1 u.2 be si pl cu ge fa))) (wc := (gv_V cI cL ad f0 c0 f_q68 h_q68 f_q56 h_q56 lo_34 up_34 be si pl cu ge fa)) [0, 1, 2, 3, 4, 5, 6, 7, 8, 9, 10, 11, 12] (fun _ => rfl) hP hD hS rfl rfl (va_runV (As := [.int (nI i34)]) (rest := []) ⟨hx, hb, hml, hown, hts⟩ (kX1_remember l dC dI cI cL ad f0 c0 f_q68 h_q68 f_q56 h_q56 lo_34 up_34 be si pl cu ge fa (nI i34) i34 rfl (by omega) (gv_in (gv_V cI cL ad f0 c0 f_q68 h_q68 f_q56 h_q56 lo_34 up_34 be si pl cu ge fa))) (cwV (rm := gv_R 2 45) 1 hts gX1_repeatsIn_X1_remember rfl rfl rfl (by decide +kernel) ⟨Nat.le_of_ble_eq_true rfl, Nat.le_of_ble_eq_true rfl⟩) (gv_preV (ci := 1) hK hPc hDc hN rfl rfl) rfl rfl hl.1 rfl (lv_room (Nat.le_of_ble_eq_true rfl)) dX1_repeatsIn_73 ⟨Nat.zero_le _, Nat.zero_le _⟩) (fun u H locs hw hP hD hS => ?_)
        obtain ⟨lo_q73, up_q73⟩ := u
        have he := gv_q2 hw he
        have hP : va_P (dC, dI) vwCl (gv_V cI cL ad f0 c0 f_q68 h_q68 f_q56 h_q56 lo_q73 up_q73 be si pl cu ge fa) H := hP
        have hD : va_D A (gv_V cI cL ad f0 c0 f_q68 h_q68 f_q56 h_q56 lo_q73 up_q73 be si pl cu ge fa) := hD
        refine lv_aload_n hx hb dX1_repeatsIn_76 rfl (lv_at hl 0 rfl) ?_
        refine lv_iload_n hx hb dX1_repeatsIn_77 rfl (lv_at hl 2 rfl) ?_
        refine lv_iload_n hx hb dX1_repeatsIn_78 rfl (lv_at hl 1 rfl) ?_
        have hPc : va_P (dC, dI) vwCl (gv_V cI cL ad f0 c0 f_q68 h_q68 f_q56 h_q56 lo_q73 up_q73 be si pl cu ge fa) H := gv_sub [0, 1, 2, 3, 4, 5, 6, 7, 8, 9, 10, 11, 12] hP rfl
        have hDc : va_D (gv_in (gv_V cI cL ad f0 c0 f_q68 h_q68 f_q56 h_q56 lo_q73 up_q73 be si pl cu ge fa)) (gv_V cI cL ad f0 c0 f_q68 h_q68 f_q56 h_q56 lo_q73 up_q73 be si pl cu ge fa) := gv_D hD [0, 1, 2, 3, 4, 5, 6, 7, 8, 9, 10, 11, 12] (by decide) rfl
        refine gv_ki (wf := (fun (_ : Unit) => (gv_V cI cL ad f0 c0 f_q68 h_q68 f_q56 h_q56 lo_q73 up_q73 be si pl cu ge fa))) (wc := (gv_V cI cL ad f0 c0 f_q68 h_q68 f_q56 h_q56 lo_q73 up_q73 be si pl cu ge fa)) [0, 1, 2, 3, 4, 5, 6, 7, 8, 9, 10, 11, 12] (fun _ => rfl) hP hD hS rfl rfl (va_runV (As := [.int (nI i34), .int 1]) (rest := []) ⟨hx, hb, hml, hown, hts⟩ (kX1_looksAsBefore l dC dI cI cL ad f0 c0 f_q68 h_q68 f_q56 h_q56 lo_q73 up_q73 be si pl cu ge fa (nI i34) i34 rfl 1 1 (rfl : (1 : Int32) = nI 1) (by omega) (by omega) (gv_in (gv_V cI cL ad f0 c0 f_q68 h_q68 f_q56 h_q56 lo_q73 up_q73 be si pl cu ge fa))) (cwV (rm := gv_R 0 0) 2 hts gX1_repeatsIn_X1_looksAsBefore rfl rfl rfl (by decide +kernel) ⟨Nat.le_of_ble_eq_true rfl, Nat.le_of_ble_eq_true rfl⟩) (gv_preV (ci := 1) hK hPc hDc hN rfl rfl) rfl rfl hl.1 rfl (lv_room (Nat.le_of_ble_eq_true rfl)) dX1_repeatsIn_79 ⟨Nat.zero_le _, Nat.zero_le _⟩) (fun q79 u H locs hw hP hD hS => ?_)
        have he := gv_q hw he
        have hP : va_P (dC, dI) vwCl (gv_V cI cL ad f0 c0 f_q68 h_q68 f_q56 h_q56 lo_q73 up_q73 be si pl cu ge fa) H := hP
        have hD : va_D A (gv_V cI cL ad f0 c0 f_q68 h_q68 f_q56 h_q56 lo_q73 up_q73 be si pl cu ge fa) := hD
        refine lv_if_eq (tgt := 87) hx hb dX1_repeatsIn_82 (by decide) (fun cd82 => ?_) (fun cd82 => ?_)
        · have he := gv_t cd82 he
          refine lv_iinc (v := (nI (i34 + 1))) (lv' := [(2, .int (nI (i34 + 1))), (0, .ref (ad 0)), (1, .int 1)]) hx hb dX1_repeatsIn_87 hl (k := 2) rfl (nI_1 i34) (by decide) rfl (fun ls hl => ?_)
          refine lv_goto (tgt := 34) hx hb dX1_repeatsIn_90 (by decide) ?_
          exact ih34 (i34 + 1) f_q68 h_q68 f_q56 h_q56 lo_q73 up_q73 _ _ _ (by omega) he hP hD hS (lv_sub hl [1, 2, 0] rfl)
        · have he := gv_f cd82 he
          refine lv_iload_n hx hb dX1_repeatsIn_85 rfl (lv_at hl 2 rfl) ?_
          exact kr (nI i34) (f_q68, h_q68, f_q56, h_q56, lo_q73, up_q73) _ _ _ _ he hP hS dX1_repeatsIn_86
    exact L34 60 1 f_q24 h_q24 f2 c2 lo_q29 up_q29 _ _ _ (by omega) he hP hD hS (lv_sub hl [2, 1, 0] rfl)
def lpX1_bestCut_6 (f0_c : Nat → Int32) (c0_c : Nat → Int32) (lo_c : Nat → Int64) (up_c : Nat → Int64) (be_c : Nat → Int32) (si_c : Int32) (pl_c : Int32) (cu_c : Int32) (ge_c : Int32) (fa_c : Int32) : Nat → Nat → (Int32) → (Int32) → (Nat → Int32) → (Nat → Int32) → (Nat → Int32) → (Nat → Int32) → Int32 × (Nat → Int32) × (Nat → Int32) × (Nat → Int32) × (Nat → Int32)
  | 0, _, x1_6, _, f1_6, c1_6, f2_6, c2_6 => (x1_6, f1_6, c1_6, f2_6, c2_6)
  | n6 + 1, i6, x1_6, x2_6, f1_6, c1_6, f2_6, c2_6 => gv_b (spX0_hasLeafAt f0_c c0_c ((nI i6) / 12) ((nI i6) - (nI i6) / 12 * 12)) (fun q32 => (if q32 = 0 then lpX1_bestCut_6 f0_c c0_c lo_c up_c be_c si_c pl_c cu_c ge_c fa_c n6 (i6 + 1) x1_6 x2_6 f1_6 c1_6 f2_6 c2_6 else gv_b5 (spX1_litBehindCut f0_c c0_c f1_6 c1_6 f2_6 c2_6 lo_c up_c be_c si_c pl_c cu_c ge_c fa_c ((nI i6) / 12) ((nI i6) - (nI i6) / 12 * 12)) (fun q43 f1_q43 c1_q43 f2_q43 c2_q43 => (if q43 ≤ x2_6 then lpX1_bestCut_6 f0_c c0_c lo_c up_c be_c si_c pl_c cu_c ge_c fa_c n6 (i6 + 1) x1_6 x2_6 f1_q43 c1_q43 f2_q43 c2_q43 else lpX1_bestCut_6 f0_c c0_c lo_c up_c be_c si_c pl_c cu_c ge_c fa_c n6 (i6 + 1) (nI i6) q43 f1_q43 c1_q43 f2_q43 c2_q43))))
theorem lpX1_bestCut_6_0 (f0_c : Nat → Int32) (c0_c : Nat → Int32) (lo_c : Nat → Int64) (up_c : Nat → Int64) (be_c : Nat → Int32) (si_c : Int32) (pl_c : Int32) (cu_c : Int32) (ge_c : Int32) (fa_c : Int32) (i6 : Nat) (x1_6 : Int32) (x2_6 : Int32) (f1_6 : Nat → Int32) (c1_6 : Nat → Int32) (f2_6 : Nat → Int32) (c2_6 : Nat → Int32) : lpX1_bestCut_6 f0_c c0_c lo_c up_c be_c si_c pl_c cu_c ge_c fa_c 0 i6 x1_6 x2_6 f1_6 c1_6 f2_6 c2_6 = (x1_6, f1_6, c1_6, f2_6, c2_6) := rfl
theorem lpX1_bestCut_6_s (f0_c : Nat → Int32) (c0_c : Nat → Int32) (lo_c : Nat → Int64) (up_c : Nat → Int64) (be_c : Nat → Int32) (si_c : Int32) (pl_c : Int32) (cu_c : Int32) (ge_c : Int32) (fa_c : Int32) (n6 : Nat) (i6 : Nat) (x1_6 : Int32) (x2_6 : Int32) (f1_6 : Nat → Int32) (c1_6 : Nat → Int32) (f2_6 : Nat → Int32) (c2_6 : Nat → Int32) : lpX1_bestCut_6 f0_c c0_c lo_c up_c be_c si_c pl_c cu_c ge_c fa_c (n6 + 1) i6 x1_6 x2_6 f1_6 c1_6 f2_6 c2_6 = gv_b (spX0_hasLeafAt f0_c c0_c ((nI i6) / 12) ((nI i6) - (nI i6) / 12 * 12)) (fun q32 => (if q32 = 0 then lpX1_bestCut_6 f0_c c0_c lo_c up_c be_c si_c pl_c cu_c ge_c fa_c n6 (i6 + 1) x1_6 x2_6 f1_6 c1_6 f2_6 c2_6 else gv_b5 (spX1_litBehindCut f0_c c0_c f1_6 c1_6 f2_6 c2_6 lo_c up_c be_c si_c pl_c cu_c ge_c fa_c ((nI i6) / 12) ((nI i6) - (nI i6) / 12 * 12)) (fun q43 f1_q43 c1_q43 f2_q43 c2_q43 => (if q43 ≤ x2_6 then lpX1_bestCut_6 f0_c c0_c lo_c up_c be_c si_c pl_c cu_c ge_c fa_c n6 (i6 + 1) x1_6 x2_6 f1_q43 c1_q43 f2_q43 c2_q43 else lpX1_bestCut_6 f0_c c0_c lo_c up_c be_c si_c pl_c cu_c ge_c fa_c n6 (i6 + 1) (nI i6) q43 f1_q43 c1_q43 f2_q43 c2_q43)))) := rfl
def spX1_bestCut (f0 : Nat → Int32) (c0 : Nat → Int32) (f1 : Nat → Int32) (c1 : Nat → Int32) (f2 : Nat → Int32) (c2 : Nat → Int32) (lo : Nat → Int64) (up : Nat → Int64) (be : Nat → Int32) (si : Int32) (pl : Int32) (cu : Int32) (ge : Int32) (fa : Int32) : Int32 × (Nat → Int32) × (Nat → Int32) × (Nat → Int32) × (Nat → Int32) := lpX1_bestCut_6 f0 c0 lo up be si pl cu ge fa 96 0 (-1) (-1) f1 c1 f2 c2
theorem spX1_bestCut_e (f0 : Nat → Int32) (c0 : Nat → Int32) (f1 : Nat → Int32) (c1 : Nat → Int32) (f2 : Nat → Int32) (c2 : Nat → Int32) (lo : Nat → Int64) (up : Nat → Int64) (be : Nat → Int32) (si : Int32) (pl : Int32) (cu : Int32) (ge : Int32) (fa : Int32) : spX1_bestCut f0 c0 f1 c1 f2 c2 lo up be si pl cu ge fa = lpX1_bestCut_6 f0 c0 lo up be si pl cu ge fa 96 0 (-1) (-1) f1 c1 f2 c2 := rfl
set_option maxHeartbeats 4000000 in
set_option maxRecDepth 100000 in
theorem kX1_bestCut (l : Launch) (dC : Nat → ClassId) (dI : Nat → Nat → Nat) (cI cL : ClassId) (ad : Nat → Nat) (f0 : Nat → Int32) (c0 : Nat → Int32) (f1 : Nat → Int32) (c1 : Nat → Int32) (f2 : Nat → Int32) (c2 : Nat → Int32) (lo : Nat → Int64) (up : Nat → Int64) (be : Nat → Int32) (si : Int32) (pl : Int32) (cu : Int32) (ge : Int32) (fa : Int32) : gv_Mi l yX1_bestCut wsX1_bestCut 6 146 (dC, dI) [(cI, .int), (cL, .long)] [.ref (ad 0)] (gv_V cI cL ad f0 c0 f1 c1 f2 c2 lo up be si pl cu ge fa) (fun (r : Int32) (u : (Nat → Int32) × (Nat → Int32) × (Nat → Int32) × (Nat → Int32)) => (r, u) = spX1_bestCut f0 c0 f1 c1 f2 c2 lo up be si pl cu ge fa) (fun (u : (Nat → Int32) × (Nat → Int32) × (Nat → Int32) × (Nat → Int32)) => (gv_V cI cL ad f0 c0 u.1 u.2.1 u.2.2.1 u.2.2.2 lo up be si pl cu ge fa)) := by
  refine gv_ofi (cc := cX1_bestCut) (maxL := 7) (own := RX1) (by decide) rfl (Nat.le_of_ble_eq_true rfl) rfl ?_
  intro A p e s m args below meth c Q ls H locs hx hb hml hts hown hP hK hD hN hS hl kr
  have inX0 : ∀ w ∈ wsX00, w ∈ wsX1_bestCut := (fun _ h => List.mem_cons_of_mem _ (List.mem_append_right _ h))
  have inX1 : ∀ w ∈ wsX10, w ∈ wsX1_bestCut := (fun _ h => List.mem_cons_of_mem _ (List.mem_append_left _ (List.mem_append_right _ h)))
  have hl : lv_has ls 7 [(0, .ref (ad 0))] := hl
  have he := (spX1_bestCut_e f0 c0 f1 c1 f2 c2 lo up be si pl cu ge fa).symm
  refine lv_iconst (v := (-1)) hx hb dX1_bestCut_0 (by decide) ?_
  refine lv_istore_n (lv' := [(1, .int (-1)), (0, .ref (ad 0))]) hx hb dX1_bestCut_1 rfl hl (by decide) rfl (fun ls hl => ?_)
  refine lv_iconst (v := (-1)) hx hb dX1_bestCut_2 (by decide) ?_
  refine lv_istore_n (lv' := [(2, .int (-1)), (1, .int (-1)), (0, .ref (ad 0))]) hx hb dX1_bestCut_3 rfl hl (by decide) rfl (fun ls hl => ?_)
  refine lv_iconst (v := 0) hx hb dX1_bestCut_4 (by decide) ?_
  refine lv_istore_n (lv' := [(3, .int 0), (2, .int (-1)), (1, .int (-1)), (0, .ref (ad 0))]) hx hb dX1_bestCut_5 rfl hl (by decide) rfl (fun ls hl => ?_)
  have L6 : ∀ (n6 i6 : Nat) (x1_6 : Int32) (x2_6 : Int32) (f1_6 : Nat → Int32) (c1_6 : Nat → Int32) (f2_6 : Nat → Int32) (c2_6 : Nat → Int32) (H : Heap) (locs : List Loc) (ls : Array Slot), i6 + n6 = 96 → lpX1_bestCut_6 f0 c0 lo up be si pl cu ge fa n6 i6 x1_6 x2_6 f1_6 c1_6 f2_6 c2_6 = spX1_bestCut f0 c0 f1 c1 f2 c2 lo up be si pl cu ge fa → va_P (dC, dI) vwCl (gv_V cI cL ad f0 c0 f1_6 c1_6 f2_6 c2_6 lo up be si pl cu ge fa) H → va_D A (gv_V cI cL ad f0 c0 f1_6 c1_6 f2_6 c2_6 lo up be si pl cu ge fa) → va_S A s.heap H locs → lv_has ls 7 [(0, .ref (ad 0)), (1, .int x1_6), (2, .int x2_6), (3, .int (nI i6))] → W p l e (gv_R 6 146) s m args below meth c H locs 0 0 Q (F0 m 6 ls []) := by
    intro n6
    induction n6 with
    | zero =>
      intro i6 x1_6 x2_6 f1_6 c1_6 f2_6 c2_6 H locs ls hi6 he hP hD hS hl
      have he := (lpX1_bestCut_6_0 _ _ _ _ _ _ _ _ _ _ _ _ _ _ _ _ _).symm.trans he
      refine lv_iload_n hx hb dX1_bestCut_6 rfl (lv_at hl 3 rfl) ?_
      refine lv_bipush (v := 96) hx hb dX1_bestCut_7 (by decide) ?_
      refine lv_icmp_ge (tgt := 65) hx hb dX1_bestCut_9 (by decide) (fun _ => ?_) (fun c => absurd c (gv_ge (N := 96) rfl (rfl : (96 : Int32) = nI 96) (by omega) (by omega)))
      refine lv_iload_n hx hb dX1_bestCut_65 rfl (lv_at hl 1 rfl) ?_
      exact kr x1_6 (f1_6, c1_6, f2_6, c2_6) _ _ _ _ he hP hS dX1_bestCut_66
    | succ n6 ih6 =>
      intro i6 x1_6 x2_6 f1_6 c1_6 f2_6 c2_6 H locs ls hi6 he hP hD hS hl
      have he := (lpX1_bestCut_6_s _ _ _ _ _ _ _ _ _ _ _ _ _ _ _ _ _ _).symm.trans he
      refine lv_iload_n hx hb dX1_bestCut_6 rfl (lv_at hl 3 rfl) ?_
      refine lv_bipush (v := 96) hx hb dX1_bestCut_7 (by decide) ?_
      refine lv_icmp_ge (tgt := 65) hx hb dX1_bestCut_9 (by decide) (fun c => absurd c (gv_lt (N := 96) rfl (rfl : (96 : Int32) = nI 96) (by omega) (by omega))) (fun _ => ?_)
      refine lv_iload_n hx hb dX1_bestCut_12 rfl (lv_at hl 3 rfl) ?_
      refine lv_bipush (v := 12) hx hb dX1_bestCut_13 (by decide) ?_
      refine lv_idiv hx hb dX1_bestCut_15 (by decide) ?_
      refine lv_istore (lv' := [(4, .int ((nI i6) / 12)), (0, .ref (ad 0)), (1, .int x1_6), (2, .int x2_6), (3, .int (nI i6))]) hx hb dX1_bestCut_16 hl (by decide) rfl (fun ls hl => ?_)
      refine lv_iload_n hx hb dX1_bestCut_18 rfl (lv_at hl 4 rfl) ?_
      refine lv_bipush (v := 12) hx hb dX1_bestCut_19 (by decide) ?_
      refine lv_irem hx hb dX1_bestCut_21 (by decide) ?_
      refine lv_istore (lv' := [(5, .int ((nI i6) - (nI i6) / 12 * 12)), (4, .int ((nI i6) / 12)), (0, .ref (ad 0)), (1, .int x1_6), (2, .int x2_6), (3, .int (nI i6))]) hx hb dX1_bestCut_22 hl (by decide) rfl (fun ls hl => ?_)
      refine lv_aload_n hx hb dX1_bestCut_24 rfl (lv_at hl 2 rfl) ?_
      refine va_get (D := (dC, dI)) (ci := 1) (v := .ref (ad 1)) (C := RX1) (T := TX1) (N := 11) hx hb hts inX1 hown hK hP 0 rfl rfl 0 (by decide) (hts (.fieldLink RX1 10 "VineWall" "wall" "LVineWall$Wall;") (List.mem_of_getElem? (i := 1) rfl)) (fun _ h9 => h9) rfl dX1_bestCut_25 ?_
      refine lv_iload hx hb dX1_bestCut_28 (lv_at hl 1 rfl) ?_
      refine lv_iload hx hb dX1_bestCut_30 (lv_at hl 0 rfl) ?_
      have hPc : va_P (dC, dI) vwCl (gv_W cI (ad 1) (ad 2) (ad 3) f0 c0) H := gv_sub [1, 2, 3] hP rfl
      have hDc : va_D (gv_in (gv_W cI (ad 1) (ad 2) (ad 3) f0 c0)) (gv_W cI (ad 1) (ad 2) (ad 3) f0 c0) := gv_D hD [1, 2, 3] (by decide) rfl
      refine gv_ki (wf := (fun (_ : Unit) => (gv_W cI (ad 1) (ad 2) (ad 3) f0 c0))) (wc := (gv_W cI (ad 1) (ad 2) (ad 3) f0 c0)) [1, 2, 3] (fun _ => rfl) hP hD hS rfl rfl (va_runV (As := [.int ((nI i6) / 12), .int ((nI i6) - (nI i6) / 12 * 12)]) (rest := []) ⟨hx, hb, hml, hown, hts⟩ (kX0_hasLeafAt l dC dI cI cL (ad 1) (ad 2) (ad 3) f0 c0 ((nI i6) / 12) ((nI i6) - (nI i6) / 12 * 12) (gv_in (gv_W cI (ad 1) (ad 2) (ad 3) f0 c0))) (cwV (rm := gv_R 1 21) 2 hts gX1_bestCut_X0_hasLeafAt rfl rfl rfl (by decide +kernel) ⟨Nat.le_of_ble_eq_true rfl, Nat.le_of_ble_eq_true rfl⟩) (gv_preV (ci := 0) hK hPc hDc hN rfl rfl) rfl rfl hl.1 rfl (lv_room (Nat.le_of_ble_eq_true rfl)) dX1_bestCut_32 ⟨Nat.zero_le _, Nat.zero_le _⟩) (fun q32 u H locs hw hP hD hS => ?_)
      have he := gv_q hw he
      have hP : va_P (dC, dI) vwCl (gv_V cI cL ad f0 c0 f1_6 c1_6 f2_6 c2_6 lo up be si pl cu ge fa) H := hP
      have hD : va_D A (gv_V cI cL ad f0 c0 f1_6 c1_6 f2_6 c2_6 lo up be si pl cu ge fa) := hD
      refine lv_if_eq (tgt := 59) hx hb dX1_bestCut_35 (by decide) (fun cd35 => ?_) (fun cd35 => ?_)
      · have he := gv_t cd35 he
        refine lv_iinc (v := (nI (i6 + 1))) (lv' := [(3, .int (nI (i6 + 1))), (5, .int ((nI i6) - (nI i6) / 12 * 12)), (4, .int ((nI i6) / 12)), (0, .ref (ad 0)), (1, .int x1_6), (2, .int x2_6)]) hx hb dX1_bestCut_59 hl (k := 5) rfl (nI_1 i6) (by decide) rfl (fun ls hl => ?_)
        refine lv_goto (tgt := 6) hx hb dX1_bestCut_62 (by decide) ?_
        exact ih6 (i6 + 1) x1_6 x2_6 f1_6 c1_6 f2_6 c2_6 _ _ _ (by omega) he hP hD hS (lv_sub hl [3, 4, 5, 0] rfl)
      · have he := gv_f cd35 he
        refine lv_aload_n hx hb dX1_bestCut_38 rfl (lv_at hl 2 rfl) ?_
        refine lv_iload hx hb dX1_bestCut_39 (lv_at hl 1 rfl) ?_
        refine lv_iload hx hb dX1_bestCut_41 (lv_at hl 0 rfl) ?_
        have hPc : va_P (dC, dI) vwCl (gv_V cI cL ad f0 c0 f1_6 c1_6 f2_6 c2_6 lo up be si pl cu ge fa) H := gv_sub [0, 1, 2, 3, 4, 5, 6, 7, 8, 9, 10, 11, 12] hP rfl
        have hDc : va_D (gv_in (gv_V cI cL ad f0 c0 f1_6 c1_6 f2_6 c2_6 lo up be si pl cu ge fa)) (gv_V cI cL ad f0 c0 f1_6 c1_6 f2_6 c2_6 lo up be si pl cu ge fa) := gv_D hD [0, 1, 2, 3, 4, 5, 6, 7, 8, 9, 10, 11, 12] (by decide) rfl
        refine gv_ki (wf := (fun (u : (Nat → Int32) × (Nat → Int32) × (Nat → Int32) × (Nat → Int32)) => (gv_V cI cL ad f0 c0 u.1 u.2.1 u.2.2.1 u.2.2.2 lo up be si pl cu ge fa))) (wc := (gv_V cI cL ad f0 c0 f1_6 c1_6 f2_6 c2_6 lo up be si pl cu ge fa)) [0, 1, 2, 3, 4, 5, 6, 7, 8, 9, 10, 11, 12] (fun _ => rfl) hP hD hS rfl rfl (va_runV (As := [.int ((nI i6) / 12), .int ((nI i6) - (nI i6) / 12 * 12)]) (rest := []) ⟨hx, hb, hml, hown, hts⟩ (kX1_litBehindCut l dC dI cI cL ad f0 c0 f1_6 c1_6 f2_6 c2_6 lo up be si pl cu ge fa ((nI i6) / 12) ((nI i6) - (nI i6) / 12 * 12) (gv_in (gv_V cI cL ad f0 c0 f1_6 c1_6 f2_6 c2_6 lo up be si pl cu ge fa))) (cwV (rm := gv_R 5 124) 2 hts gX1_bestCut_X1_litBehindCut rfl rfl rfl (by decide +kernel) ⟨Nat.le_of_ble_eq_true rfl, Nat.le_of_ble_eq_true rfl⟩) (gv_preV (ci := 1) hK hPc hDc hN rfl rfl) rfl rfl hl.1 rfl (lv_room (Nat.le_of_ble_eq_true rfl)) dX1_bestCut_43 ⟨Nat.zero_le _, Nat.zero_le _⟩) (fun q43 u H locs hw hP hD hS => ?_)
        obtain ⟨f1_q43, c1_q43, f2_q43, c2_q43⟩ := u
        have he := gv_q5 hw he
        have hP : va_P (dC, dI) vwCl (gv_V cI cL ad f0 c0 f1_q43 c1_q43 f2_q43 c2_q43 lo up be si pl cu ge fa) H := hP
        have hD : va_D A (gv_V cI cL ad f0 c0 f1_q43 c1_q43 f2_q43 c2_q43 lo up be si pl cu ge fa) := hD
        refine lv_istore (lv' := [(6, .int q43), (5, .int ((nI i6) - (nI i6) / 12 * 12)), (4, .int ((nI i6) / 12)), (0, .ref (ad 0)), (1, .int x1_6), (2, .int x2_6), (3, .int (nI i6))]) hx hb dX1_bestCut_46 hl (by decide) rfl (fun ls hl => ?_)
        refine lv_iload hx hb dX1_bestCut_48 (lv_at hl 0 rfl) ?_
        refine lv_iload_n hx hb dX1_bestCut_50 rfl (lv_at hl 5 rfl) ?_
        refine lv_icmp_le (tgt := 59) hx hb dX1_bestCut_51 (by decide) (fun cd51 => ?_) (fun cd51 => ?_)
        · have he := gv_t cd51 he
          refine lv_iinc (v := (nI (i6 + 1))) (lv' := [(3, .int (nI (i6 + 1))), (6, .int q43), (5, .int ((nI i6) - (nI i6) / 12 * 12)), (4, .int ((nI i6) / 12)), (0, .ref (ad 0)), (1, .int x1_6), (2, .int x2_6)]) hx hb dX1_bestCut_59 hl (k := 6) rfl (nI_1 i6) (by decide) rfl (fun ls hl => ?_)
          refine lv_goto (tgt := 6) hx hb dX1_bestCut_62 (by decide) ?_
          exact ih6 (i6 + 1) x1_6 x2_6 f1_q43 c1_q43 f2_q43 c2_q43 _ _ _ (by omega) he hP hD hS (lv_sub hl [4, 5, 6, 0] rfl)
        · have he := gv_f cd51 he
          refine lv_iload hx hb dX1_bestCut_54 (lv_at hl 0 rfl) ?_
          refine lv_istore_n (lv' := [(2, .int q43), (6, .int q43), (5, .int ((nI i6) - (nI i6) / 12 * 12)), (4, .int ((nI i6) / 12)), (0, .ref (ad 0)), (1, .int x1_6), (3, .int (nI i6))]) hx hb dX1_bestCut_56 rfl hl (by decide) rfl (fun ls hl => ?_)
          refine lv_iload_n hx hb dX1_bestCut_57 rfl (lv_at hl 6 rfl) ?_
          refine lv_istore_n (lv' := [(1, .int (nI i6)), (2, .int q43), (6, .int q43), (5, .int ((nI i6) - (nI i6) / 12 * 12)), (4, .int ((nI i6) / 12)), (0, .ref (ad 0)), (3, .int (nI i6))]) hx hb dX1_bestCut_58 rfl hl (by decide) rfl (fun ls hl => ?_)
          refine lv_iinc (v := (nI (i6 + 1))) (lv' := [(3, .int (nI (i6 + 1))), (1, .int (nI i6)), (2, .int q43), (6, .int q43), (5, .int ((nI i6) - (nI i6) / 12 * 12)), (4, .int ((nI i6) / 12)), (0, .ref (ad 0))]) hx hb dX1_bestCut_59 hl (k := 6) rfl (nI_1 i6) (by decide) rfl (fun ls hl => ?_)
          refine lv_goto (tgt := 6) hx hb dX1_bestCut_62 (by decide) ?_
          exact ih6 (i6 + 1) (nI i6) q43 f1_q43 c1_q43 f2_q43 c2_q43 _ _ _ (by omega) he hP hD hS (lv_sub hl [6, 1, 2, 0] rfl)
  exact L6 96 0 (-1) (-1) f1 c1 f2 c2 _ _ _ (by omega) he hP hD hS (lv_sub hl [3, 2, 1, 0] rfl)
end
section
/-! Methods that throw: a standard contract, its ends, its calls. -/
abbrev gE_A : String := "java/lang/IllegalArgumentException"
abbrev gE_S : String := "java/lang/IllegalStateException"
abbrev gE_I : String := "java/lang/IndexOutOfBoundsException"
abbrev gE_n : List String := ["java/lang/RuntimeException", "java/lang/Exception"]
def gx_txt : List (Nat × String) := [(51, "there is no such choice for the sides"), (58, "a generation has gone by"), (69, "the cell at the foot is not bare"), (71, "no more can be planted in this game"), (77, "no trellis bears so many leaves"), (85, "there is no leaf"), (91, "no cut is left"), (96, "the game is over"), (152, "there is no such column"), (158, "there is no such cell")]
def gx_ca : List (String × String) := [(gE_A, gE_A), (gE_S, gE_S), (gE_I, gE_I)]
def gx_de : List MethodName := [Bundle.initS "java/lang/RuntimeException", Bundle.initS "java/lang/Exception", Bundle.initS Bundle.tN]
def gx_ws : List Cond := gx_ca.map (fun q => .castable q.1 q.2) ++ gx_de.map .declares
def gx_nc : List (String × String) := [(gE_S, gE_A), (gE_S, gE_I), (gE_A, gE_I)]
def gx_T (A : Nat → Prop) (U : State) (H : Heap) : Prop := (∀ q ∈ gx_txt, ∃ a, vk_R RX1 q.1 q.2 a U) ∧ (∀ q ∈ gx_ca, va_Nw (.castable q.1 q.2) U) ∧ (∀ y ∈ gx_de, va_Nw (.declares y) U) ∧ (∀ q ∈ gx_nc, va_Nc q.1 q.2 U) ∧ vx_Zq Bundle.tN "UNASSIGNED_STACK" Bundle.steD A U H ∧ vx_Zq Bundle.tN "SUPPRESSED_SENTINEL" Bundle.listD A U H
theorem gx_T.warm {A : Nat → Prop} {s U : State} {H : Heap} (hW : s.WarmedH U.vm) (h : gx_T A s H) : gx_T A U H :=
  ⟨fun q hq => (h.1 q hq).elim fun a ha => ⟨a, vk_R.warm hW ha⟩, fun q hq => va_Nw.warmC hW (h.2.1 q hq), fun y hy => va_tabs rfl (rfl : (s.setVm U.vm).vm = U.vm) (by rw [Cond.declares_setVm hW.alike]; exact h.2.2.1 y hy), fun q hq => va_Nc.moved hW.alike (h.2.2.2.1 q hq), vx_Zq.moved hW.alike h.2.2.2.2.1, vx_Zq.moved hW.alike h.2.2.2.2.2⟩
theorem gx_T.call {A : Nat → Prop} {U : State} {g : JFrame} {mk : MethodId} {a : Array Value} (h : gx_T A U U.heap) : gx_T A (U.calling g mk a) (U.calling g mk a).heap :=
  ⟨fun q hq => (h.1 q hq).elim fun a' ha => ⟨a', vk_R.same (u := U) rfl ha⟩, fun q hq => va_Nw.same (u := U) rfl rfl (h.2.1 q hq), fun y hy => va_Nw.same (u := U) rfl rfl (h.2.2.1 y hy), fun q hq => va_Nc.moved (u := U) (Vm.Alike.refl U.vm) (h.2.2.2.1 q hq), vx_Zq.moved (u := U) (Vm.Alike.refl U.vm) h.2.2.2.2.1, vx_Zq.moved (u := U) (Vm.Alike.refl U.vm) h.2.2.2.2.2⟩
theorem gx_T.to {A B : Nat → Prop} {U : State} {H H1 : Heap} (h : gx_T A U H) (hq : ∀ a : Nat, a < H.size → ¬ A a → H1[a]? = H[a]?) (hAB : ∀ q, B q → A q) : gx_T B U H1 :=
  ⟨h.1, h.2.1, h.2.2.1, h.2.2.2.1, (h.2.2.2.2.1.kept hq).narrow hAB, (h.2.2.2.2.2.kept hq).narrow hAB⟩
theorem gx_T.word {A : Nat → Prop} {U : State} {H : Heap} {args : Array Value} (h : gx_T A U H) : ∀ w ∈ gx_ws, w.before args U = true := by
  intro w hw
  rcases List.mem_append.mp hw with h1 | h1
  · obtain ⟨q, hq, rfl⟩ := List.mem_map.mp h1
    exact va_Nw.use rfl (h.2.1 q hq)
  · obtain ⟨y, hy, rfl⟩ := List.mem_map.mp h1
    exact va_Nw.use rfl (h.2.2.1 y hy)
def gx_Pc (D : va_G) (tys : List (ClassId × FieldType)) (A : Nat → Prop) (av : List Value) (ws : va_W) : Array Value → State → Prop := va_Pc av (fun U => va_P D vwCl ws U.heap ∧ va_K D vwCl tys U ∧ va_D A ws ∧ gv_N U ∧ gx_T A U U.heap)
theorem gx_blind {D : va_G} {tys : List (ClassId × FieldType)} {A : Nat → Prop} {av : List Value} {ws : va_W} : FrameBlind (gx_Pc D tys A av ws) := by
  intro a U g mk q
  obtain ⟨q0, q1, q2, q3, q4, q5⟩ := q
  exact ⟨q0, q1, va_K.moved (u := U) (U := U.calling g mk a) (Vm.Alike.refl U.vm) q2, q3, gv_N.same (u := U) (U := U.calling g mk a) rfl q4, gx_T.call q5⟩
theorem gx_preS {s : State} {H : Heap} {D : va_G} {tys : List (ClassId × FieldType)} {A : Nat → Prop} {As : List Value} {ws : va_W} (hK : va_K D vwCl tys s) (hP : va_P D vwCl ws H) (hD : va_D A ws) (hN : gv_N s) (hX : gx_T A s H) : PreS s H (gx_Pc D tys A As ws) As :=
  ⟨gx_blind, fun U hU hW => ⟨rfl, by rw [hU]; exact hP, va_K.moved hW.alike hK, hD, gv_N.warm hW hN, by rw [hU]; exact hX.warm hW⟩⟩
theorem gx_preV {s : State} {H : Heap} {D : va_G} {tys : List (ClassId × FieldType)} {A : Nat → Prop} {As : List Value} {ws : va_W} {b ci : Nat} {q : vw_C} {fs : List Value} (hK : va_K D vwCl tys s) (hP : va_P D vwCl ws H) (hD : va_D A ws) (hN : gv_N s) (hX : gx_T A s H) (hc : vwCl[ci]? = some q) (he : ws[0]? = some (b, .inr (ci, fs))) : PreV s H q.1 b (gx_Pc D tys A (.ref b :: As) ws) As :=
  ⟨gx_blind, va_recv hK hP hc he, fun U hU hW => ⟨rfl, by rw [hU]; exact hP, va_K.moved hW.alike hK, hD, gv_N.warm hW hN, by rw [hU]; exact hX.warm hW⟩⟩
abbrev gx_X (D : va_G) (wc : va_W) (xp : String → Prop) (A : Nat → Prop) : String → State → State → Prop := vx_X (fun _ : Unit => True) (fun E _ t => xp E ∧ va_P D vwCl wc t.heap) A
abbrev gx_R (fr mc lo : Nat) : Room := { frames := fr, cells := mc, slots := 6 * mc, locals := lo }
def gx_Mi (l : Launch) (y : MethodName) (wsy : List Cond) (fr mc lo : Nat) (D : va_G) (tys : List (ClassId × FieldType)) (av : List Value) (wc : va_W) {S : Type} (post : Int32 → S → Prop) (wf : S → va_W) (xp : String → Prop) : Prop :=
  ∀ A : Nat → Prop, vx_Met l y wsy (gx_R fr mc lo) (gx_Pc D tys A av wc) (va_Qi post (fun u t => va_P D vwCl (wf u) t.heap) A) (gx_X D wc xp A) mc (6 * mc) A
def gx_Mv (l : Launch) (y : MethodName) (wsy : List Cond) (fr mc lo : Nat) (D : va_G) (tys : List (ClassId × FieldType)) (av : List Value) (wc : va_W) {S : Type} (post : S → Prop) (wf : S → va_W) (xp : String → Prop) : Prop :=
  ∀ A : Nat → Prop, vx_Met l y wsy (gx_R fr mc lo) (gx_Pc D tys A av wc) (va_Qv post (fun u t => va_P D vwCl (wf u) t.heap) A) (gx_X D wc xp A) mc (6 * mc) A
-- the residual of a specification that may throw
def gx_b {α β : Type} (a : String ⊕ α) (k : α → String ⊕ β) : String ⊕ β := match a with
  | .inl E => .inl E
  | .inr u => k u
theorem gx_l {α β : Type} {E : String} {a : String ⊕ α} {k : α → String ⊕ β} {r : String ⊕ β} (h : .inl E = a) (e : gx_b a k = r) : .inl E = r := by subst h; exact e
theorem gx_r {α β : Type} {u : α} {a : String ⊕ α} {k : α → String ⊕ β} {r : String ⊕ β} (h : .inr u = a) (e : gx_b a k = r) : k u = r := by subst h; exact e
section GXC
variable {p : Program} {l : Launch} {e : Env} {R : Room} {s : State} {m : MethodId} {args : Array Value} {below : List Frame} {meth : Method} {c : Code} {H H0 : Heap} {locs : List Loc} {cells slots mc ms : Nat} {Q : State → Prop}
variable {pc : Nat} {ls : Array Slot} {rest st0 : List Value} {a : Array Value} {A0 : Nat → Prop} {D : va_G} {ws wc : va_W} {xp : String → Prop}
theorem gx_kv {S : Type} {post : S → Prop} {wf : S → va_W} (is : List Nat) (hwf : ∀ u, (wf u).map Prod.fst = wc.map Prod.fst) (hP : va_P D vwCl ws H) (hD : va_D A0 ws) (hS : va_S A0 H0 H locs) (his : is.map (fun i => ws[i]?) = wc.map some)
    (hr : vx_Run p l e R s m args below meth c H locs cells slots mc ms (F0 m pc ls st0) rest (va_Qv post (fun u t => va_P D vwCl (wf u) t.heap) (gv_in wc) a) (gx_X D wc xp (gv_in wc)) (gv_in wc))
    (kx : ∀ (E : String) (ce : Cell) (q9 : Addr) (H1 : Heap) (locs1 : List Loc), xp E → va_P D vwCl (gv_put ws is wc) H1 → va_D A0 (gv_put ws is wc) → va_S A0 H0 H1 locs1 → H1[q9]? = some ce → ce.vm = .none → s.vm.findClass E = some ce.cls → vx_W p l e R s m args below meth c H1 locs1 (cells + mc) (slots + ms) Q (F0 m pc ls rest) q9)
    (kk : ∀ (u : S) (H1 : Heap) (locs1 : List Loc), post u → va_P D vwCl (gv_put ws is (wf u)) H1 → va_D A0 (gv_put ws is (wf u)) → va_S A0 H0 H1 locs1 → W p l e R s m args below meth c H1 locs1 (cells + mc) (slots + ms) Q (F0 m (pc + 3) ls rest)) : W p l e R s m args below meth c H locs cells slots Q (F0 m pc ls st0) := by
  refine vx_callv hr hS (fun q _ h => gv_inA hD is his q h) (gv_inA hD is his) (fun q _ h => gv_inA hD is his q h) (fun E ce q9 u t H1 locs1 ht hvm _ hB hz hk hS1 hc1 hc2 hc3 => ?_) (fun u t H1 locs1 ht hvm hw hB hz hk hS1 => ?_)
  · obtain ⟨hx, hB⟩ := hB
    rw [ht] at hB
    obtain ⟨h1, h2⟩ := gv_join is hP hD his rfl hk hB
    exact kx E ce q9 H1 locs1 hx h1 h2 hS1 hc1 hc2 hc3
  · rw [ht] at hB
    obtain ⟨h1, h2⟩ := gv_join is hP hD his (hwf u) hk hB
    exact kk u H1 locs1 hw h1 h2 hS1
theorem gx_ki {S : Type} {post : Int32 → S → Prop} {wf : S → va_W} (is : List Nat) (hwf : ∀ u, (wf u).map Prod.fst = wc.map Prod.fst) (hP : va_P D vwCl ws H) (hD : va_D A0 ws) (hS : va_S A0 H0 H locs) (his : is.map (fun i => ws[i]?) = wc.map some)
    (hr : vx_Run p l e R s m args below meth c H locs cells slots mc ms (F0 m pc ls st0) rest (va_Qi post (fun u t => va_P D vwCl (wf u) t.heap) (gv_in wc) a) (gx_X D wc xp (gv_in wc)) (gv_in wc))
    (kx : ∀ (E : String) (ce : Cell) (q9 : Addr) (H1 : Heap) (locs1 : List Loc), xp E → va_P D vwCl (gv_put ws is wc) H1 → va_D A0 (gv_put ws is wc) → va_S A0 H0 H1 locs1 → H1[q9]? = some ce → ce.vm = .none → s.vm.findClass E = some ce.cls → vx_W p l e R s m args below meth c H1 locs1 (cells + mc) (slots + ms) Q (F0 m pc ls rest) q9)
    (kk : ∀ (r : Int32) (u : S) (H1 : Heap) (locs1 : List Loc), post r u → va_P D vwCl (gv_put ws is (wf u)) H1 → va_D A0 (gv_put ws is (wf u)) → va_S A0 H0 H1 locs1 → W p l e R s m args below meth c H1 locs1 (cells + mc) (slots + ms) Q (F0 m (pc + 3) ls (.int r :: rest))) : W p l e R s m args below meth c H locs cells slots Q (F0 m pc ls st0) := by
  refine vx_calli hr hS (fun q _ h => gv_inA hD is his q h) (gv_inA hD is his) (fun q _ h => gv_inA hD is his q h) (fun E ce q9 u t H1 locs1 ht hvm _ hB hz hk hS1 hc1 hc2 hc3 => ?_) (fun r u t H1 locs1 ht hvm hw hB hz hk hS1 => ?_)
  · obtain ⟨hx, hB⟩ := hB
    rw [ht] at hB
    obtain ⟨h1, h2⟩ := gv_join is hP hD his rfl hk hB
    exact kx E ce q9 H1 locs1 hx h1 h2 hS1 hc1 hc2 hc3
  · rw [ht] at hB
    obtain ⟨h1, h2⟩ := gv_join is hP hD his (hwf u) hk hB
    exact kk r u H1 locs1 hw h1 h2 hS1
end GXC
-- what a walk of a method that throws is given
def gx_kt (p : Program) (l : Launch) (e : Env) (R : Room) (s : State) (m : MethodId) (args : Array Value) (below : List Frame) (meth : Method) (c : Code) (cc : ByteArray) (mc : Nat) (D : va_G) (wc : va_W) (A : Nat → Prop) (xp : String → Prop) (Q : State → Prop) : Prop :=
  ∀ (E : String) (ik is ic : Nat) (text : String) (H : Heap) (locs : List Loc) (pc : Nat) (ls : Array Slot) (cells slots : Nat), xp E → va_P D vwCl wc H → va_S A s.heap H locs → ls.size = c.maxLocals → cells + 1 ≤ mc → slots + 6 ≤ 6 * mc →
    Bundle.fit E = true → (Cond.classLink RX1 ik E).before args s = true → (Cond.initialized E).before args s = true → (is, text) ∈ gx_txt → (∀ w ∈ (vx_atS RX1 ic E gE_n).filter goodWord, w.before args s = true) → (∀ w ∈ (vx_atS RX1 ic E gE_n).filter (fun w => !goodWord w), w ∈ gx_ws) →
    (∀ w ∈ Cond.classLink RX1 ik E :: Cond.initialized E :: vx_atS RX1 ic E gE_n, vx_ot w = true) →
    decode cc pc = .ok (.new ik, 3) → decode cc (pc + 3) = .ok (.dup, 1) → decode cc (pc + 4) = .ok (.ldc is, 2) → decode cc (pc + 6) = .ok (.invokespecial ic, 3) → decode cc (pc + 9) = .ok (.athrow, 1) →
    W p l e R s m args below meth c H locs cells slots Q (F0 m pc ls [])
def gx_ko (p : Program) (l : Launch) (e : Env) (R : Room) (s : State) (m : MethodId) (args : Array Value) (below : List Frame) (meth : Method) (c : Code) (mc : Nat) (D : va_G) (wc : va_W) (A : Nat → Prop) (xp : String → Prop) (Q : State → Prop) : Prop :=
  ∀ (E : String) (ce : Cell) (q : Addr) (H : Heap) (locs : List Loc) (pc : Nat) (ls : Array Slot) (rest : List Value) (cells slots : Nat), cells ≤ mc → slots ≤ 6 * mc → xp E → va_P D vwCl wc H → va_S A s.heap H locs → H[q]? = some ce → ce.vm = .none → s.vm.findClass E = some ce.cls →
    vx_W p l e R s m args below meth c H locs cells slots Q (F0 m pc ls rest) q
theorem gx_Px {D : va_G} {wc : va_W} {A : Nat → Prop} {s t : State} {H : Heap} {locs : List Loc} {xp : String → Prop} {E : String} (hx : xp E) (hP : va_P D vwCl wc H) (hS : va_S A s.heap H locs) (h1 : H.size ≤ t.heap.size) (h2 : ∀ q : Nat, q < H.size → t.heap[q]? = H[q]?) : gx_X D wc xp A E s t :=
  ⟨(), trivial, ⟨hx, hP.kept (fun k x hk => h2 x.1 ((hP k x hk).lt))⟩, ⟨Nat.le_trans hS.1 h1, fun q g1 g2 => (h2 q (Nat.lt_of_lt_of_le g1 hS.1)).trans (hS.2.1 q g1 g2)⟩⟩
section GXO
variable {l : Launch} {y : MethodName} {wsy ws' : List Cond} {fr mc lo : Nat} {D : va_G} {tys : List (ClassId × FieldType)} {av : List Value} {wc : va_W} {S : Type} {wf : S → va_W} {cc : ByteArray} {maxL : Nat} {xp : String → Prop}
theorem gx_ofv {post : S → Prop} (hst : l.stackTraces = false) (hfr : 5 < fr) (hlo : 82 ≤ lo)
    (hy : plainName y.cls = true) (hw : wsy = Cond.code y cc maxL none :: ws') (hav : (lg_sl av).length ≤ maxL) (ho : y.cls = RX1)
    (body : ∀ (A : Nat → Prop) p e s m args below meth c Q (ls : Array Slot) (H : Heap) (locs : List Loc), p.tables.exec = Jvm.exec → c.code = cc → c.maxLocals = maxL → (∀ w ∈ wsy, w.before args s = true) → s.vm.findClass RX1 = some m.cls → va_P D vwCl wc H → va_K D vwCl tys s → va_D A wc → gv_N s → gx_T A s s.heap → va_S A s.heap H locs → lv_has ls maxL (lv_args 0 av) →
      (∀ (u : S) H locs pc ls cells slots, cells ≤ mc → slots ≤ 6 * mc → post u → va_P D vwCl (wf u) H → va_S A s.heap H locs → decode cc pc = .ok (.return_, 1) → W p l e (gx_R fr mc lo) s m args below meth c H locs cells slots Q (F0 m pc ls [])) →
      gx_kt p l e (gx_R fr mc lo) s m args below meth c cc mc D wc A xp Q → gx_ko p l e (gx_R fr mc lo) s m args below meth c mc D wc A xp Q →
      W p l e (gx_R fr mc lo) s m args below meth c H locs 0 0 Q (F0 m 0 ls [])) : gx_Mv l y wsy fr mc lo D tys av wc post wf xp := by
  intro A
  refine vx_ofW (cc := cc) (maxL := maxL) (ret := none) hy hw ?_
  intro p e s m args below meth c s₁ B hml hout hv
  obtain ⟨rfl, hP, hK, hD, hN, hX⟩ := hv
  have hlocks := B.notSynchronized
  have hl := lv_entry av (n := maxL) hav
  rw [lg_entry_eq]
  have hown : s.vm.findClass RX1 = some m.cls := ho ▸ findClass_of_methodNamed B.named
  refine body A p e s m _ below meth c _ _ _ _ B.exec B.bytes hml (atoms_spec (ws := wsy) B.pre) hown hP hK hD hN hX va_S.rf hl (fun u H locs pc ls cells slots hc hs hq hP hS hdg => ?_) ?_ ?_
  · refine W.widen (k := mc) (n := 6 * mc) hc hs ?_
    exact vx_ret (W.vret B.exec B.bytes B.returns (fun t ht hW => ⟨⟨u, rfl, hq, by show va_P D vwCl (wf u) t.heap; rw [ht]; exact hP⟩, hS.F ht⟩) hS.2.2 hdg)
  · intro E ik is ic text H locs pc ls cells slots hx hP hS hsz h1 h2 hfit hk hini htx hgw hbw hot d0 d3 d4 d6 d9
    obtain ⟨sa, hsa⟩ := hX.1 _ htx
    refine vx_throwS (cls := E) (own := RX1) (names := gE_n) (ik := ik) (is := is) (ic := ic) (text := text) (sa := sa) (A := A) B.exec B.bytes hst hown hfit (by decide) hk hini hsa (vx_hat hgw hbw hX.word) hot hX.2.2.2.2.1 hX.2.2.2.2.2 hS hsz d0 d3 d4 d6 d9 (fun x h => (hout x h).elim) hfr ?_ ?_ ?_ hlocks (fun t _ h1 h2 => gx_Px hx hP hS h1 h2) hS.2.2 h1 h2
    · show 0 + (13 * (2 + 1) + 43) ≤ lo
      omega
    · exact h1
    · exact h2
  · intro E ce q H locs pc ls rest cells slots h1 h2 hx hP hS hc1 hc2 hc3
    exact vx_out (fun x h => (hout x h).elim) hlocks hc1 hc2 hc3 (fun t ht _ => gx_Px hx hP hS (by rw [ht]; exact Nat.le_refl _) (fun q _ => by rw [ht])) hS.2.2 h1 h2
theorem gx_ofi {post : Int32 → S → Prop} (hst : l.stackTraces = false) (hfr : 5 < fr) (hlo : 82 ≤ lo)
    (hy : plainName y.cls = true) (hw : wsy = Cond.code y cc maxL (some .int) :: ws') (hav : (lg_sl av).length ≤ maxL) (ho : y.cls = RX1)
    (body : ∀ (A : Nat → Prop) p e s m args below meth c Q (ls : Array Slot) (H : Heap) (locs : List Loc), p.tables.exec = Jvm.exec → c.code = cc → c.maxLocals = maxL → (∀ w ∈ wsy, w.before args s = true) → s.vm.findClass RX1 = some m.cls → va_P D vwCl wc H → va_K D vwCl tys s → va_D A wc → gv_N s → gx_T A s s.heap → va_S A s.heap H locs → lv_has ls maxL (lv_args 0 av) →
      (∀ (v : Int32) (u : S) H locs pc ls cells slots, cells ≤ mc → slots ≤ 6 * mc → post v u → va_P D vwCl (wf u) H → va_S A s.heap H locs → decode cc pc = .ok (.ireturn, 1) → W p l e (gx_R fr mc lo) s m args below meth c H locs cells slots Q (F0 m pc ls [.int v])) →
      gx_kt p l e (gx_R fr mc lo) s m args below meth c cc mc D wc A xp Q → gx_ko p l e (gx_R fr mc lo) s m args below meth c mc D wc A xp Q →
      W p l e (gx_R fr mc lo) s m args below meth c H locs 0 0 Q (F0 m 0 ls [])) : gx_Mi l y wsy fr mc lo D tys av wc post wf xp := by
  intro A
  refine vx_ofW (cc := cc) (maxL := maxL) (ret := some .int) hy hw ?_
  intro p e s m args below meth c s₁ B hml hout hv
  obtain ⟨rfl, hP, hK, hD, hN, hX⟩ := hv
  have hlocks := B.notSynchronized
  have hl := lv_entry av (n := maxL) hav
  rw [lg_entry_eq]
  have hown : s.vm.findClass RX1 = some m.cls := ho ▸ findClass_of_methodNamed B.named
  refine body A p e s m _ below meth c _ _ _ _ B.exec B.bytes hml (atoms_spec (ws := wsy) B.pre) hown hP hK hD hN hX va_S.rf hl (fun v u H locs pc ls cells slots hc hs hq hP hS hdg => ?_) ?_ ?_
  · refine W.widen (k := mc) (n := 6 * mc) hc hs ?_
    exact vx_ret (W.iret (v := v) B.exec B.bytes B.returns (fun t ht hW => ⟨⟨v, u, rfl, hq, by show va_P D vwCl (wf u) t.heap; rw [ht]; exact hP⟩, hS.F ht⟩) hS.2.2 hdg)
  · intro E ik is ic text H locs pc ls cells slots hx hP hS hsz h1 h2 hfit hk hini htx hgw hbw hot d0 d3 d4 d6 d9
    obtain ⟨sa, hsa⟩ := hX.1 _ htx
    refine vx_throwS (cls := E) (own := RX1) (names := gE_n) (ik := ik) (is := is) (ic := ic) (text := text) (sa := sa) (A := A) B.exec B.bytes hst hown hfit (by decide) hk hini hsa (vx_hat hgw hbw hX.word) hot hX.2.2.2.2.1 hX.2.2.2.2.2 hS hsz d0 d3 d4 d6 d9 (fun x h => (hout x h).elim) hfr ?_ ?_ ?_ hlocks (fun t _ h1 h2 => gx_Px hx hP hS h1 h2) hS.2.2 h1 h2
    · show 0 + (13 * (2 + 1) + 43) ≤ lo
      omega
    · exact h1
    · exact h2
  · intro E ce q H locs pc ls rest cells slots h1 h2 hx hP hS hc1 hc2 hc3
    exact vx_out (fun x h => (hout x h).elim) hlocks hc1 hc2 hc3 (fun t ht _ => gx_Px hx hP hS (by rw [ht]; exact Nat.le_refl _) (fun q _ => by rw [ht])) hS.2.2 h1 h2
theorem gx_ofz {post : Int32 → S → Prop} {ty : FieldType} (hst : l.stackTraces = false) (hfr : 5 < fr) (hlo : 82 ≤ lo)
    (hy : plainName y.cls = true) (hw : wsy = Cond.code y cc maxL (some ty) :: ws') (hav : (lg_sl av).length ≤ maxL) (ho : y.cls = RX1)
    (body : ∀ (A : Nat → Prop) p e s m args below meth c Q (ls : Array Slot) (H : Heap) (locs : List Loc), p.tables.exec = Jvm.exec → c.code = cc → c.maxLocals = maxL → (∀ w ∈ wsy, w.before args s = true) → s.vm.findClass RX1 = some m.cls → va_P D vwCl wc H → va_K D vwCl tys s → va_D A wc → gv_N s → gx_T A s s.heap → va_S A s.heap H locs → lv_has ls maxL (lv_args 0 av) →
      (∀ (v : Int32) (u : S) H locs pc ls cells slots, cells ≤ mc → slots ≤ 6 * mc → narrow ty (.int v) = .int v → post v u → va_P D vwCl (wf u) H → va_S A s.heap H locs → decode cc pc = .ok (.ireturn, 1) → W p l e (gx_R fr mc lo) s m args below meth c H locs cells slots Q (F0 m pc ls [.int v])) →
      gx_kt p l e (gx_R fr mc lo) s m args below meth c cc mc D wc A xp Q → gx_ko p l e (gx_R fr mc lo) s m args below meth c mc D wc A xp Q →
      W p l e (gx_R fr mc lo) s m args below meth c H locs 0 0 Q (F0 m 0 ls [])) : gx_Mi l y wsy fr mc lo D tys av wc post wf xp := by
  intro A
  refine vx_ofW (cc := cc) (maxL := maxL) (ret := some ty) hy hw ?_
  intro p e s m args below meth c s₁ B hml hout hv
  obtain ⟨rfl, hP, hK, hD, hN, hX⟩ := hv
  have hlocks := B.notSynchronized
  have hl := lv_entry av (n := maxL) hav
  rw [lg_entry_eq]
  have hown : s.vm.findClass RX1 = some m.cls := ho ▸ findClass_of_methodNamed B.named
  refine body A p e s m _ below meth c _ _ _ _ B.exec B.bytes hml (atoms_spec (ws := wsy) B.pre) hown hP hK hD hN hX va_S.rf hl (fun v u H locs pc ls cells slots hc hs hn hq hP hS hdg => ?_) ?_ ?_
  · refine W.widen (k := mc) (n := 6 * mc) hc hs ?_
    exact vx_ret (W.zret (v := v) B.exec B.bytes B.returns hn (fun t ht hW => ⟨⟨v, u, rfl, hq, by show va_P D vwCl (wf u) t.heap; rw [ht]; exact hP⟩, hS.F ht⟩) hS.2.2 hdg)
  · intro E ik is ic text H locs pc ls cells slots hx hP hS hsz h1 h2 hfit hk hini htx hgw hbw hot d0 d3 d4 d6 d9
    obtain ⟨sa, hsa⟩ := hX.1 _ htx
    refine vx_throwS (cls := E) (own := RX1) (names := gE_n) (ik := ik) (is := is) (ic := ic) (text := text) (sa := sa) (A := A) B.exec B.bytes hst hown hfit (by decide) hk hini hsa (vx_hat hgw hbw hX.word) hot hX.2.2.2.2.1 hX.2.2.2.2.2 hS hsz d0 d3 d4 d6 d9 (fun x h => (hout x h).elim) hfr ?_ ?_ ?_ hlocks (fun t _ h1 h2 => gx_Px hx hP hS h1 h2) hS.2.2 h1 h2
    · show 0 + (13 * (2 + 1) + 43) ≤ lo
      omega
    · exact h1
    · exact h2
  · intro E ce q H locs pc ls rest cells slots h1 h2 hx hP hS hc1 hc2 hc3
    exact vx_out (fun x h => (hout x h).elim) hlocks hc1 hc2 hc3 (fun t ht _ => gx_Px hx hP hS (by rw [ht]; exact Nat.le_refl _) (fun q _ => by rw [ht])) hS.2.2 h1 h2
end GXO
end
section
def spX1_requireColumn (w0 : Nat) : Unit := ()
theorem spX1_requireColumn_e (w0 : Nat) : spX1_requireColumn w0 = () := rfl
set_option maxHeartbeats 4000000 in
set_option maxRecDepth 100000 in
theorem kX1_requireColumn (l : Launch) (dC : Nat → ClassId) (dI : Nat → Nat → Nat) (cI cL : ClassId)   (p0 : Int32) (w0 : Nat) (hw0 : p0 = nI w0) (hy0 : w0 < 12) : gv_Mv l yX1_requireColumn wsX1_requireColumn 0 0 (dC, dI) [(cI, .int), (cL, .long)] [.int p0] ([] : va_W) (fun (_ : Unit) => True) (fun (_ : Unit) => ([] : va_W)) := by
  subst hw0
  refine gv_ofv (cc := cX1_requireColumn) (maxL := 1) (own := RX1) (by decide) rfl (Nat.le_of_ble_eq_true rfl) rfl ?_
  intro A p e s m args below meth c Q ls H locs hx hb hml hts hown hP hK hD hN hS hl kr
  have hl : lv_has ls 1 [(0, .int (nI w0))] := hl
  have he := (spX1_requireColumn_e w0).symm
  refine lv_iload_n hx hb dX1_requireColumn_0 rfl (lv_at hl 0 rfl) ?_
  refine lv_if_lt (tgt := 10) hx hb dX1_requireColumn_1 (by decide) (fun c => absurd c (nI_pos (by omega))) (fun _ => ?_)
  refine lv_iload_n hx hb dX1_requireColumn_4 rfl (lv_at hl 0 rfl) ?_
  refine lv_bipush (v := 12) hx hb dX1_requireColumn_5 (by decide) ?_
  refine lv_icmp_lt (tgt := 20) hx hb dX1_requireColumn_7 (by decide) (fun _ => ?_) (fun c => absurd (nI_lt (b := 12) hy0 (by decide)) c)
  exact kr () _ _ _ _ trivial hP hS dX1_requireColumn_20
def spX1_requireCell (w0 : Nat) (w1 : Nat) : Unit := gv_b (spX1_isCell (nI w0) (nI w1)) (fun q2 => ())
theorem spX1_requireCell_e (w0 : Nat) (w1 : Nat) : spX1_requireCell w0 w1 = gv_b (spX1_isCell (nI w0) (nI w1)) (fun q2 => ()) := rfl
set_option maxHeartbeats 4000000 in
set_option maxRecDepth 100000 in
theorem kX1_requireCell (l : Launch) (dC : Nat → ClassId) (dI : Nat → Nat → Nat) (cI cL : ClassId)   (p0 : Int32) (w0 : Nat) (hw0 : p0 = nI w0) (p1 : Int32) (w1 : Nat) (hw1 : p1 = nI w1) (hy0 : w0 < 8) (hy1 : w1 < 12) : gv_Mv l yX1_requireCell wsX1_requireCell 1 21 (dC, dI) [(cI, .int), (cL, .long)] [.int p0, .int p1] ([] : va_W) (fun (_ : Unit) => True) (fun (_ : Unit) => ([] : va_W)) := by
  subst hw0
  subst hw1
  refine gv_ofv (cc := cX1_requireCell) (maxL := 2) (own := RX1) (by decide) rfl (Nat.le_of_ble_eq_true rfl) rfl ?_
  intro A p e s m args below meth c Q ls H locs hx hb hml hts hown hP hK hD hN hS hl kr
  have hl : lv_has ls 2 [(0, .int (nI w0)), (1, .int (nI w1))] := hl
  have he := (spX1_requireCell_e w0 w1).symm
  refine lv_iload_n hx hb dX1_requireCell_0 rfl (lv_at hl 0 rfl) ?_
  refine lv_iload_n hx hb dX1_requireCell_1 rfl (lv_at hl 1 rfl) ?_
  have hPc : va_P (dC, dI) vwCl ([] : va_W) H := gv_P0
  have hDc : va_D (gv_in ([] : va_W)) ([] : va_W) := gv_D0
  refine gv_ki (wf := (fun (_ : Unit) => ([] : va_W))) (wc := ([] : va_W)) [] (fun _ => rfl) hP hD hS rfl rfl (va_runS (As := [.int (nI w0), .int (nI w1)]) (rest := []) ⟨hx, hb, hml, hown, hts⟩ (kX1_isCell l dC dI cI cL (nI w0) (nI w1) (gv_in ([] : va_W))) (va_cwS (rm := gv_R 0 0) 2 hts gX1_requireCell_X1_isCell rfl rfl rfl (by decide +kernel) ⟨Nat.le_of_ble_eq_true rfl, Nat.le_of_ble_eq_true rfl⟩) (gv_preS hK hPc hDc hN) rfl rfl hl.1 rfl (lv_room (Nat.le_of_ble_eq_true rfl)) dX1_requireCell_2 ⟨Nat.zero_le _, Nat.zero_le _⟩) (fun q2 u H locs hw hP hD hS => ?_)
  have he := gv_q hw he
  have hP : va_P (dC, dI) vwCl ([] : va_W) H := hP
  have hD : va_D A ([] : va_W) := hD
  refine lv_if_ne (tgt := 18) hx hb dX1_requireCell_5 (by decide) (fun _ => ?_) (fun c => absurd c (by rw [hw, mc_isCell hy0 hy1]; decide))
  exact kr () _ _ _ _ trivial hP hS dX1_requireCell_18
def spX1_sides (f0 : Nat → Int32) (c0 : Nat → Int32) (f1 : Nat → Int32) (c1 : Nat → Int32) (f2 : Nat → Int32) (c2 : Nat → Int32) (lo : Nat → Int64) (up : Nat → Int64) (be : Nat → Int32) (si : Int32) (pl : Int32) (cu : Int32) (ge : Int32) (fa : Int32) (p1 : Int32) : (Int32) := (if p1 = 0 then p1 else (if p1 = 1 then p1 else p1))
theorem spX1_sides_e (f0 : Nat → Int32) (c0 : Nat → Int32) (f1 : Nat → Int32) (c1 : Nat → Int32) (f2 : Nat → Int32) (c2 : Nat → Int32) (lo : Nat → Int64) (up : Nat → Int64) (be : Nat → Int32) (si : Int32) (pl : Int32) (cu : Int32) (ge : Int32) (fa : Int32) (p1 : Int32) : spX1_sides f0 c0 f1 c1 f2 c2 lo up be si pl cu ge fa p1 = (if p1 = 0 then p1 else (if p1 = 1 then p1 else p1)) := rfl
set_option maxHeartbeats 4000000 in
set_option maxRecDepth 100000 in
theorem kX1_sides (l : Launch) (dC : Nat → ClassId) (dI : Nat → Nat → Nat) (cI cL : ClassId) (ad : Nat → Nat) (f0 : Nat → Int32) (c0 : Nat → Int32) (f1 : Nat → Int32) (c1 : Nat → Int32) (f2 : Nat → Int32) (c2 : Nat → Int32) (lo : Nat → Int64) (up : Nat → Int64) (be : Nat → Int32) (si : Int32) (pl : Int32) (cu : Int32) (ge : Int32) (fa : Int32) (p1 : Int32) (hy0 : p1 = 0 ∨ p1 = 1 ∨ p1 = 2) (hy1 : ge ≤ 0) : gv_Mv l yX1_sides wsX1_sides 0 0 (dC, dI) [(cI, .int), (cL, .long)] [.ref (ad 0), .int p1] (gv_V cI cL ad f0 c0 f1 c1 f2 c2 lo up be si pl cu ge fa) (fun (u : (Int32)) => u = spX1_sides f0 c0 f1 c1 f2 c2 lo up be si pl cu ge fa p1) (fun (u : (Int32)) => (gv_V cI cL ad f0 c0 f1 c1 f2 c2 lo up be u pl cu ge fa)) := by
  refine gv_ofv (cc := cX1_sides) (maxL := 2) (own := RX1) (by decide) rfl (Nat.le_of_ble_eq_true rfl) rfl ?_
  intro A p e s m args below meth c Q ls H locs hx hb hml hts hown hP hK hD hN hS hl kr
  have inX1 : ∀ w ∈ wsX10, w ∈ wsX1_sides := (fun _ h => List.mem_cons_of_mem _ (List.mem_append_left _ (List.mem_append_left _ (List.mem_append_right _ h))))
  have hl : lv_has ls 2 [(0, .ref (ad 0)), (1, .int p1)] := hl
  have he := (spX1_sides_e f0 c0 f1 c1 f2 c2 lo up be si pl cu ge fa p1).symm
  refine lv_iload_n hx hb dX1_sides_0 rfl (lv_at hl 1 rfl) ?_
  refine lv_if_eq (tgt := 24) hx hb dX1_sides_1 (by decide) (fun cd1 => ?_) (fun cd1 => ?_)
  · have he := gv_t cd1 he
    refine lv_aload_n hx hb dX1_sides_24 rfl (lv_at hl 0 rfl) ?_
    refine va_get (D := (dC, dI)) (ci := 1) (v := .int ge) (C := RX1) (T := TX1) (N := 11) hx hb hts inX1 hown hK hP 0 rfl rfl 9 (by decide) (hts (.fieldLink RX1 43 "VineWall" "generationsGone" "I") (List.mem_of_getElem? (i := 5) rfl)) (fun _ h9 => h9) rfl dX1_sides_25 ?_
    refine lv_if_le (tgt := 41) hx hb dX1_sides_28 (by decide) (fun _ => ?_) (fun c => absurd hy1 c)
    refine lv_aload_n hx hb dX1_sides_41 rfl (lv_at hl 0 rfl) ?_
    refine lv_iload_n hx hb dX1_sides_42 rfl (lv_at hl 1 rfl) ?_
    refine va_put (D := (dC, dI)) (ci := 1) (v := .int p1) (ty := .int) (C := RX1) (T := TX1) (N := 11) hx hb hts inX1 tyX1 tyX1_ok nmX1 hown hK hP hD hS 0 rfl rfl 6 (by decide) (hts (.fieldLink RX1 33 "VineWall" "beyond" "I") (List.mem_of_getElem? (i := 6) rfl)) (fun _ h9 => h9) rfl (by decide +kernel) rfl rfl (Nat.le_of_ble_eq_true rfl) dX1_sides_43 (fun H locs hP hD hS => ?_)
    have hP : va_P (dC, dI) vwCl (gv_V cI cL ad f0 c0 f1 c1 f2 c2 lo up be p1 pl cu ge fa) H := hP
    have hD : va_D A (gv_V cI cL ad f0 c0 f1 c1 f2 c2 lo up be p1 pl cu ge fa) := hD
    exact kr p1 _ _ _ _ he hP hS dX1_sides_46
  · have he := gv_f cd1 he
    refine lv_iload_n hx hb dX1_sides_4 rfl (lv_at hl 1 rfl) ?_
    refine lv_iconst (v := 1) hx hb dX1_sides_5 (by decide) ?_
    refine lv_icmp_eq (tgt := 24) hx hb dX1_sides_6 (by decide) (fun cd6 => ?_) (fun cd6 => ?_)
    · have he := gv_t cd6 he
      refine lv_aload_n hx hb dX1_sides_24 rfl (lv_at hl 0 rfl) ?_
      refine va_get (D := (dC, dI)) (ci := 1) (v := .int ge) (C := RX1) (T := TX1) (N := 11) hx hb hts inX1 hown hK hP 0 rfl rfl 9 (by decide) (hts (.fieldLink RX1 43 "VineWall" "generationsGone" "I") (List.mem_of_getElem? (i := 5) rfl)) (fun _ h9 => h9) rfl dX1_sides_25 ?_
      refine lv_if_le (tgt := 41) hx hb dX1_sides_28 (by decide) (fun _ => ?_) (fun c => absurd hy1 c)
      refine lv_aload_n hx hb dX1_sides_41 rfl (lv_at hl 0 rfl) ?_
      refine lv_iload_n hx hb dX1_sides_42 rfl (lv_at hl 1 rfl) ?_
      refine va_put (D := (dC, dI)) (ci := 1) (v := .int p1) (ty := .int) (C := RX1) (T := TX1) (N := 11) hx hb hts inX1 tyX1 tyX1_ok nmX1 hown hK hP hD hS 0 rfl rfl 6 (by decide) (hts (.fieldLink RX1 33 "VineWall" "beyond" "I") (List.mem_of_getElem? (i := 6) rfl)) (fun _ h9 => h9) rfl (by decide +kernel) rfl rfl (Nat.le_of_ble_eq_true rfl) dX1_sides_43 (fun H locs hP hD hS => ?_)
      have hP : va_P (dC, dI) vwCl (gv_V cI cL ad f0 c0 f1 c1 f2 c2 lo up be p1 pl cu ge fa) H := hP
      have hD : va_D A (gv_V cI cL ad f0 c0 f1 c1 f2 c2 lo up be p1 pl cu ge fa) := hD
      exact kr p1 _ _ _ _ he hP hS dX1_sides_46
    · have he := gv_f cd6 he
      refine lv_iload_n hx hb dX1_sides_9 rfl (lv_at hl 1 rfl) ?_
      refine lv_iconst (v := 2) hx hb dX1_sides_10 (by decide) ?_
      refine lv_icmp_eq (tgt := 24) hx hb dX1_sides_11 (by decide) (fun _ => ?_) (fun c => absurd ((hy0.resolve_left cd1).resolve_left cd6) c)
      refine lv_aload_n hx hb dX1_sides_24 rfl (lv_at hl 0 rfl) ?_
      refine va_get (D := (dC, dI)) (ci := 1) (v := .int ge) (C := RX1) (T := TX1) (N := 11) hx hb hts inX1 hown hK hP 0 rfl rfl 9 (by decide) (hts (.fieldLink RX1 43 "VineWall" "generationsGone" "I") (List.mem_of_getElem? (i := 5) rfl)) (fun _ h9 => h9) rfl dX1_sides_25 ?_
      refine lv_if_le (tgt := 41) hx hb dX1_sides_28 (by decide) (fun _ => ?_) (fun c => absurd hy1 c)
      refine lv_aload_n hx hb dX1_sides_41 rfl (lv_at hl 0 rfl) ?_
      refine lv_iload_n hx hb dX1_sides_42 rfl (lv_at hl 1 rfl) ?_
      refine va_put (D := (dC, dI)) (ci := 1) (v := .int p1) (ty := .int) (C := RX1) (T := TX1) (N := 11) hx hb hts inX1 tyX1 tyX1_ok nmX1 hown hK hP hD hS 0 rfl rfl 6 (by decide) (hts (.fieldLink RX1 33 "VineWall" "beyond" "I") (List.mem_of_getElem? (i := 6) rfl)) (fun _ h9 => h9) rfl (by decide +kernel) rfl rfl (Nat.le_of_ble_eq_true rfl) dX1_sides_43 (fun H locs hP hD hS => ?_)
      have hP : va_P (dC, dI) vwCl (gv_V cI cL ad f0 c0 f1 c1 f2 c2 lo up be p1 pl cu ge fa) H := hP
      have hD : va_D A (gv_V cI cL ad f0 c0 f1 c1 f2 c2 lo up be p1 pl cu ge fa) := hD
      exact kr p1 _ _ _ _ he hP hS dX1_sides_46
def spX1_plant (f0 : Nat → Int32) (c0 : Nat → Int32) (f1 : Nat → Int32) (c1 : Nat → Int32) (f2 : Nat → Int32) (c2 : Nat → Int32) (lo : Nat → Int64) (up : Nat → Int64) (be : Nat → Int32) (si : Int32) (pl : Int32) (cu : Int32) (ge : Int32) (fa : Int32) (w1 : Nat) : (Nat → Int32) × (Int32) := gv_b (spX0_isBareAt f0 c0 0 (nI w1)) (fun q10 => gv_b (spX0_putLeaf f0 c0 0 (nI w1)) (fun f_q50 => (f_q50, pl + 1)))
theorem spX1_plant_e (f0 : Nat → Int32) (c0 : Nat → Int32) (f1 : Nat → Int32) (c1 : Nat → Int32) (f2 : Nat → Int32) (c2 : Nat → Int32) (lo : Nat → Int64) (up : Nat → Int64) (be : Nat → Int32) (si : Int32) (pl : Int32) (cu : Int32) (ge : Int32) (fa : Int32) (w1 : Nat) : spX1_plant f0 c0 f1 c1 f2 c2 lo up be si pl cu ge fa w1 = gv_b (spX0_isBareAt f0 c0 0 (nI w1)) (fun q10 => gv_b (spX0_putLeaf f0 c0 0 (nI w1)) (fun f_q50 => (f_q50, pl + 1))) := rfl
set_option maxHeartbeats 4000000 in
set_option maxRecDepth 100000 in
theorem kX1_plant (l : Launch) (dC : Nat → ClassId) (dI : Nat → Nat → Nat) (cI cL : ClassId) (ad : Nat → Nat) (f0 : Nat → Int32) (c0 : Nat → Int32) (f1 : Nat → Int32) (c1 : Nat → Int32) (f2 : Nat → Int32) (c2 : Nat → Int32) (lo : Nat → Int64) (up : Nat → Int64) (be : Nat → Int32) (si : Int32) (pl : Int32) (cu : Int32) (ge : Int32) (fa : Int32) (p1 : Int32) (w1 : Nat) (hw1 : p1 = nI w1) (hy0 : w1 < 12) (hy1 : spX0_isBareAt f0 c0 0 (nI w1) = 1) (hy2 : pl < 4) : gv_Mv l yX1_plant wsX1_plant 3 65 (dC, dI) [(cI, .int), (cL, .long)] [.ref (ad 0), .int p1] (gv_V cI cL ad f0 c0 f1 c1 f2 c2 lo up be si pl cu ge fa) (fun (u : (Nat → Int32) × (Int32)) => u = spX1_plant f0 c0 f1 c1 f2 c2 lo up be si pl cu ge fa w1) (fun (u : (Nat → Int32) × (Int32)) => (gv_V cI cL ad u.1 c0 f1 c1 f2 c2 lo up be si u.2 cu ge fa)) := by
  subst hw1
  refine gv_ofv (cc := cX1_plant) (maxL := 2) (own := RX1) (by decide) rfl (Nat.le_of_ble_eq_true rfl) rfl ?_
  intro A p e s m args below meth c Q ls H locs hx hb hml hts hown hP hK hD hN hS hl kr
  have inX0 : ∀ w ∈ wsX00, w ∈ wsX1_plant := (fun _ h => List.mem_cons_of_mem _ (List.mem_append_left _ (List.mem_append_left _ (List.mem_append_right _ h))))
  have inX1 : ∀ w ∈ wsX10, w ∈ wsX1_plant := (fun _ h => List.mem_cons_of_mem _ (List.mem_append_left _ (List.mem_append_left _ (List.mem_append_left _ (List.mem_append_right _ h)))))
  have hl : lv_has ls 2 [(0, .ref (ad 0)), (1, .int (nI w1))] := hl
  have he := (spX1_plant_e f0 c0 f1 c1 f2 c2 lo up be si pl cu ge fa w1).symm
  refine lv_iload_n hx hb dX1_plant_0 rfl (lv_at hl 1 rfl) ?_
  have hPc : va_P (dC, dI) vwCl ([] : va_W) H := gv_P0
  have hDc : va_D (gv_in ([] : va_W)) ([] : va_W) := gv_D0
  refine gv_kv (wf := (fun (_ : Unit) => ([] : va_W))) (wc := ([] : va_W)) [] (fun _ => rfl) hP hD hS rfl rfl (va_runS (As := [.int (nI w1)]) (rest := []) ⟨hx, hb, hml, hown, hts⟩ (kX1_requireColumn l dC dI cI cL (nI w1) w1 rfl (by omega) (gv_in ([] : va_W))) (va_cwS (rm := gv_R 0 0) 1 hts gX1_plant_X1_requireColumn rfl rfl rfl (by decide +kernel) ⟨Nat.le_of_ble_eq_true rfl, Nat.le_of_ble_eq_true rfl⟩) (gv_preS hK hPc hDc hN) rfl rfl hl.1 rfl (lv_room (Nat.le_of_ble_eq_true rfl)) dX1_plant_1 ⟨Nat.zero_le _, Nat.zero_le _⟩) (fun u H locs hw hP hD hS => ?_)
  have hP : va_P (dC, dI) vwCl (gv_V cI cL ad f0 c0 f1 c1 f2 c2 lo up be si pl cu ge fa) H := hP
  have hD : va_D A (gv_V cI cL ad f0 c0 f1 c1 f2 c2 lo up be si pl cu ge fa) := hD
  refine lv_aload_n hx hb dX1_plant_4 rfl (lv_at hl 0 rfl) ?_
  refine va_get (D := (dC, dI)) (ci := 1) (v := .ref (ad 1)) (C := RX1) (T := TX1) (N := 11) hx hb hts inX1 hown hK hP 0 rfl rfl 0 (by decide) (hts (.fieldLink RX1 10 "VineWall" "wall" "LVineWall$Wall;") (List.mem_of_getElem? (i := 3) rfl)) (fun _ h9 => h9) rfl dX1_plant_5 ?_
  refine lv_iconst (v := 0) hx hb dX1_plant_8 (by decide) ?_
  refine lv_iload_n hx hb dX1_plant_9 rfl (lv_at hl 1 rfl) ?_
  have hPc : va_P (dC, dI) vwCl (gv_W cI (ad 1) (ad 2) (ad 3) f0 c0) H := gv_sub [1, 2, 3] hP rfl
  have hDc : va_D (gv_in (gv_W cI (ad 1) (ad 2) (ad 3) f0 c0)) (gv_W cI (ad 1) (ad 2) (ad 3) f0 c0) := gv_D hD [1, 2, 3] (by decide) rfl
  refine gv_ki (wf := (fun (_ : Unit) => (gv_W cI (ad 1) (ad 2) (ad 3) f0 c0))) (wc := (gv_W cI (ad 1) (ad 2) (ad 3) f0 c0)) [1, 2, 3] (fun _ => rfl) hP hD hS rfl rfl (va_runV (As := [.int 0, .int (nI w1)]) (rest := []) ⟨hx, hb, hml, hown, hts⟩ (kX0_isBareAt l dC dI cI cL (ad 1) (ad 2) (ad 3) f0 c0 0 (nI w1) (gv_in (gv_W cI (ad 1) (ad 2) (ad 3) f0 c0))) (cwV (rm := gv_R 2 43) 2 hts gX1_plant_X0_isBareAt rfl rfl rfl (by decide +kernel) ⟨Nat.le_of_ble_eq_true rfl, Nat.le_of_ble_eq_true rfl⟩) (gv_preV (ci := 0) hK hPc hDc hN rfl rfl) rfl rfl hl.1 rfl (lv_room (Nat.le_of_ble_eq_true rfl)) dX1_plant_10 ⟨Nat.zero_le _, Nat.zero_le _⟩) (fun q10 u H locs hw hP hD hS => ?_)
  have he := gv_q hw he
  have hP : va_P (dC, dI) vwCl (gv_V cI cL ad f0 c0 f1 c1 f2 c2 lo up be si pl cu ge fa) H := hP
  have hD : va_D A (gv_V cI cL ad f0 c0 f1 c1 f2 c2 lo up be si pl cu ge fa) := hD
  refine lv_if_ne (tgt := 26) hx hb dX1_plant_13 (by decide) (fun _ => ?_) (fun c => absurd c (by rw [hw, hy1]; decide))
  refine lv_aload_n hx hb dX1_plant_26 rfl (lv_at hl 0 rfl) ?_
  refine va_get (D := (dC, dI)) (ci := 1) (v := .int pl) (C := RX1) (T := TX1) (N := 11) hx hb hts inX1 hown hK hP 0 rfl rfl 7 (by decide) (hts (.fieldLink RX1 37 "VineWall" "planted" "I") (List.mem_of_getElem? (i := 4) rfl)) (fun _ h9 => h9) rfl dX1_plant_27 ?_
  refine lv_iconst (v := 4) hx hb dX1_plant_30 (by decide) ?_
  refine lv_icmp_lt (tgt := 44) hx hb dX1_plant_31 (by decide) (fun _ => ?_) (fun c => absurd hy2 c)
  refine lv_aload_n hx hb dX1_plant_44 rfl (lv_at hl 0 rfl) ?_
  refine va_get (D := (dC, dI)) (ci := 1) (v := .ref (ad 1)) (C := RX1) (T := TX1) (N := 11) hx hb hts inX1 hown hK hP 0 rfl rfl 0 (by decide) (hts (.fieldLink RX1 10 "VineWall" "wall" "LVineWall$Wall;") (List.mem_of_getElem? (i := 3) rfl)) (fun _ h9 => h9) rfl dX1_plant_45 ?_
  refine lv_iconst (v := 0) hx hb dX1_plant_48 (by decide) ?_
  refine lv_iload_n hx hb dX1_plant_49 rfl (lv_at hl 1 rfl) ?_
  have hPc : va_P (dC, dI) vwCl (gv_W cI (ad 1) (ad 2) (ad 3) f0 c0) H := gv_sub [1, 2, 3] hP rfl
  have hDc : va_D (gv_in (gv_W cI (ad 1) (ad 2) (ad 3) f0 c0)) (gv_W cI (ad 1) (ad 2) (ad 3) f0 c0) := gv_D hD [1, 2, 3] (by decide) rfl
  refine gv_kv (wf := (fun (u : (Nat → Int32)) => (gv_W cI (ad 1) (ad 2) (ad 3) u c0))) (wc := (gv_W cI (ad 1) (ad 2) (ad 3) f0 c0)) [1, 2, 3] (fun _ => rfl) hP hD hS rfl rfl (va_runV (As := [.int 0, .int (nI w1)]) (rest := []) ⟨hx, hb, hml, hown, hts⟩ (kX0_putLeaf l dC dI cI cL (ad 1) (ad 2) (ad 3) f0 c0 0 (nI w1) (gv_in (gv_W cI (ad 1) (ad 2) (ad 3) f0 c0))) (cwV (rm := gv_R 1 21) 2 hts gX1_plant_X0_putLeaf rfl rfl rfl (by decide +kernel) ⟨Nat.le_of_ble_eq_true rfl, Nat.le_of_ble_eq_true rfl⟩) (gv_preV (ci := 0) hK hPc hDc hN rfl rfl) rfl rfl hl.1 rfl (lv_room (Nat.le_of_ble_eq_true rfl)) dX1_plant_50 ⟨Nat.zero_le _, Nat.zero_le _⟩) (fun u H locs hw hP hD hS => ?_)
  obtain ⟨f_q50, rfl⟩ : ∃ z, z = u := ⟨_, rfl⟩
  have he := gv_q hw he
  have hP : va_P (dC, dI) vwCl (gv_V cI cL ad f_q50 c0 f1 c1 f2 c2 lo up be si pl cu ge fa) H := hP
  have hD : va_D A (gv_V cI cL ad f_q50 c0 f1 c1 f2 c2 lo up be si pl cu ge fa) := hD
  refine lv_aload_n hx hb dX1_plant_53 rfl (lv_at hl 0 rfl) ?_
  refine lv_dup hx hb dX1_plant_54 rfl ?_
  refine va_get (D := (dC, dI)) (ci := 1) (v := .int pl) (C := RX1) (T := TX1) (N := 11) hx hb hts inX1 hown hK hP 0 rfl rfl 7 (by decide) (hts (.fieldLink RX1 37 "VineWall" "planted" "I") (List.mem_of_getElem? (i := 4) rfl)) (fun _ h9 => h9) rfl dX1_plant_55 ?_
  refine lv_iconst (v := 1) hx hb dX1_plant_58 (by decide) ?_
  refine lv_iadd hx hb dX1_plant_59 ?_
  refine va_put (D := (dC, dI)) (ci := 1) (v := .int (pl + 1)) (ty := .int) (C := RX1) (T := TX1) (N := 11) hx hb hts inX1 tyX1 tyX1_ok nmX1 hown hK hP hD hS 0 rfl rfl 7 (by decide) (hts (.fieldLink RX1 37 "VineWall" "planted" "I") (List.mem_of_getElem? (i := 4) rfl)) (fun _ h9 => h9) rfl (by decide +kernel) rfl rfl (Nat.le_of_ble_eq_true rfl) dX1_plant_60 (fun H locs hP hD hS => ?_)
  have hP : va_P (dC, dI) vwCl (gv_V cI cL ad f_q50 c0 f1 c1 f2 c2 lo up be si (pl + 1) cu ge fa) H := hP
  have hD : va_D A (gv_V cI cL ad f_q50 c0 f1 c1 f2 c2 lo up be si (pl + 1) cu ge fa) := hD
  exact kr (f_q50, pl + 1) _ _ _ _ he hP hS dX1_plant_63
def spX1_trellis (f0 : Nat → Int32) (c0 : Nat → Int32) (f1 : Nat → Int32) (c1 : Nat → Int32) (f2 : Nat → Int32) (c2 : Nat → Int32) (lo : Nat → Int64) (up : Nat → Int64) (be : Nat → Int32) (si : Int32) (pl : Int32) (cu : Int32) (ge : Int32) (fa : Int32) (w1 : Nat) (w2 : Nat) : Int32 × (Nat → Int32) := (be w1, upd be w1 (nI w2))
theorem spX1_trellis_e (f0 : Nat → Int32) (c0 : Nat → Int32) (f1 : Nat → Int32) (c1 : Nat → Int32) (f2 : Nat → Int32) (c2 : Nat → Int32) (lo : Nat → Int64) (up : Nat → Int64) (be : Nat → Int32) (si : Int32) (pl : Int32) (cu : Int32) (ge : Int32) (fa : Int32) (w1 : Nat) (w2 : Nat) : spX1_trellis f0 c0 f1 c1 f2 c2 lo up be si pl cu ge fa w1 w2 = (be w1, upd be w1 (nI w2)) := rfl
set_option maxHeartbeats 4000000 in
set_option maxRecDepth 100000 in
theorem kX1_trellis (l : Launch) (dC : Nat → ClassId) (dI : Nat → Nat → Nat) (cI cL : ClassId) (ad : Nat → Nat) (f0 : Nat → Int32) (c0 : Nat → Int32) (f1 : Nat → Int32) (c1 : Nat → Int32) (f2 : Nat → Int32) (c2 : Nat → Int32) (lo : Nat → Int64) (up : Nat → Int64) (be : Nat → Int32) (si : Int32) (pl : Int32) (cu : Int32) (ge : Int32) (fa : Int32) (p1 : Int32) (w1 : Nat) (hw1 : p1 = nI w1) (p2 : Int32) (w2 : Nat) (hw2 : p2 = nI w2) (hy0 : w1 < 12) (hy1 : 1 ≤ w2) (hy2 : w2 ≤ 8) : gv_Mi l yX1_trellis wsX1_trellis 1 20 (dC, dI) [(cI, .int), (cL, .long)] [.ref (ad 0), .int p1, .int p2] (gv_V cI cL ad f0 c0 f1 c1 f2 c2 lo up be si pl cu ge fa) (fun (r : Int32) (u : (Nat → Int32)) => (r, u) = spX1_trellis f0 c0 f1 c1 f2 c2 lo up be si pl cu ge fa w1 w2) (fun (u : (Nat → Int32)) => (gv_V cI cL ad f0 c0 f1 c1 f2 c2 lo up u si pl cu ge fa)) := by
  subst hw1
  subst hw2
  refine gv_ofi (cc := cX1_trellis) (maxL := 4) (own := RX1) (by decide) rfl (Nat.le_of_ble_eq_true rfl) rfl ?_
  intro A p e s m args below meth c Q ls H locs hx hb hml hts hown hP hK hD hN hS hl kr
  have inX1 : ∀ w ∈ wsX10, w ∈ wsX1_trellis := (fun _ h => List.mem_cons_of_mem _ (List.mem_append_left _ (List.mem_append_left _ (List.mem_append_right _ h))))
  have hl : lv_has ls 4 [(0, .ref (ad 0)), (1, .int (nI w1)), (2, .int (nI w2))] := hl
  have he := (spX1_trellis_e f0 c0 f1 c1 f2 c2 lo up be si pl cu ge fa w1 w2).symm
  refine lv_iload_n hx hb dX1_trellis_0 rfl (lv_at hl 1 rfl) ?_
  have hPc : va_P (dC, dI) vwCl ([] : va_W) H := gv_P0
  have hDc : va_D (gv_in ([] : va_W)) ([] : va_W) := gv_D0
  refine gv_kv (wf := (fun (_ : Unit) => ([] : va_W))) (wc := ([] : va_W)) [] (fun _ => rfl) hP hD hS rfl rfl (va_runS (As := [.int (nI w1)]) (rest := []) ⟨hx, hb, hml, hown, hts⟩ (kX1_requireColumn l dC dI cI cL (nI w1) w1 rfl (by omega) (gv_in ([] : va_W))) (va_cwS (rm := gv_R 0 0) 1 hts gX1_trellis_X1_requireColumn rfl rfl rfl (by decide +kernel) ⟨Nat.le_of_ble_eq_true rfl, Nat.le_of_ble_eq_true rfl⟩) (gv_preS hK hPc hDc hN) rfl rfl hl.1 rfl (lv_room (Nat.le_of_ble_eq_true rfl)) dX1_trellis_1 ⟨Nat.zero_le _, Nat.zero_le _⟩) (fun u H locs hw hP hD hS => ?_)
  have hP : va_P (dC, dI) vwCl (gv_V cI cL ad f0 c0 f1 c1 f2 c2 lo up be si pl cu ge fa) H := hP
  have hD : va_D A (gv_V cI cL ad f0 c0 f1 c1 f2 c2 lo up be si pl cu ge fa) := hD
  refine lv_iload_n hx hb dX1_trellis_4 rfl (lv_at hl 2 rfl) ?_
  refine lv_iconst (v := 1) hx hb dX1_trellis_5 (by decide) ?_
  refine lv_icmp_lt (tgt := 15) hx hb dX1_trellis_6 (by decide) (fun c => absurd c (fun (z : nI w2 < (1 : Int32)) => absurd ((nI_ltI (b := 1) (by omega) (by decide)).mp z) (by omega))) (fun _ => ?_)
  refine lv_iload_n hx hb dX1_trellis_9 rfl (lv_at hl 2 rfl) ?_
  refine lv_bipush (v := 8) hx hb dX1_trellis_10 (by decide) ?_
  refine lv_icmp_le (tgt := 25) hx hb dX1_trellis_12 (by decide) (fun _ => ?_) (fun c => absurd ((nI_leI (b := 8) (by omega) (by decide)).mpr hy2) c)
  refine lv_aload_n hx hb dX1_trellis_25 rfl (lv_at hl 0 rfl) ?_
  refine va_get (D := (dC, dI)) (ci := 1) (v := .ref (ad 12)) (C := RX1) (T := TX1) (N := 11) hx hb hts inX1 hown hK hP 0 rfl rfl 5 (by decide) (hts (.fieldLink RX1 29 "VineWall" "bearings" "[I") (List.mem_of_getElem? (i := 3) rfl)) (fun _ h9 => h9) rfl dX1_trellis_26 ?_
  refine lv_iload_n hx hb dX1_trellis_29 rfl (lv_at hl 1 rfl) ?_
  refine gv_iald (cA := cI) (f := be) (k := w1) hx hb hK hP 12 0 rfl rfl rfl (by omega) (by decide) dX1_trellis_30 ?_
  refine lv_istore_n (lv' := [(3, .int (be w1)), (0, .ref (ad 0)), (1, .int (nI w1)), (2, .int (nI w2))]) hx hb dX1_trellis_31 rfl hl (by decide) rfl (fun ls hl => ?_)
  refine lv_aload_n hx hb dX1_trellis_32 rfl (lv_at hl 1 rfl) ?_
  refine va_get (D := (dC, dI)) (ci := 1) (v := .ref (ad 12)) (C := RX1) (T := TX1) (N := 11) hx hb hts inX1 hown hK hP 0 rfl rfl 5 (by decide) (hts (.fieldLink RX1 29 "VineWall" "bearings" "[I") (List.mem_of_getElem? (i := 3) rfl)) (fun _ h9 => h9) rfl dX1_trellis_33 ?_
  refine lv_iload_n hx hb dX1_trellis_36 rfl (lv_at hl 2 rfl) ?_
  refine lv_iload_n hx hb dX1_trellis_37 rfl (lv_at hl 3 rfl) ?_
  refine gv_iast (cA := cI) (k := w1) hx hb hK hP hD hS 12 0 rfl rfl rfl (by omega) (by decide) dX1_trellis_38 (fun H locs hP hD hS => ?_)
  have hP : va_P (dC, dI) vwCl (gv_V cI cL ad f0 c0 f1 c1 f2 c2 lo up (upd be w1 (nI w2)) si pl cu ge fa) H := hP
  have hD : va_D A (gv_V cI cL ad f0 c0 f1 c1 f2 c2 lo up (upd be w1 (nI w2)) si pl cu ge fa) := hD
  refine lv_iload_n hx hb dX1_trellis_39 rfl (lv_at hl 0 rfl) ?_
  exact kr (be w1) (upd be w1 (nI w2)) _ _ _ _ he hP hS dX1_trellis_40
def spX1_look (f0 : Nat → Int32) (c0 : Nat → Int32) (f1 : Nat → Int32) (c1 : Nat → Int32) (f2 : Nat → Int32) (c2 : Nat → Int32) (lo : Nat → Int64) (up : Nat → Int64) (be : Nat → Int32) (si : Int32) (pl : Int32) (cu : Int32) (ge : Int32) (fa : Int32) (w1 : Nat) (w2 : Nat) : Int32 := gv_b (spX0_hasLeafAt f0 c0 (nI w1) (nI w2)) (fun q11 => (if q11 = 0 then gv_b (spX0_isBareAt f0 c0 (nI w1) (nI w2)) (fun q26 => (if q26 = 0 then 120 else 46)) else 35))
theorem spX1_look_e (f0 : Nat → Int32) (c0 : Nat → Int32) (f1 : Nat → Int32) (c1 : Nat → Int32) (f2 : Nat → Int32) (c2 : Nat → Int32) (lo : Nat → Int64) (up : Nat → Int64) (be : Nat → Int32) (si : Int32) (pl : Int32) (cu : Int32) (ge : Int32) (fa : Int32) (w1 : Nat) (w2 : Nat) : spX1_look f0 c0 f1 c1 f2 c2 lo up be si pl cu ge fa w1 w2 = gv_b (spX0_hasLeafAt f0 c0 (nI w1) (nI w2)) (fun q11 => (if q11 = 0 then gv_b (spX0_isBareAt f0 c0 (nI w1) (nI w2)) (fun q26 => (if q26 = 0 then 120 else 46)) else 35)) := rfl
set_option maxHeartbeats 4000000 in
set_option maxRecDepth 100000 in
theorem kX1_look (l : Launch) (dC : Nat → ClassId) (dI : Nat → Nat → Nat) (cI cL : ClassId) (ad : Nat → Nat) (f0 : Nat → Int32) (c0 : Nat → Int32) (f1 : Nat → Int32) (c1 : Nat → Int32) (f2 : Nat → Int32) (c2 : Nat → Int32) (lo : Nat → Int64) (up : Nat → Int64) (be : Nat → Int32) (si : Int32) (pl : Int32) (cu : Int32) (ge : Int32) (fa : Int32) (p1 : Int32) (w1 : Nat) (hw1 : p1 = nI w1) (p2 : Int32) (w2 : Nat) (hw2 : p2 = nI w2) (hy0 : w1 < 8) (hy1 : w2 < 12) : gv_Mi l yX1_look wsX1_look 3 65 (dC, dI) [(cI, .int), (cL, .long)] [.ref (ad 0), .int p1, .int p2] (gv_V cI cL ad f0 c0 f1 c1 f2 c2 lo up be si pl cu ge fa) (fun (r : Int32) (_ : Unit) => r = spX1_look f0 c0 f1 c1 f2 c2 lo up be si pl cu ge fa w1 w2) (fun (_ : Unit) => (gv_V cI cL ad f0 c0 f1 c1 f2 c2 lo up be si pl cu ge fa)) := by
  subst hw1
  subst hw2
  refine gv_ofz (cc := cX1_look) (maxL := 3) (own := RX1) (ty := .char) (by decide) rfl (Nat.le_of_ble_eq_true rfl) rfl ?_
  intro A p e s m args below meth c Q ls H locs hx hb hml hts hown hP hK hD hN hS hl kr
  have inX0 : ∀ w ∈ wsX00, w ∈ wsX1_look := (fun _ h => List.mem_cons_of_mem _ (List.mem_append_left _ (List.mem_append_right _ h)))
  have inX1 : ∀ w ∈ wsX10, w ∈ wsX1_look := (fun _ h => List.mem_cons_of_mem _ (List.mem_append_left _ (List.mem_append_left _ (List.mem_append_right _ h))))
  have hl : lv_has ls 3 [(0, .ref (ad 0)), (1, .int (nI w1)), (2, .int (nI w2))] := hl
  have he := (spX1_look_e f0 c0 f1 c1 f2 c2 lo up be si pl cu ge fa w1 w2).symm
  refine lv_iload_n hx hb dX1_look_0 rfl (lv_at hl 1 rfl) ?_
  refine lv_iload_n hx hb dX1_look_1 rfl (lv_at hl 2 rfl) ?_
  have hPc : va_P (dC, dI) vwCl ([] : va_W) H := gv_P0
  have hDc : va_D (gv_in ([] : va_W)) ([] : va_W) := gv_D0
  refine gv_kv (wf := (fun (_ : Unit) => ([] : va_W))) (wc := ([] : va_W)) [] (fun _ => rfl) hP hD hS rfl rfl (va_runS (As := [.int (nI w1), .int (nI w2)]) (rest := []) ⟨hx, hb, hml, hown, hts⟩ (kX1_requireCell l dC dI cI cL (nI w1) w1 rfl (nI w2) w2 rfl (by omega) (by omega) (gv_in ([] : va_W))) (va_cwS (rm := gv_R 1 21) 2 hts gX1_look_X1_requireCell rfl rfl rfl (by decide +kernel) ⟨Nat.le_of_ble_eq_true rfl, Nat.le_of_ble_eq_true rfl⟩) (gv_preS hK hPc hDc hN) rfl rfl hl.1 rfl (lv_room (Nat.le_of_ble_eq_true rfl)) dX1_look_2 ⟨Nat.zero_le _, Nat.zero_le _⟩) (fun u H locs hw hP hD hS => ?_)
  have hP : va_P (dC, dI) vwCl (gv_V cI cL ad f0 c0 f1 c1 f2 c2 lo up be si pl cu ge fa) H := hP
  have hD : va_D A (gv_V cI cL ad f0 c0 f1 c1 f2 c2 lo up be si pl cu ge fa) := hD
  refine lv_aload_n hx hb dX1_look_5 rfl (lv_at hl 0 rfl) ?_
  refine va_get (D := (dC, dI)) (ci := 1) (v := .ref (ad 1)) (C := RX1) (T := TX1) (N := 11) hx hb hts inX1 hown hK hP 0 rfl rfl 0 (by decide) (hts (.fieldLink RX1 10 "VineWall" "wall" "LVineWall$Wall;") (List.mem_of_getElem? (i := 1) rfl)) (fun _ h9 => h9) rfl dX1_look_6 ?_
  refine lv_iload_n hx hb dX1_look_9 rfl (lv_at hl 1 rfl) ?_
  refine lv_iload_n hx hb dX1_look_10 rfl (lv_at hl 2 rfl) ?_
  have hPc : va_P (dC, dI) vwCl (gv_W cI (ad 1) (ad 2) (ad 3) f0 c0) H := gv_sub [1, 2, 3] hP rfl
  have hDc : va_D (gv_in (gv_W cI (ad 1) (ad 2) (ad 3) f0 c0)) (gv_W cI (ad 1) (ad 2) (ad 3) f0 c0) := gv_D hD [1, 2, 3] (by decide) rfl
  refine gv_ki (wf := (fun (_ : Unit) => (gv_W cI (ad 1) (ad 2) (ad 3) f0 c0))) (wc := (gv_W cI (ad 1) (ad 2) (ad 3) f0 c0)) [1, 2, 3] (fun _ => rfl) hP hD hS rfl rfl (va_runV (As := [.int (nI w1), .int (nI w2)]) (rest := []) ⟨hx, hb, hml, hown, hts⟩ (kX0_hasLeafAt l dC dI cI cL (ad 1) (ad 2) (ad 3) f0 c0 (nI w1) (nI w2) (gv_in (gv_W cI (ad 1) (ad 2) (ad 3) f0 c0))) (cwV (rm := gv_R 1 21) 2 hts gX1_look_X0_hasLeafAt rfl rfl rfl (by decide +kernel) ⟨Nat.le_of_ble_eq_true rfl, Nat.le_of_ble_eq_true rfl⟩) (gv_preV (ci := 0) hK hPc hDc hN rfl rfl) rfl rfl hl.1 rfl (lv_room (Nat.le_of_ble_eq_true rfl)) dX1_look_11 ⟨Nat.zero_le _, Nat.zero_le _⟩) (fun q11 u H locs hw hP hD hS => ?_)
  have he := gv_q hw he
  have hP : va_P (dC, dI) vwCl (gv_V cI cL ad f0 c0 f1 c1 f2 c2 lo up be si pl cu ge fa) H := hP
  have hD : va_D A (gv_V cI cL ad f0 c0 f1 c1 f2 c2 lo up be si pl cu ge fa) := hD
  refine lv_if_eq (tgt := 20) hx hb dX1_look_14 (by decide) (fun cd14 => ?_) (fun cd14 => ?_)
  · have he := gv_t cd14 he
    refine lv_aload_n hx hb dX1_look_20 rfl (lv_at hl 0 rfl) ?_
    refine va_get (D := (dC, dI)) (ci := 1) (v := .ref (ad 1)) (C := RX1) (T := TX1) (N := 11) hx hb hts inX1 hown hK hP 0 rfl rfl 0 (by decide) (hts (.fieldLink RX1 10 "VineWall" "wall" "LVineWall$Wall;") (List.mem_of_getElem? (i := 1) rfl)) (fun _ h9 => h9) rfl dX1_look_21 ?_
    refine lv_iload_n hx hb dX1_look_24 rfl (lv_at hl 1 rfl) ?_
    refine lv_iload_n hx hb dX1_look_25 rfl (lv_at hl 2 rfl) ?_
    have hPc : va_P (dC, dI) vwCl (gv_W cI (ad 1) (ad 2) (ad 3) f0 c0) H := gv_sub [1, 2, 3] hP rfl
    have hDc : va_D (gv_in (gv_W cI (ad 1) (ad 2) (ad 3) f0 c0)) (gv_W cI (ad 1) (ad 2) (ad 3) f0 c0) := gv_D hD [1, 2, 3] (by decide) rfl
    refine gv_ki (wf := (fun (_ : Unit) => (gv_W cI (ad 1) (ad 2) (ad 3) f0 c0))) (wc := (gv_W cI (ad 1) (ad 2) (ad 3) f0 c0)) [1, 2, 3] (fun _ => rfl) hP hD hS rfl rfl (va_runV (As := [.int (nI w1), .int (nI w2)]) (rest := []) ⟨hx, hb, hml, hown, hts⟩ (kX0_isBareAt l dC dI cI cL (ad 1) (ad 2) (ad 3) f0 c0 (nI w1) (nI w2) (gv_in (gv_W cI (ad 1) (ad 2) (ad 3) f0 c0))) (cwV (rm := gv_R 2 43) 2 hts gX1_look_X0_isBareAt rfl rfl rfl (by decide +kernel) ⟨Nat.le_of_ble_eq_true rfl, Nat.le_of_ble_eq_true rfl⟩) (gv_preV (ci := 0) hK hPc hDc hN rfl rfl) rfl rfl hl.1 rfl (lv_room (Nat.le_of_ble_eq_true rfl)) dX1_look_26 ⟨Nat.zero_le _, Nat.zero_le _⟩) (fun q26 u H locs hw hP hD hS => ?_)
    have he := gv_q hw he
    have hP : va_P (dC, dI) vwCl (gv_V cI cL ad f0 c0 f1 c1 f2 c2 lo up be si pl cu ge fa) H := hP
    have hD : va_D A (gv_V cI cL ad f0 c0 f1 c1 f2 c2 lo up be si pl cu ge fa) := hD
    refine lv_if_eq (tgt := 37) hx hb dX1_look_29 (by decide) (fun cd29 => ?_) (fun cd29 => ?_)
    · have he := gv_t cd29 he
      refine lv_bipush (v := 120) hx hb dX1_look_37 (by decide) ?_
      exact kr 120 () _ _ _ _ rfl he hP hS dX1_look_39
    · have he := gv_f cd29 he
      refine lv_bipush (v := 46) hx hb dX1_look_32 (by decide) ?_
      refine lv_goto (tgt := 39) hx hb dX1_look_34 (by decide) ?_
      exact kr 46 () _ _ _ _ rfl he hP hS dX1_look_39
  · have he := gv_f cd14 he
    refine lv_bipush (v := 35) hx hb dX1_look_17 (by decide) ?_
    exact kr 35 () _ _ _ _ rfl he hP hS dX1_look_19
def spX1_shadeOf (f0 : Nat → Int32) (c0 : Nat → Int32) (f1 : Nat → Int32) (c1 : Nat → Int32) (f2 : Nat → Int32) (c2 : Nat → Int32) (lo : Nat → Int64) (up : Nat → Int64) (be : Nat → Int32) (si : Int32) (pl : Int32) (cu : Int32) (ge : Int32) (fa : Int32) (w1 : Nat) (w2 : Nat) : Int32 := gv_b (spX0_shadeAt f0 c0 (w1 + 1) (nI w2)) (fun q11 => q11)
theorem spX1_shadeOf_e (f0 : Nat → Int32) (c0 : Nat → Int32) (f1 : Nat → Int32) (c1 : Nat → Int32) (f2 : Nat → Int32) (c2 : Nat → Int32) (lo : Nat → Int64) (up : Nat → Int64) (be : Nat → Int32) (si : Int32) (pl : Int32) (cu : Int32) (ge : Int32) (fa : Int32) (w1 : Nat) (w2 : Nat) : spX1_shadeOf f0 c0 f1 c1 f2 c2 lo up be si pl cu ge fa w1 w2 = gv_b (spX0_shadeAt f0 c0 (w1 + 1) (nI w2)) (fun q11 => q11) := rfl
set_option maxHeartbeats 4000000 in
set_option maxRecDepth 100000 in
theorem kX1_shadeOf (l : Launch) (dC : Nat → ClassId) (dI : Nat → Nat → Nat) (cI cL : ClassId) (ad : Nat → Nat) (f0 : Nat → Int32) (c0 : Nat → Int32) (f1 : Nat → Int32) (c1 : Nat → Int32) (f2 : Nat → Int32) (c2 : Nat → Int32) (lo : Nat → Int64) (up : Nat → Int64) (be : Nat → Int32) (si : Int32) (pl : Int32) (cu : Int32) (ge : Int32) (fa : Int32) (p1 : Int32) (w1 : Nat) (hw1 : p1 = nI w1) (p2 : Int32) (w2 : Nat) (hw2 : p2 = nI w2) (hy0 : w1 < 8) (hy1 : w2 < 12) : gv_Mi l yX1_shadeOf wsX1_shadeOf 2 45 (dC, dI) [(cI, .int), (cL, .long)] [.ref (ad 0), .int p1, .int p2] (gv_V cI cL ad f0 c0 f1 c1 f2 c2 lo up be si pl cu ge fa) (fun (r : Int32) (_ : Unit) => r = spX1_shadeOf f0 c0 f1 c1 f2 c2 lo up be si pl cu ge fa w1 w2) (fun (_ : Unit) => (gv_V cI cL ad f0 c0 f1 c1 f2 c2 lo up be si pl cu ge fa)) := by
  subst hw1
  subst hw2
  refine gv_ofi (cc := cX1_shadeOf) (maxL := 3) (own := RX1) (by decide) rfl (Nat.le_of_ble_eq_true rfl) rfl ?_
  intro A p e s m args below meth c Q ls H locs hx hb hml hts hown hP hK hD hN hS hl kr
  have inX0 : ∀ w ∈ wsX00, w ∈ wsX1_shadeOf := (fun _ h => List.mem_cons_of_mem _ (List.mem_append_left _ (List.mem_append_right _ h)))
  have inX1 : ∀ w ∈ wsX10, w ∈ wsX1_shadeOf := (fun _ h => List.mem_cons_of_mem _ (List.mem_append_left _ (List.mem_append_left _ (List.mem_append_right _ h))))
  have hl : lv_has ls 3 [(0, .ref (ad 0)), (1, .int (nI w1)), (2, .int (nI w2))] := hl
  have he := (spX1_shadeOf_e f0 c0 f1 c1 f2 c2 lo up be si pl cu ge fa w1 w2).symm
  refine lv_iload_n hx hb dX1_shadeOf_0 rfl (lv_at hl 1 rfl) ?_
  refine lv_iload_n hx hb dX1_shadeOf_1 rfl (lv_at hl 2 rfl) ?_
  have hPc : va_P (dC, dI) vwCl ([] : va_W) H := gv_P0
  have hDc : va_D (gv_in ([] : va_W)) ([] : va_W) := gv_D0
  refine gv_kv (wf := (fun (_ : Unit) => ([] : va_W))) (wc := ([] : va_W)) [] (fun _ => rfl) hP hD hS rfl rfl (va_runS (As := [.int (nI w1), .int (nI w2)]) (rest := []) ⟨hx, hb, hml, hown, hts⟩ (kX1_requireCell l dC dI cI cL (nI w1) w1 rfl (nI w2) w2 rfl (by omega) (by omega) (gv_in ([] : va_W))) (va_cwS (rm := gv_R 1 21) 2 hts gX1_shadeOf_X1_requireCell rfl rfl rfl (by decide +kernel) ⟨Nat.le_of_ble_eq_true rfl, Nat.le_of_ble_eq_true rfl⟩) (gv_preS hK hPc hDc hN) rfl rfl hl.1 rfl (lv_room (Nat.le_of_ble_eq_true rfl)) dX1_shadeOf_2 ⟨Nat.zero_le _, Nat.zero_le _⟩) (fun u H locs hw hP hD hS => ?_)
  have hP : va_P (dC, dI) vwCl (gv_V cI cL ad f0 c0 f1 c1 f2 c2 lo up be si pl cu ge fa) H := hP
  have hD : va_D A (gv_V cI cL ad f0 c0 f1 c1 f2 c2 lo up be si pl cu ge fa) := hD
  refine lv_aload_n hx hb dX1_shadeOf_5 rfl (lv_at hl 0 rfl) ?_
  refine va_get (D := (dC, dI)) (ci := 1) (v := .ref (ad 1)) (C := RX1) (T := TX1) (N := 11) hx hb hts inX1 hown hK hP 0 rfl rfl 0 (by decide) (hts (.fieldLink RX1 10 "VineWall" "wall" "LVineWall$Wall;") (List.mem_of_getElem? (i := 1) rfl)) (fun _ h9 => h9) rfl dX1_shadeOf_6 ?_
  refine lv_iload_n hx hb dX1_shadeOf_9 rfl (lv_at hl 1 rfl) ?_
  refine lv_iload_n hx hb dX1_shadeOf_10 rfl (lv_at hl 2 rfl) ?_
  have hPc : va_P (dC, dI) vwCl (gv_W cI (ad 1) (ad 2) (ad 3) f0 c0) H := gv_sub [1, 2, 3] hP rfl
  have hDc : va_D (gv_in (gv_W cI (ad 1) (ad 2) (ad 3) f0 c0)) (gv_W cI (ad 1) (ad 2) (ad 3) f0 c0) := gv_D hD [1, 2, 3] (by decide) rfl
  refine gv_ki (wf := (fun (_ : Unit) => (gv_W cI (ad 1) (ad 2) (ad 3) f0 c0))) (wc := (gv_W cI (ad 1) (ad 2) (ad 3) f0 c0)) [1, 2, 3] (fun _ => rfl) hP hD hS rfl rfl (va_runV (As := [.int (nI w1), .int (nI w2)]) (rest := []) ⟨hx, hb, hml, hown, hts⟩ (kX0_shadeAt l dC dI cI cL (ad 1) (ad 2) (ad 3) f0 c0 (nI w1) (w1 + 1) (gn_add rfl (rfl : (1 : Int32) = nI 1)) (nI w2) (by omega) (gv_in (gv_W cI (ad 1) (ad 2) (ad 3) f0 c0))) (cwV (rm := gv_R 1 21) 2 hts gX1_shadeOf_X0_shadeAt rfl rfl rfl (by decide +kernel) ⟨Nat.le_of_ble_eq_true rfl, Nat.le_of_ble_eq_true rfl⟩) (gv_preV (ci := 0) hK hPc hDc hN rfl rfl) rfl rfl hl.1 rfl (lv_room (Nat.le_of_ble_eq_true rfl)) dX1_shadeOf_11 ⟨Nat.zero_le _, Nat.zero_le _⟩) (fun q11 u H locs hw hP hD hS => ?_)
  have he := gv_q hw he
  have hP : va_P (dC, dI) vwCl (gv_V cI cL ad f0 c0 f1 c1 f2 c2 lo up be si pl cu ge fa) H := hP
  have hD : va_D A (gv_V cI cL ad f0 c0 f1 c1 f2 c2 lo up be si pl cu ge fa) := hD
  exact kr q11 () _ _ _ _ he hP hS dX1_shadeOf_14
def spX1_holdersOf (f0 : Nat → Int32) (c0 : Nat → Int32) (f1 : Nat → Int32) (c1 : Nat → Int32) (f2 : Nat → Int32) (c2 : Nat → Int32) (lo : Nat → Int64) (up : Nat → Int64) (be : Nat → Int32) (si : Int32) (pl : Int32) (cu : Int32) (ge : Int32) (fa : Int32) (w1 : Nat) (w2 : Nat) : Int32 := gv_b (spX0_holdersAt f0 c0 (nI w1) (nI w2) si) (fun q15 => q15)
theorem spX1_holdersOf_e (f0 : Nat → Int32) (c0 : Nat → Int32) (f1 : Nat → Int32) (c1 : Nat → Int32) (f2 : Nat → Int32) (c2 : Nat → Int32) (lo : Nat → Int64) (up : Nat → Int64) (be : Nat → Int32) (si : Int32) (pl : Int32) (cu : Int32) (ge : Int32) (fa : Int32) (w1 : Nat) (w2 : Nat) : spX1_holdersOf f0 c0 f1 c1 f2 c2 lo up be si pl cu ge fa w1 w2 = gv_b (spX0_holdersAt f0 c0 (nI w1) (nI w2) si) (fun q15 => q15) := rfl
set_option maxHeartbeats 4000000 in
set_option maxRecDepth 100000 in
theorem kX1_holdersOf (l : Launch) (dC : Nat → ClassId) (dI : Nat → Nat → Nat) (cI cL : ClassId) (ad : Nat → Nat) (f0 : Nat → Int32) (c0 : Nat → Int32) (f1 : Nat → Int32) (c1 : Nat → Int32) (f2 : Nat → Int32) (c2 : Nat → Int32) (lo : Nat → Int64) (up : Nat → Int64) (be : Nat → Int32) (si : Int32) (pl : Int32) (cu : Int32) (ge : Int32) (fa : Int32) (p1 : Int32) (w1 : Nat) (hw1 : p1 = nI w1) (p2 : Int32) (w2 : Nat) (hw2 : p2 = nI w2) (hy0 : w1 < 8) (hy1 : w2 < 12) : gv_Mi l yX1_holdersOf wsX1_holdersOf 3 70 (dC, dI) [(cI, .int), (cL, .long)] [.ref (ad 0), .int p1, .int p2] (gv_V cI cL ad f0 c0 f1 c1 f2 c2 lo up be si pl cu ge fa) (fun (r : Int32) (_ : Unit) => r = spX1_holdersOf f0 c0 f1 c1 f2 c2 lo up be si pl cu ge fa w1 w2) (fun (_ : Unit) => (gv_V cI cL ad f0 c0 f1 c1 f2 c2 lo up be si pl cu ge fa)) := by
  subst hw1
  subst hw2
  refine gv_ofi (cc := cX1_holdersOf) (maxL := 3) (own := RX1) (by decide) rfl (Nat.le_of_ble_eq_true rfl) rfl ?_
  intro A p e s m args below meth c Q ls H locs hx hb hml hts hown hP hK hD hN hS hl kr
  have inX0 : ∀ w ∈ wsX00, w ∈ wsX1_holdersOf := (fun _ h => List.mem_cons_of_mem _ (List.mem_append_left _ (List.mem_append_right _ h)))
  have inX1 : ∀ w ∈ wsX10, w ∈ wsX1_holdersOf := (fun _ h => List.mem_cons_of_mem _ (List.mem_append_left _ (List.mem_append_left _ (List.mem_append_right _ h))))
  have hl : lv_has ls 3 [(0, .ref (ad 0)), (1, .int (nI w1)), (2, .int (nI w2))] := hl
  have he := (spX1_holdersOf_e f0 c0 f1 c1 f2 c2 lo up be si pl cu ge fa w1 w2).symm
  refine lv_iload_n hx hb dX1_holdersOf_0 rfl (lv_at hl 1 rfl) ?_
  refine lv_iload_n hx hb dX1_holdersOf_1 rfl (lv_at hl 2 rfl) ?_
  have hPc : va_P (dC, dI) vwCl ([] : va_W) H := gv_P0
  have hDc : va_D (gv_in ([] : va_W)) ([] : va_W) := gv_D0
  refine gv_kv (wf := (fun (_ : Unit) => ([] : va_W))) (wc := ([] : va_W)) [] (fun _ => rfl) hP hD hS rfl rfl (va_runS (As := [.int (nI w1), .int (nI w2)]) (rest := []) ⟨hx, hb, hml, hown, hts⟩ (kX1_requireCell l dC dI cI cL (nI w1) w1 rfl (nI w2) w2 rfl (by omega) (by omega) (gv_in ([] : va_W))) (va_cwS (rm := gv_R 1 21) 2 hts gX1_holdersOf_X1_requireCell rfl rfl rfl (by decide +kernel) ⟨Nat.le_of_ble_eq_true rfl, Nat.le_of_ble_eq_true rfl⟩) (gv_preS hK hPc hDc hN) rfl rfl hl.1 rfl (lv_room (Nat.le_of_ble_eq_true rfl)) dX1_holdersOf_2 ⟨Nat.zero_le _, Nat.zero_le _⟩) (fun u H locs hw hP hD hS => ?_)
  have hP : va_P (dC, dI) vwCl (gv_V cI cL ad f0 c0 f1 c1 f2 c2 lo up be si pl cu ge fa) H := hP
  have hD : va_D A (gv_V cI cL ad f0 c0 f1 c1 f2 c2 lo up be si pl cu ge fa) := hD
  refine lv_aload_n hx hb dX1_holdersOf_5 rfl (lv_at hl 0 rfl) ?_
  refine va_get (D := (dC, dI)) (ci := 1) (v := .ref (ad 1)) (C := RX1) (T := TX1) (N := 11) hx hb hts inX1 hown hK hP 0 rfl rfl 0 (by decide) (hts (.fieldLink RX1 10 "VineWall" "wall" "LVineWall$Wall;") (List.mem_of_getElem? (i := 1) rfl)) (fun _ h9 => h9) rfl dX1_holdersOf_6 ?_
  refine lv_iload_n hx hb dX1_holdersOf_9 rfl (lv_at hl 1 rfl) ?_
  refine lv_iload_n hx hb dX1_holdersOf_10 rfl (lv_at hl 2 rfl) ?_
  refine lv_aload_n hx hb dX1_holdersOf_11 rfl (lv_at hl 0 rfl) ?_
  refine va_get (D := (dC, dI)) (ci := 1) (v := .int si) (C := RX1) (T := TX1) (N := 11) hx hb hts inX1 hown hK hP 0 rfl rfl 6 (by decide) (hts (.fieldLink RX1 33 "VineWall" "beyond" "I") (List.mem_of_getElem? (i := 2) rfl)) (fun _ h9 => h9) rfl dX1_holdersOf_12 ?_
  have hPc : va_P (dC, dI) vwCl (gv_W cI (ad 1) (ad 2) (ad 3) f0 c0) H := gv_sub [1, 2, 3] hP rfl
  have hDc : va_D (gv_in (gv_W cI (ad 1) (ad 2) (ad 3) f0 c0)) (gv_W cI (ad 1) (ad 2) (ad 3) f0 c0) := gv_D hD [1, 2, 3] (by decide) rfl
  refine gv_ki (wf := (fun (_ : Unit) => (gv_W cI (ad 1) (ad 2) (ad 3) f0 c0))) (wc := (gv_W cI (ad 1) (ad 2) (ad 3) f0 c0)) [1, 2, 3] (fun _ => rfl) hP hD hS rfl rfl (va_runV (As := [.int (nI w1), .int (nI w2), .int si]) (rest := []) ⟨hx, hb, hml, hown, hts⟩ (kX0_holdersAt l dC dI cI cL (ad 1) (ad 2) (ad 3) f0 c0 (nI w1) (nI w2) si (gv_in (gv_W cI (ad 1) (ad 2) (ad 3) f0 c0))) (cwV (rm := gv_R 2 47) 3 hts gX1_holdersOf_X0_holdersAt rfl rfl rfl (by decide +kernel) ⟨Nat.le_of_ble_eq_true rfl, Nat.le_of_ble_eq_true rfl⟩) (gv_preV (ci := 0) hK hPc hDc hN rfl rfl) rfl rfl hl.1 rfl (lv_room (Nat.le_of_ble_eq_true rfl)) dX1_holdersOf_15 ⟨Nat.zero_le _, Nat.zero_le _⟩) (fun q15 u H locs hw hP hD hS => ?_)
  have he := gv_q hw he
  have hP : va_P (dC, dI) vwCl (gv_V cI cL ad f0 c0 f1 c1 f2 c2 lo up be si pl cu ge fa) H := hP
  have hD : va_D A (gv_V cI cL ad f0 c0 f1 c1 f2 c2 lo up be si pl cu ge fa) := hD
  exact kr q15 () _ _ _ _ he hP hS dX1_holdersOf_18
def spX1_neighboursOf (f0 : Nat → Int32) (c0 : Nat → Int32) (f1 : Nat → Int32) (c1 : Nat → Int32) (f2 : Nat → Int32) (c2 : Nat → Int32) (lo : Nat → Int64) (up : Nat → Int64) (be : Nat → Int32) (si : Int32) (pl : Int32) (cu : Int32) (ge : Int32) (fa : Int32) (w1 : Nat) (w2 : Nat) : Int32 := gv_b (spX0_neighboursAt f0 c0 (nI w1) (nI w2) si) (fun q15 => q15)
theorem spX1_neighboursOf_e (f0 : Nat → Int32) (c0 : Nat → Int32) (f1 : Nat → Int32) (c1 : Nat → Int32) (f2 : Nat → Int32) (c2 : Nat → Int32) (lo : Nat → Int64) (up : Nat → Int64) (be : Nat → Int32) (si : Int32) (pl : Int32) (cu : Int32) (ge : Int32) (fa : Int32) (w1 : Nat) (w2 : Nat) : spX1_neighboursOf f0 c0 f1 c1 f2 c2 lo up be si pl cu ge fa w1 w2 = gv_b (spX0_neighboursAt f0 c0 (nI w1) (nI w2) si) (fun q15 => q15) := rfl
set_option maxHeartbeats 4000000 in
set_option maxRecDepth 100000 in
theorem kX1_neighboursOf (l : Launch) (dC : Nat → ClassId) (dI : Nat → Nat → Nat) (cI cL : ClassId) (ad : Nat → Nat) (f0 : Nat → Int32) (c0 : Nat → Int32) (f1 : Nat → Int32) (c1 : Nat → Int32) (f2 : Nat → Int32) (c2 : Nat → Int32) (lo : Nat → Int64) (up : Nat → Int64) (be : Nat → Int32) (si : Int32) (pl : Int32) (cu : Int32) (ge : Int32) (fa : Int32) (p1 : Int32) (w1 : Nat) (hw1 : p1 = nI w1) (p2 : Int32) (w2 : Nat) (hw2 : p2 = nI w2) (hy0 : w1 < 8) (hy1 : w2 < 12) : gv_Mi l yX1_neighboursOf wsX1_neighboursOf 3 70 (dC, dI) [(cI, .int), (cL, .long)] [.ref (ad 0), .int p1, .int p2] (gv_V cI cL ad f0 c0 f1 c1 f2 c2 lo up be si pl cu ge fa) (fun (r : Int32) (_ : Unit) => r = spX1_neighboursOf f0 c0 f1 c1 f2 c2 lo up be si pl cu ge fa w1 w2) (fun (_ : Unit) => (gv_V cI cL ad f0 c0 f1 c1 f2 c2 lo up be si pl cu ge fa)) := by
  subst hw1
  subst hw2
  refine gv_ofi (cc := cX1_neighboursOf) (maxL := 3) (own := RX1) (by decide) rfl (Nat.le_of_ble_eq_true rfl) rfl ?_
  intro A p e s m args below meth c Q ls H locs hx hb hml hts hown hP hK hD hN hS hl kr
  have inX0 : ∀ w ∈ wsX00, w ∈ wsX1_neighboursOf := (fun _ h => List.mem_cons_of_mem _ (List.mem_append_left _ (List.mem_append_right _ h)))
  have inX1 : ∀ w ∈ wsX10, w ∈ wsX1_neighboursOf := (fun _ h => List.mem_cons_of_mem _ (List.mem_append_left _ (List.mem_append_left _ (List.mem_append_right _ h))))
  have hl : lv_has ls 3 [(0, .ref (ad 0)), (1, .int (nI w1)), (2, .int (nI w2))] := hl
  have he := (spX1_neighboursOf_e f0 c0 f1 c1 f2 c2 lo up be si pl cu ge fa w1 w2).symm
  refine lv_iload_n hx hb dX1_neighboursOf_0 rfl (lv_at hl 1 rfl) ?_
  refine lv_iload_n hx hb dX1_neighboursOf_1 rfl (lv_at hl 2 rfl) ?_
  have hPc : va_P (dC, dI) vwCl ([] : va_W) H := gv_P0
  have hDc : va_D (gv_in ([] : va_W)) ([] : va_W) := gv_D0
  refine gv_kv (wf := (fun (_ : Unit) => ([] : va_W))) (wc := ([] : va_W)) [] (fun _ => rfl) hP hD hS rfl rfl (va_runS (As := [.int (nI w1), .int (nI w2)]) (rest := []) ⟨hx, hb, hml, hown, hts⟩ (kX1_requireCell l dC dI cI cL (nI w1) w1 rfl (nI w2) w2 rfl (by omega) (by omega) (gv_in ([] : va_W))) (va_cwS (rm := gv_R 1 21) 2 hts gX1_neighboursOf_X1_requireCell rfl rfl rfl (by decide +kernel) ⟨Nat.le_of_ble_eq_true rfl, Nat.le_of_ble_eq_true rfl⟩) (gv_preS hK hPc hDc hN) rfl rfl hl.1 rfl (lv_room (Nat.le_of_ble_eq_true rfl)) dX1_neighboursOf_2 ⟨Nat.zero_le _, Nat.zero_le _⟩) (fun u H locs hw hP hD hS => ?_)
  have hP : va_P (dC, dI) vwCl (gv_V cI cL ad f0 c0 f1 c1 f2 c2 lo up be si pl cu ge fa) H := hP
  have hD : va_D A (gv_V cI cL ad f0 c0 f1 c1 f2 c2 lo up be si pl cu ge fa) := hD
  refine lv_aload_n hx hb dX1_neighboursOf_5 rfl (lv_at hl 0 rfl) ?_
  refine va_get (D := (dC, dI)) (ci := 1) (v := .ref (ad 1)) (C := RX1) (T := TX1) (N := 11) hx hb hts inX1 hown hK hP 0 rfl rfl 0 (by decide) (hts (.fieldLink RX1 10 "VineWall" "wall" "LVineWall$Wall;") (List.mem_of_getElem? (i := 1) rfl)) (fun _ h9 => h9) rfl dX1_neighboursOf_6 ?_
  refine lv_iload_n hx hb dX1_neighboursOf_9 rfl (lv_at hl 1 rfl) ?_
  refine lv_iload_n hx hb dX1_neighboursOf_10 rfl (lv_at hl 2 rfl) ?_
  refine lv_aload_n hx hb dX1_neighboursOf_11 rfl (lv_at hl 0 rfl) ?_
  refine va_get (D := (dC, dI)) (ci := 1) (v := .int si) (C := RX1) (T := TX1) (N := 11) hx hb hts inX1 hown hK hP 0 rfl rfl 6 (by decide) (hts (.fieldLink RX1 33 "VineWall" "beyond" "I") (List.mem_of_getElem? (i := 2) rfl)) (fun _ h9 => h9) rfl dX1_neighboursOf_12 ?_
  have hPc : va_P (dC, dI) vwCl (gv_W cI (ad 1) (ad 2) (ad 3) f0 c0) H := gv_sub [1, 2, 3] hP rfl
  have hDc : va_D (gv_in (gv_W cI (ad 1) (ad 2) (ad 3) f0 c0)) (gv_W cI (ad 1) (ad 2) (ad 3) f0 c0) := gv_D hD [1, 2, 3] (by decide) rfl
  refine gv_ki (wf := (fun (_ : Unit) => (gv_W cI (ad 1) (ad 2) (ad 3) f0 c0))) (wc := (gv_W cI (ad 1) (ad 2) (ad 3) f0 c0)) [1, 2, 3] (fun _ => rfl) hP hD hS rfl rfl (va_runV (As := [.int (nI w1), .int (nI w2), .int si]) (rest := []) ⟨hx, hb, hml, hown, hts⟩ (kX0_neighboursAt l dC dI cI cL (ad 1) (ad 2) (ad 3) f0 c0 (nI w1) (nI w2) si (gv_in (gv_W cI (ad 1) (ad 2) (ad 3) f0 c0))) (cwV (rm := gv_R 2 47) 3 hts gX1_neighboursOf_X0_neighboursAt rfl rfl rfl (by decide +kernel) ⟨Nat.le_of_ble_eq_true rfl, Nat.le_of_ble_eq_true rfl⟩) (gv_preV (ci := 0) hK hPc hDc hN rfl rfl) rfl rfl hl.1 rfl (lv_room (Nat.le_of_ble_eq_true rfl)) dX1_neighboursOf_15 ⟨Nat.zero_le _, Nat.zero_le _⟩) (fun q15 u H locs hw hP hD hS => ?_)
  have he := gv_q hw he
  have hP : va_P (dC, dI) vwCl (gv_V cI cL ad f0 c0 f1 c1 f2 c2 lo up be si pl cu ge fa) H := hP
  have hD : va_D A (gv_V cI cL ad f0 c0 f1 c1 f2 c2 lo up be si pl cu ge fa) := hD
  exact kr q15 () _ _ _ _ he hP hS dX1_neighboursOf_18
def spX1_leavesIn (f0 : Nat → Int32) (c0 : Nat → Int32) (f1 : Nat → Int32) (c1 : Nat → Int32) (f2 : Nat → Int32) (c2 : Nat → Int32) (lo : Nat → Int64) (up : Nat → Int64) (be : Nat → Int32) (si : Int32) (pl : Int32) (cu : Int32) (ge : Int32) (fa : Int32) (w1 : Nat) : Int32 := gv_b (spX0_countInColumn f0 c0 (nI w1)) (fun q9 => q9)
theorem spX1_leavesIn_e (f0 : Nat → Int32) (c0 : Nat → Int32) (f1 : Nat → Int32) (c1 : Nat → Int32) (f2 : Nat → Int32) (c2 : Nat → Int32) (lo : Nat → Int64) (up : Nat → Int64) (be : Nat → Int32) (si : Int32) (pl : Int32) (cu : Int32) (ge : Int32) (fa : Int32) (w1 : Nat) : spX1_leavesIn f0 c0 f1 c1 f2 c2 lo up be si pl cu ge fa w1 = gv_b (spX0_countInColumn f0 c0 (nI w1)) (fun q9 => q9) := rfl
set_option maxHeartbeats 4000000 in
set_option maxRecDepth 100000 in
theorem kX1_leavesIn (l : Launch) (dC : Nat → ClassId) (dI : Nat → Nat → Nat) (cI cL : ClassId) (ad : Nat → Nat) (f0 : Nat → Int32) (c0 : Nat → Int32) (f1 : Nat → Int32) (c1 : Nat → Int32) (f2 : Nat → Int32) (c2 : Nat → Int32) (lo : Nat → Int64) (up : Nat → Int64) (be : Nat → Int32) (si : Int32) (pl : Int32) (cu : Int32) (ge : Int32) (fa : Int32) (p1 : Int32) (w1 : Nat) (hw1 : p1 = nI w1) (hy0 : w1 < 12) : gv_Mi l yX1_leavesIn wsX1_leavesIn 3 66 (dC, dI) [(cI, .int), (cL, .long)] [.ref (ad 0), .int p1] (gv_V cI cL ad f0 c0 f1 c1 f2 c2 lo up be si pl cu ge fa) (fun (r : Int32) (_ : Unit) => r = spX1_leavesIn f0 c0 f1 c1 f2 c2 lo up be si pl cu ge fa w1) (fun (_ : Unit) => (gv_V cI cL ad f0 c0 f1 c1 f2 c2 lo up be si pl cu ge fa)) := by
  subst hw1
  refine gv_ofi (cc := cX1_leavesIn) (maxL := 2) (own := RX1) (by decide) rfl (Nat.le_of_ble_eq_true rfl) rfl ?_
  intro A p e s m args below meth c Q ls H locs hx hb hml hts hown hP hK hD hN hS hl kr
  have inX0 : ∀ w ∈ wsX00, w ∈ wsX1_leavesIn := (fun _ h => List.mem_cons_of_mem _ (List.mem_append_left _ (List.mem_append_right _ h)))
  have inX1 : ∀ w ∈ wsX10, w ∈ wsX1_leavesIn := (fun _ h => List.mem_cons_of_mem _ (List.mem_append_left _ (List.mem_append_left _ (List.mem_append_right _ h))))
  have hl : lv_has ls 2 [(0, .ref (ad 0)), (1, .int (nI w1))] := hl
  have he := (spX1_leavesIn_e f0 c0 f1 c1 f2 c2 lo up be si pl cu ge fa w1).symm
  refine lv_iload_n hx hb dX1_leavesIn_0 rfl (lv_at hl 1 rfl) ?_
  have hPc : va_P (dC, dI) vwCl ([] : va_W) H := gv_P0
  have hDc : va_D (gv_in ([] : va_W)) ([] : va_W) := gv_D0
  refine gv_kv (wf := (fun (_ : Unit) => ([] : va_W))) (wc := ([] : va_W)) [] (fun _ => rfl) hP hD hS rfl rfl (va_runS (As := [.int (nI w1)]) (rest := []) ⟨hx, hb, hml, hown, hts⟩ (kX1_requireColumn l dC dI cI cL (nI w1) w1 rfl (by omega) (gv_in ([] : va_W))) (va_cwS (rm := gv_R 0 0) 1 hts gX1_leavesIn_X1_requireColumn rfl rfl rfl (by decide +kernel) ⟨Nat.le_of_ble_eq_true rfl, Nat.le_of_ble_eq_true rfl⟩) (gv_preS hK hPc hDc hN) rfl rfl hl.1 rfl (lv_room (Nat.le_of_ble_eq_true rfl)) dX1_leavesIn_1 ⟨Nat.zero_le _, Nat.zero_le _⟩) (fun u H locs hw hP hD hS => ?_)
  have hP : va_P (dC, dI) vwCl (gv_V cI cL ad f0 c0 f1 c1 f2 c2 lo up be si pl cu ge fa) H := hP
  have hD : va_D A (gv_V cI cL ad f0 c0 f1 c1 f2 c2 lo up be si pl cu ge fa) := hD
  refine lv_aload_n hx hb dX1_leavesIn_4 rfl (lv_at hl 0 rfl) ?_
  refine va_get (D := (dC, dI)) (ci := 1) (v := .ref (ad 1)) (C := RX1) (T := TX1) (N := 11) hx hb hts inX1 hown hK hP 0 rfl rfl 0 (by decide) (hts (.fieldLink RX1 10 "VineWall" "wall" "LVineWall$Wall;") (List.mem_of_getElem? (i := 1) rfl)) (fun _ h9 => h9) rfl dX1_leavesIn_5 ?_
  refine lv_iload_n hx hb dX1_leavesIn_8 rfl (lv_at hl 1 rfl) ?_
  have hPc : va_P (dC, dI) vwCl (gv_W cI (ad 1) (ad 2) (ad 3) f0 c0) H := gv_sub [1, 2, 3] hP rfl
  have hDc : va_D (gv_in (gv_W cI (ad 1) (ad 2) (ad 3) f0 c0)) (gv_W cI (ad 1) (ad 2) (ad 3) f0 c0) := gv_D hD [1, 2, 3] (by decide) rfl
  refine gv_ki (wf := (fun (_ : Unit) => (gv_W cI (ad 1) (ad 2) (ad 3) f0 c0))) (wc := (gv_W cI (ad 1) (ad 2) (ad 3) f0 c0)) [1, 2, 3] (fun _ => rfl) hP hD hS rfl rfl (va_runV (As := [.int (nI w1)]) (rest := []) ⟨hx, hb, hml, hown, hts⟩ (kX0_countInColumn l dC dI cI cL (ad 1) (ad 2) (ad 3) f0 c0 (nI w1) (gv_in (gv_W cI (ad 1) (ad 2) (ad 3) f0 c0))) (cwV (rm := gv_R 2 45) 1 hts gX1_leavesIn_X0_countInColumn rfl rfl rfl (by decide +kernel) ⟨Nat.le_of_ble_eq_true rfl, Nat.le_of_ble_eq_true rfl⟩) (gv_preV (ci := 0) hK hPc hDc hN rfl rfl) rfl rfl hl.1 rfl (lv_room (Nat.le_of_ble_eq_true rfl)) dX1_leavesIn_9 ⟨Nat.zero_le _, Nat.zero_le _⟩) (fun q9 u H locs hw hP hD hS => ?_)
  have he := gv_q hw he
  have hP : va_P (dC, dI) vwCl (gv_V cI cL ad f0 c0 f1 c1 f2 c2 lo up be si pl cu ge fa) H := hP
  have hD : va_D A (gv_V cI cL ad f0 c0 f1 c1 f2 c2 lo up be si pl cu ge fa) := hD
  exact kr q9 () _ _ _ _ he hP hS dX1_leavesIn_12
end
section
theorem gx_b53 : ∀ w ∈ (vx_atS RX1 53 gE_A gE_n).filter (fun w => !goodWord w), w ∈ gx_ws := by decide +kernel
theorem gx_b60 : ∀ w ∈ (vx_atS RX1 60 gE_S gE_n).filter (fun w => !goodWord w), w ∈ gx_ws := by decide +kernel
theorem gx_b154 : ∀ w ∈ (vx_atS RX1 154 gE_I gE_n).filter (fun w => !goodWord w), w ∈ gx_ws := by decide +kernel
theorem gx_o53 : ∀ w ∈ Cond.classLink RX1 49 gE_A :: Cond.initialized gE_A :: vx_atS RX1 53 gE_A gE_n, vx_ot w = true := by decide +kernel
theorem gx_o60 : ∀ w ∈ Cond.classLink RX1 56 gE_S :: Cond.initialized gE_S :: vx_atS RX1 60 gE_S gE_n, vx_ot w = true := by decide +kernel
theorem gx_o154 : ∀ w ∈ Cond.classLink RX1 150 gE_I :: Cond.initialized gE_I :: vx_atS RX1 154 gE_I gE_n, vx_ot w = true := by decide +kernel

def spX1_cut (f0 : Nat → Int32) (c0 : Nat → Int32) (f1 : Nat → Int32) (c1 : Nat → Int32) (f2 : Nat → Int32) (c2 : Nat → Int32) (lo : Nat → Int64) (up : Nat → Int64) (be : Nat → Int32) (si : Int32) (pl : Int32) (cu : Int32) (ge : Int32) (fa : Int32) (w1 : Nat) (w2 : Nat) : String ⊕ (Int32 × (Nat → Int32) × (Nat → Int32) × (Int32)) := gv_b (spX0_hasLeafAt f0 c0 (nI w1) (nI w2)) (fun q11 => (if q11 = 0 then .inl gE_S else gv_b (spX1_cutsLeft f0 c0 f1 c1 f2 c2 lo up be si pl cu ge fa) (fun q28 => (if q28 = 0 then .inl gE_S else gv_b2 (spX0_cutLeaf f0 c0 (nI w1) (nI w2)) (fun f_q50 h_q50 => gv_b (spX1_cutsLeft f_q50 h_q50 f1 c1 f2 c2 lo up be si pl (cu + 1) ge fa) (fun q64 => .inr (q64, f_q50, h_q50, cu + 1)))))))
theorem spX1_cut_e (f0 : Nat → Int32) (c0 : Nat → Int32) (f1 : Nat → Int32) (c1 : Nat → Int32) (f2 : Nat → Int32) (c2 : Nat → Int32) (lo : Nat → Int64) (up : Nat → Int64) (be : Nat → Int32) (si : Int32) (pl : Int32) (cu : Int32) (ge : Int32) (fa : Int32) (w1 : Nat) (w2 : Nat) : spX1_cut f0 c0 f1 c1 f2 c2 lo up be si pl cu ge fa w1 w2 = gv_b (spX0_hasLeafAt f0 c0 (nI w1) (nI w2)) (fun q11 => (if q11 = 0 then .inl gE_S else gv_b (spX1_cutsLeft f0 c0 f1 c1 f2 c2 lo up be si pl cu ge fa) (fun q28 => (if q28 = 0 then .inl gE_S else gv_b2 (spX0_cutLeaf f0 c0 (nI w1) (nI w2)) (fun f_q50 h_q50 => gv_b (spX1_cutsLeft f_q50 h_q50 f1 c1 f2 c2 lo up be si pl (cu + 1) ge fa) (fun q64 => .inr (q64, f_q50, h_q50, cu + 1))))))) := rfl
set_option maxHeartbeats 4000000 in
set_option maxRecDepth 100000 in
theorem kX1_cut (l : Launch) (hst : l.stackTraces = false) (dC : Nat → ClassId) (dI : Nat → Nat → Nat) (cI cL : ClassId) (ad : Nat → Nat) (f0 : Nat → Int32) (c0 : Nat → Int32) (f1 : Nat → Int32) (c1 : Nat → Int32) (f2 : Nat → Int32) (c2 : Nat → Int32) (lo : Nat → Int64) (up : Nat → Int64) (be : Nat → Int32) (si : Int32) (pl : Int32) (cu : Int32) (ge : Int32) (fa : Int32) (p1 : Int32) (w1 : Nat) (hw1 : p1 = nI w1) (p2 : Int32) (w2 : Nat) (hw2 : p2 = nI w2) (hy0 : w1 < 8) (hy1 : w2 < 12) : gx_Mi l yX1_cut wsX1_cut 6 1 82 (dC, dI) [(cI, .int), (cL, .long)] [.ref (ad 0), .int p1, .int p2] (gv_V cI cL ad f0 c0 f1 c1 f2 c2 lo up be si pl cu ge fa) (fun (r : Int32) (u : (Nat → Int32) × (Nat → Int32) × (Int32)) => .inr (r, u) = spX1_cut f0 c0 f1 c1 f2 c2 lo up be si pl cu ge fa w1 w2) (fun (u : (Nat → Int32) × (Nat → Int32) × (Int32)) => (gv_V cI cL ad u.1 u.2.1 f1 c1 f2 c2 lo up be si pl u.2.2 ge fa)) (fun E => .inl E = spX1_cut f0 c0 f1 c1 f2 c2 lo up be si pl cu ge fa w1 w2 ∧ E ∈ [gE_S]) := by
  subst hw1
  subst hw2
  refine gx_ofi (cc := cX1_cut) (maxL := 3) hst (Nat.le_of_ble_eq_true rfl) (Nat.le_of_ble_eq_true rfl) (by decide) rfl (Nat.le_of_ble_eq_true rfl) rfl ?_
  intro A p e s m args below meth c Q ls H locs hx hb hml hts hown hP hK hD hN hX hS hl kr kt ko
  have inX0 : ∀ w ∈ wsX00, w ∈ wsX1_cut := (fun _ h => List.mem_cons_of_mem _ (List.mem_append_left _ (List.mem_append_left _ (List.mem_append_right _ h))))
  have inX1 : ∀ w ∈ wsX10, w ∈ wsX1_cut := (fun _ h => List.mem_cons_of_mem _ (List.mem_append_left _ (List.mem_append_left _ (List.mem_append_left _ (List.mem_append_right _ h)))))
  have hl : lv_has ls 3 [(0, .ref (ad 0)), (1, .int (nI w1)), (2, .int (nI w2))] := hl
  have he := (spX1_cut_e f0 c0 f1 c1 f2 c2 lo up be si pl cu ge fa w1 w2).symm
  refine lv_iload_n hx hb dX1_cut_0 rfl (lv_at hl 1 rfl) ?_
  refine lv_iload_n hx hb dX1_cut_1 rfl (lv_at hl 2 rfl) ?_
  have hPc : va_P (dC, dI) vwCl ([] : va_W) H := gv_P0
  have hDc : va_D (gv_in ([] : va_W)) ([] : va_W) := gv_D0
  refine gv_kv (wf := (fun (_ : Unit) => ([] : va_W))) (wc := ([] : va_W)) [] (fun _ => rfl) hP hD hS rfl rfl (va_runS (As := [.int (nI w1), .int (nI w2)]) (rest := []) ⟨hx, hb, hml, hown, hts⟩ (kX1_requireCell l dC dI cI cL (nI w1) w1 rfl (nI w2) w2 rfl (by omega) (by omega) (gv_in ([] : va_W))) (va_cwS (rm := gv_R 1 21) 2 hts gX1_cut_X1_requireCell rfl rfl rfl (by decide +kernel) ⟨Nat.le_of_ble_eq_true rfl, Nat.le_of_ble_eq_true rfl⟩) (gv_preS hK hPc hDc hN) rfl rfl hl.1 rfl (lv_room (Nat.le_of_ble_eq_true rfl)) dX1_cut_2 ⟨Nat.le_of_ble_eq_true rfl, Nat.le_of_ble_eq_true rfl⟩) (fun u H locs hw hP hD hS => ?_)
  have hP : va_P (dC, dI) vwCl (gv_V cI cL ad f0 c0 f1 c1 f2 c2 lo up be si pl cu ge fa) H := hP
  have hD : va_D A (gv_V cI cL ad f0 c0 f1 c1 f2 c2 lo up be si pl cu ge fa) := hD
  refine lv_aload_n hx hb dX1_cut_5 rfl (lv_at hl 0 rfl) ?_
  refine va_get (D := (dC, dI)) (ci := 1) (v := .ref (ad 1)) (C := RX1) (T := TX1) (N := 11) hx hb hts inX1 hown hK hP 0 rfl rfl 0 (by decide) (hts (.fieldLink RX1 10 "VineWall" "wall" "LVineWall$Wall;") (List.mem_of_getElem? (i := 3) rfl)) (fun _ h9 => h9) rfl dX1_cut_6 ?_
  refine lv_iload_n hx hb dX1_cut_9 rfl (lv_at hl 1 rfl) ?_
  refine lv_iload_n hx hb dX1_cut_10 rfl (lv_at hl 2 rfl) ?_
  have hPc : va_P (dC, dI) vwCl (gv_W cI (ad 1) (ad 2) (ad 3) f0 c0) H := gv_sub [1, 2, 3] hP rfl
  have hDc : va_D (gv_in (gv_W cI (ad 1) (ad 2) (ad 3) f0 c0)) (gv_W cI (ad 1) (ad 2) (ad 3) f0 c0) := gv_D hD [1, 2, 3] (by decide) rfl
  refine gv_ki (wf := (fun (_ : Unit) => (gv_W cI (ad 1) (ad 2) (ad 3) f0 c0))) (wc := (gv_W cI (ad 1) (ad 2) (ad 3) f0 c0)) [1, 2, 3] (fun _ => rfl) hP hD hS rfl rfl (va_runV (As := [.int (nI w1), .int (nI w2)]) (rest := []) ⟨hx, hb, hml, hown, hts⟩ (kX0_hasLeafAt l dC dI cI cL (ad 1) (ad 2) (ad 3) f0 c0 (nI w1) (nI w2) (gv_in (gv_W cI (ad 1) (ad 2) (ad 3) f0 c0))) (cwV (rm := gv_R 1 21) 2 hts gX1_cut_X0_hasLeafAt rfl rfl rfl (by decide +kernel) ⟨Nat.le_of_ble_eq_true rfl, Nat.le_of_ble_eq_true rfl⟩) (gv_preV (ci := 0) hK hPc hDc hN rfl rfl) rfl rfl hl.1 rfl (lv_room (Nat.le_of_ble_eq_true rfl)) dX1_cut_11 ⟨Nat.le_of_ble_eq_true rfl, Nat.le_of_ble_eq_true rfl⟩) (fun q11 u H locs hw hP hD hS => ?_)
  have he := gv_q hw he
  have hP : va_P (dC, dI) vwCl (gv_V cI cL ad f0 c0 f1 c1 f2 c2 lo up be si pl cu ge fa) H := hP
  have hD : va_D A (gv_V cI cL ad f0 c0 f1 c1 f2 c2 lo up be si pl cu ge fa) := hD
  refine lv_if_ne (tgt := 27) hx hb dX1_cut_14 (by decide) (fun cd14 => ?_) (fun cd14 => ?_)
  · have he := gv_f cd14 he
    refine lv_aload_n hx hb dX1_cut_27 rfl (lv_at hl 0 rfl) ?_
    have hPc : va_P (dC, dI) vwCl (gv_V cI cL ad f0 c0 f1 c1 f2 c2 lo up be si pl cu ge fa) H := gv_sub [0, 1, 2, 3, 4, 5, 6, 7, 8, 9, 10, 11, 12] hP rfl
    have hDc : va_D (gv_in (gv_V cI cL ad f0 c0 f1 c1 f2 c2 lo up be si pl cu ge fa)) (gv_V cI cL ad f0 c0 f1 c1 f2 c2 lo up be si pl cu ge fa) := gv_D hD [0, 1, 2, 3, 4, 5, 6, 7, 8, 9, 10, 11, 12] (by decide) rfl
    refine gv_ki (wf := (fun (_ : Unit) => (gv_V cI cL ad f0 c0 f1 c1 f2 c2 lo up be si pl cu ge fa))) (wc := (gv_V cI cL ad f0 c0 f1 c1 f2 c2 lo up be si pl cu ge fa)) [0, 1, 2, 3, 4, 5, 6, 7, 8, 9, 10, 11, 12] (fun _ => rfl) hP hD hS rfl rfl (va_runV (As := []) (rest := []) ⟨hx, hb, hml, hown, hts⟩ (kX1_cutsLeft l dC dI cI cL ad f0 c0 f1 c1 f2 c2 lo up be si pl cu ge fa (gv_in (gv_V cI cL ad f0 c0 f1 c1 f2 c2 lo up be si pl cu ge fa))) (cwV (rm := gv_R 0 0) 0 hts gX1_cut_X1_cutsLeft rfl rfl rfl (by decide +kernel) ⟨Nat.le_of_ble_eq_true rfl, Nat.le_of_ble_eq_true rfl⟩) (gv_preV (ci := 1) hK hPc hDc hN rfl rfl) rfl rfl hl.1 rfl (lv_room (Nat.le_of_ble_eq_true rfl)) dX1_cut_28 ⟨Nat.le_of_ble_eq_true rfl, Nat.le_of_ble_eq_true rfl⟩) (fun q28 u H locs hw hP hD hS => ?_)
    have he := gv_q hw he
    have hP : va_P (dC, dI) vwCl (gv_V cI cL ad f0 c0 f1 c1 f2 c2 lo up be si pl cu ge fa) H := hP
    have hD : va_D A (gv_V cI cL ad f0 c0 f1 c1 f2 c2 lo up be si pl cu ge fa) := hD
    refine lv_if_ne (tgt := 44) hx hb dX1_cut_31 (by decide) (fun cd31 => ?_) (fun cd31 => ?_)
    · have he := gv_f cd31 he
      refine lv_aload_n hx hb dX1_cut_44 rfl (lv_at hl 0 rfl) ?_
      refine va_get (D := (dC, dI)) (ci := 1) (v := .ref (ad 1)) (C := RX1) (T := TX1) (N := 11) hx hb hts inX1 hown hK hP 0 rfl rfl 0 (by decide) (hts (.fieldLink RX1 10 "VineWall" "wall" "LVineWall$Wall;") (List.mem_of_getElem? (i := 3) rfl)) (fun _ h9 => h9) rfl dX1_cut_45 ?_
      refine lv_iload_n hx hb dX1_cut_48 rfl (lv_at hl 1 rfl) ?_
      refine lv_iload_n hx hb dX1_cut_49 rfl (lv_at hl 2 rfl) ?_
      have hPc : va_P (dC, dI) vwCl (gv_W cI (ad 1) (ad 2) (ad 3) f0 c0) H := gv_sub [1, 2, 3] hP rfl
      have hDc : va_D (gv_in (gv_W cI (ad 1) (ad 2) (ad 3) f0 c0)) (gv_W cI (ad 1) (ad 2) (ad 3) f0 c0) := gv_D hD [1, 2, 3] (by decide) rfl
      refine gv_kv (wf := (fun (u : (Nat → Int32) × (Nat → Int32)) => (gv_W cI (ad 1) (ad 2) (ad 3) u.1 u.2))) (wc := (gv_W cI (ad 1) (ad 2) (ad 3) f0 c0)) [1, 2, 3] (fun _ => rfl) hP hD hS rfl rfl (va_runV (As := [.int (nI w1), .int (nI w2)]) (rest := []) ⟨hx, hb, hml, hown, hts⟩ (kX0_cutLeaf l dC dI cI cL (ad 1) (ad 2) (ad 3) f0 c0 (nI w1) (nI w2) (gv_in (gv_W cI (ad 1) (ad 2) (ad 3) f0 c0))) (cwV (rm := gv_R 2 43) 2 hts gX1_cut_X0_cutLeaf rfl rfl rfl (by decide +kernel) ⟨Nat.le_of_ble_eq_true rfl, Nat.le_of_ble_eq_true rfl⟩) (gv_preV (ci := 0) hK hPc hDc hN rfl rfl) rfl rfl hl.1 rfl (lv_room (Nat.le_of_ble_eq_true rfl)) dX1_cut_50 ⟨Nat.le_of_ble_eq_true rfl, Nat.le_of_ble_eq_true rfl⟩) (fun u H locs hw hP hD hS => ?_)
      obtain ⟨f_q50, h_q50⟩ := u
      have he := gv_q2 hw he
      have hP : va_P (dC, dI) vwCl (gv_V cI cL ad f_q50 h_q50 f1 c1 f2 c2 lo up be si pl cu ge fa) H := hP
      have hD : va_D A (gv_V cI cL ad f_q50 h_q50 f1 c1 f2 c2 lo up be si pl cu ge fa) := hD
      refine lv_aload_n hx hb dX1_cut_53 rfl (lv_at hl 0 rfl) ?_
      refine lv_dup hx hb dX1_cut_54 rfl ?_
      refine va_get (D := (dC, dI)) (ci := 1) (v := .int cu) (C := RX1) (T := TX1) (N := 11) hx hb hts inX1 hown hK hP 0 rfl rfl 8 (by decide) (hts (.fieldLink RX1 40 "VineWall" "cutsDone" "I") (List.mem_of_getElem? (i := 4) rfl)) (fun _ h9 => h9) rfl dX1_cut_55 ?_
      refine lv_iconst (v := 1) hx hb dX1_cut_58 (by decide) ?_
      refine lv_iadd hx hb dX1_cut_59 ?_
      refine va_put (D := (dC, dI)) (ci := 1) (v := .int (cu + 1)) (ty := .int) (C := RX1) (T := TX1) (N := 11) hx hb hts inX1 tyX1 tyX1_ok nmX1 hown hK hP hD hS 0 rfl rfl 8 (by decide) (hts (.fieldLink RX1 40 "VineWall" "cutsDone" "I") (List.mem_of_getElem? (i := 4) rfl)) (fun _ h9 => h9) rfl (by decide +kernel) rfl rfl (Nat.le_of_ble_eq_true rfl) dX1_cut_60 (fun H locs hP hD hS => ?_)
      have hP : va_P (dC, dI) vwCl (gv_V cI cL ad f_q50 h_q50 f1 c1 f2 c2 lo up be si pl (cu + 1) ge fa) H := hP
      have hD : va_D A (gv_V cI cL ad f_q50 h_q50 f1 c1 f2 c2 lo up be si pl (cu + 1) ge fa) := hD
      refine lv_aload_n hx hb dX1_cut_63 rfl (lv_at hl 0 rfl) ?_
      have hPc : va_P (dC, dI) vwCl (gv_V cI cL ad f_q50 h_q50 f1 c1 f2 c2 lo up be si pl (cu + 1) ge fa) H := gv_sub [0, 1, 2, 3, 4, 5, 6, 7, 8, 9, 10, 11, 12] hP rfl
      have hDc : va_D (gv_in (gv_V cI cL ad f_q50 h_q50 f1 c1 f2 c2 lo up be si pl (cu + 1) ge fa)) (gv_V cI cL ad f_q50 h_q50 f1 c1 f2 c2 lo up be si pl (cu + 1) ge fa) := gv_D hD [0, 1, 2, 3, 4, 5, 6, 7, 8, 9, 10, 11, 12] (by decide) rfl
      refine gv_ki (wf := (fun (_ : Unit) => (gv_V cI cL ad f_q50 h_q50 f1 c1 f2 c2 lo up be si pl (cu + 1) ge fa))) (wc := (gv_V cI cL ad f_q50 h_q50 f1 c1 f2 c2 lo up be si pl (cu + 1) ge fa)) [0, 1, 2, 3, 4, 5, 6, 7, 8, 9, 10, 11, 12] (fun _ => rfl) hP hD hS rfl rfl (va_runV (As := []) (rest := []) ⟨hx, hb, hml, hown, hts⟩ (kX1_cutsLeft l dC dI cI cL ad f_q50 h_q50 f1 c1 f2 c2 lo up be si pl (cu + 1) ge fa (gv_in (gv_V cI cL ad f_q50 h_q50 f1 c1 f2 c2 lo up be si pl (cu + 1) ge fa))) (cwV (rm := gv_R 0 0) 0 hts gX1_cut_X1_cutsLeft rfl rfl rfl (by decide +kernel) ⟨Nat.le_of_ble_eq_true rfl, Nat.le_of_ble_eq_true rfl⟩) (gv_preV (ci := 1) hK hPc hDc hN rfl rfl) rfl rfl hl.1 rfl (lv_room (Nat.le_of_ble_eq_true rfl)) dX1_cut_64 ⟨Nat.le_of_ble_eq_true rfl, Nat.le_of_ble_eq_true rfl⟩) (fun q64 u H locs hw hP hD hS => ?_)
      have he := gv_q hw he
      have hP : va_P (dC, dI) vwCl (gv_V cI cL ad f_q50 h_q50 f1 c1 f2 c2 lo up be si pl (cu + 1) ge fa) H := hP
      have hD : va_D A (gv_V cI cL ad f_q50 h_q50 f1 c1 f2 c2 lo up be si pl (cu + 1) ge fa) := hD
      exact kr q64 (f_q50, h_q50, cu + 1) _ _ _ _ _ _ (Nat.le_of_ble_eq_true rfl) (Nat.le_of_ble_eq_true rfl) he hP hS dX1_cut_67
    · have he := gv_t cd31 he
      exact kt gE_S 56 91 60 "no cut is left" _ _ _ _ _ _ ⟨he, List.mem_cons_self⟩ hP hS (hl.1.trans hml.symm) (Nat.le_of_ble_eq_true rfl) (Nat.le_of_ble_eq_true rfl) (by decide) (hts (.classLink RX1 56 "java/lang/IllegalStateException") (List.mem_of_getElem? (i := 1) rfl)) (hts (.initialized "java/lang/IllegalStateException") (List.mem_of_getElem? (i := 2) rfl)) (by decide) (fun w h => hts w (List.mem_cons_of_mem _ (List.mem_append_left _ (List.mem_append_right _ h)))) gx_b60 gx_o60 dX1_cut_34 dX1_cut_37 dX1_cut_38 dX1_cut_40 dX1_cut_43
  · have he := gv_t cd14 he
    exact kt gE_S 56 85 60 "there is no leaf" _ _ _ _ _ _ ⟨he, List.mem_cons_self⟩ hP hS (hl.1.trans hml.symm) (Nat.le_of_ble_eq_true rfl) (Nat.le_of_ble_eq_true rfl) (by decide) (hts (.classLink RX1 56 "java/lang/IllegalStateException") (List.mem_of_getElem? (i := 1) rfl)) (hts (.initialized "java/lang/IllegalStateException") (List.mem_of_getElem? (i := 2) rfl)) (by decide) (fun w h => hts w (List.mem_cons_of_mem _ (List.mem_append_left _ (List.mem_append_right _ h)))) gx_b60 gx_o60 dX1_cut_17 dX1_cut_20 dX1_cut_21 dX1_cut_23 dX1_cut_26
def spX1_grow (f0 : Nat → Int32) (c0 : Nat → Int32) (f1 : Nat → Int32) (c1 : Nat → Int32) (f2 : Nat → Int32) (c2 : Nat → Int32) (lo : Nat → Int64) (up : Nat → Int64) (be : Nat → Int32) (si : Int32) (pl : Int32) (cu : Int32) (ge : Int32) (fa : Int32) : String ⊕ (Int32 × (Nat → Int32) × (Nat → Int32) × (Nat → Int32) × (Nat → Int32) × (Int32) × (Int32) × (Int32)) := (if ge < 60 then gv_b (spX1_leaves f0 c0 f1 c1 f2 c2 lo up be si pl cu ge fa) (fun q20 => gv_b3 (spX0_becomeNextOf f2 c2 f0 c0 be si) (fun q45 f_q45 h_q45 => gv_b2 (spX0_copyFrom f0 c0 f_q45 h_q45) (fun f_q60 h_q60 => gv_b (spX1_leaves f_q60 h_q60 f1 c1 f_q45 h_q45 lo up be si pl 0 (ge + 1) (fa + q45)) (fun q79 => .inr (q79 - q20, f_q60, h_q60, f_q45, h_q45, 0, ge + 1, fa + q45))))) else .inl gE_S)
theorem spX1_grow_e (f0 : Nat → Int32) (c0 : Nat → Int32) (f1 : Nat → Int32) (c1 : Nat → Int32) (f2 : Nat → Int32) (c2 : Nat → Int32) (lo : Nat → Int64) (up : Nat → Int64) (be : Nat → Int32) (si : Int32) (pl : Int32) (cu : Int32) (ge : Int32) (fa : Int32) : spX1_grow f0 c0 f1 c1 f2 c2 lo up be si pl cu ge fa = (if ge < 60 then gv_b (spX1_leaves f0 c0 f1 c1 f2 c2 lo up be si pl cu ge fa) (fun q20 => gv_b3 (spX0_becomeNextOf f2 c2 f0 c0 be si) (fun q45 f_q45 h_q45 => gv_b2 (spX0_copyFrom f0 c0 f_q45 h_q45) (fun f_q60 h_q60 => gv_b (spX1_leaves f_q60 h_q60 f1 c1 f_q45 h_q45 lo up be si pl 0 (ge + 1) (fa + q45)) (fun q79 => .inr (q79 - q20, f_q60, h_q60, f_q45, h_q45, 0, ge + 1, fa + q45))))) else .inl gE_S) := rfl
set_option maxHeartbeats 4000000 in
set_option maxRecDepth 100000 in
theorem kX1_grow (l : Launch) (hst : l.stackTraces = false) (dC : Nat → ClassId) (dI : Nat → Nat → Nat) (cI cL : ClassId) (ad : Nat → Nat) (f0 : Nat → Int32) (c0 : Nat → Int32) (f1 : Nat → Int32) (c1 : Nat → Int32) (f2 : Nat → Int32) (c2 : Nat → Int32) (lo : Nat → Int64) (up : Nat → Int64) (be : Nat → Int32) (si : Int32) (pl : Int32) (cu : Int32) (ge : Int32) (fa : Int32) : gx_Mi l yX1_grow wsX1_grow 6 1 124 (dC, dI) [(cI, .int), (cL, .long)] [.ref (ad 0)] (gv_V cI cL ad f0 c0 f1 c1 f2 c2 lo up be si pl cu ge fa) (fun (r : Int32) (u : (Nat → Int32) × (Nat → Int32) × (Nat → Int32) × (Nat → Int32) × (Int32) × (Int32) × (Int32)) => .inr (r, u) = spX1_grow f0 c0 f1 c1 f2 c2 lo up be si pl cu ge fa) (fun (u : (Nat → Int32) × (Nat → Int32) × (Nat → Int32) × (Nat → Int32) × (Int32) × (Int32) × (Int32)) => (gv_V cI cL ad u.1 u.2.1 f1 c1 u.2.2.1 u.2.2.2.1 lo up be si pl u.2.2.2.2.1 u.2.2.2.2.2.1 u.2.2.2.2.2.2)) (fun E => .inl E = spX1_grow f0 c0 f1 c1 f2 c2 lo up be si pl cu ge fa ∧ E ∈ [gE_S]) := by
  refine gx_ofi (cc := cX1_grow) (maxL := 2) hst (Nat.le_of_ble_eq_true rfl) (Nat.le_of_ble_eq_true rfl) (by decide) rfl (Nat.le_of_ble_eq_true rfl) rfl ?_
  intro A p e s m args below meth c Q ls H locs hx hb hml hts hown hP hK hD hN hX hS hl kr kt ko
  have inX0 : ∀ w ∈ wsX00, w ∈ wsX1_grow := (fun _ h => List.mem_cons_of_mem _ (List.mem_append_left _ (List.mem_append_right _ h)))
  have inX1 : ∀ w ∈ wsX10, w ∈ wsX1_grow := (fun _ h => List.mem_cons_of_mem _ (List.mem_append_left _ (List.mem_append_left _ (List.mem_append_right _ h))))
  have hl : lv_has ls 2 [(0, .ref (ad 0))] := hl
  have he := (spX1_grow_e f0 c0 f1 c1 f2 c2 lo up be si pl cu ge fa).symm
  refine lv_aload_n hx hb dX1_grow_0 rfl (lv_at hl 0 rfl) ?_
  refine va_get (D := (dC, dI)) (ci := 1) (v := .int ge) (C := RX1) (T := TX1) (N := 11) hx hb hts inX1 hown hK hP 0 rfl rfl 9 (by decide) (hts (.fieldLink RX1 43 "VineWall" "generationsGone" "I") (List.mem_of_getElem? (i := 3) rfl)) (fun _ h9 => h9) rfl dX1_grow_1 ?_
  refine lv_bipush (v := 60) hx hb dX1_grow_4 (by decide) ?_
  refine lv_icmp_lt (tgt := 19) hx hb dX1_grow_6 (by decide) (fun cd6 => ?_) (fun cd6 => ?_)
  · have he := gv_t cd6 he
    refine lv_aload_n hx hb dX1_grow_19 rfl (lv_at hl 0 rfl) ?_
    have hPc : va_P (dC, dI) vwCl (gv_V cI cL ad f0 c0 f1 c1 f2 c2 lo up be si pl cu ge fa) H := gv_sub [0, 1, 2, 3, 4, 5, 6, 7, 8, 9, 10, 11, 12] hP rfl
    have hDc : va_D (gv_in (gv_V cI cL ad f0 c0 f1 c1 f2 c2 lo up be si pl cu ge fa)) (gv_V cI cL ad f0 c0 f1 c1 f2 c2 lo up be si pl cu ge fa) := gv_D hD [0, 1, 2, 3, 4, 5, 6, 7, 8, 9, 10, 11, 12] (by decide) rfl
    refine gv_ki (wf := (fun (_ : Unit) => (gv_V cI cL ad f0 c0 f1 c1 f2 c2 lo up be si pl cu ge fa))) (wc := (gv_V cI cL ad f0 c0 f1 c1 f2 c2 lo up be si pl cu ge fa)) [0, 1, 2, 3, 4, 5, 6, 7, 8, 9, 10, 11, 12] (fun _ => rfl) hP hD hS rfl rfl (va_runV (As := []) (rest := []) ⟨hx, hb, hml, hown, hts⟩ (kX1_leaves l dC dI cI cL ad f0 c0 f1 c1 f2 c2 lo up be si pl cu ge fa (gv_in (gv_V cI cL ad f0 c0 f1 c1 f2 c2 lo up be si pl cu ge fa))) (cwV (rm := gv_R 2 42) 0 hts gX1_grow_X1_leaves rfl rfl rfl (by decide +kernel) ⟨Nat.le_of_ble_eq_true rfl, Nat.le_of_ble_eq_true rfl⟩) (gv_preV (ci := 1) hK hPc hDc hN rfl rfl) rfl rfl hl.1 rfl (lv_room (Nat.le_of_ble_eq_true rfl)) dX1_grow_20 ⟨Nat.le_of_ble_eq_true rfl, Nat.le_of_ble_eq_true rfl⟩) (fun q20 u H locs hw hP hD hS => ?_)
    have he := gv_q hw he
    have hP : va_P (dC, dI) vwCl (gv_V cI cL ad f0 c0 f1 c1 f2 c2 lo up be si pl cu ge fa) H := hP
    have hD : va_D A (gv_V cI cL ad f0 c0 f1 c1 f2 c2 lo up be si pl cu ge fa) := hD
    refine lv_istore_n (lv' := [(1, .int q20), (0, .ref (ad 0))]) hx hb dX1_grow_23 rfl hl (by decide) rfl (fun ls hl => ?_)
    refine lv_aload_n hx hb dX1_grow_24 rfl (lv_at hl 1 rfl) ?_
    refine lv_dup hx hb dX1_grow_25 rfl ?_
    refine va_get (D := (dC, dI)) (ci := 1) (v := .int fa) (C := RX1) (T := TX1) (N := 11) hx hb hts inX1 hown hK hP 0 rfl rfl 10 (by decide) (hts (.fieldLink RX1 46 "VineWall" "fallen" "I") (List.mem_of_getElem? (i := 4) rfl)) (fun _ h9 => h9) rfl dX1_grow_26 ?_
    refine lv_aload_n hx hb dX1_grow_29 rfl (lv_at hl 1 rfl) ?_
    refine va_get (D := (dC, dI)) (ci := 1) (v := .ref (ad 7)) (C := RX1) (T := TX1) (N := 11) hx hb hts inX1 hown hK hP 0 rfl rfl 2 (by decide) (hts (.fieldLink RX1 19 "VineWall" "behind" "LVineWall$Wall;") (List.mem_of_getElem? (i := 5) rfl)) (fun _ h9 => h9) rfl dX1_grow_30 ?_
    refine lv_aload_n hx hb dX1_grow_33 rfl (lv_at hl 1 rfl) ?_
    refine va_get (D := (dC, dI)) (ci := 1) (v := .ref (ad 1)) (C := RX1) (T := TX1) (N := 11) hx hb hts inX1 hown hK hP 0 rfl rfl 0 (by decide) (hts (.fieldLink RX1 10 "VineWall" "wall" "LVineWall$Wall;") (List.mem_of_getElem? (i := 6) rfl)) (fun _ h9 => h9) rfl dX1_grow_34 ?_
    refine lv_aload_n hx hb dX1_grow_37 rfl (lv_at hl 1 rfl) ?_
    refine va_get (D := (dC, dI)) (ci := 1) (v := .int si) (C := RX1) (T := TX1) (N := 11) hx hb hts inX1 hown hK hP 0 rfl rfl 6 (by decide) (hts (.fieldLink RX1 33 "VineWall" "beyond" "I") (List.mem_of_getElem? (i := 7) rfl)) (fun _ h9 => h9) rfl dX1_grow_38 ?_
    refine lv_aload_n hx hb dX1_grow_41 rfl (lv_at hl 1 rfl) ?_
    refine va_get (D := (dC, dI)) (ci := 1) (v := .ref (ad 12)) (C := RX1) (T := TX1) (N := 11) hx hb hts inX1 hown hK hP 0 rfl rfl 5 (by decide) (hts (.fieldLink RX1 29 "VineWall" "bearings" "[I") (List.mem_of_getElem? (i := 8) rfl)) (fun _ h9 => h9) rfl dX1_grow_42 ?_
    have hPc : va_P (dC, dI) vwCl (gv_WWA cI (ad 7) (ad 8) (ad 9) (ad 1) (ad 2) (ad 3) (ad 12) f2 c2 f0 c0 be) H := gv_sub [7, 8, 9, 1, 2, 3, 12] hP rfl
    have hDc : va_D (gv_in (gv_WWA cI (ad 7) (ad 8) (ad 9) (ad 1) (ad 2) (ad 3) (ad 12) f2 c2 f0 c0 be)) (gv_WWA cI (ad 7) (ad 8) (ad 9) (ad 1) (ad 2) (ad 3) (ad 12) f2 c2 f0 c0 be) := gv_D hD [7, 8, 9, 1, 2, 3, 12] (by decide) rfl
    refine gv_ki (wf := (fun (u : (Nat → Int32) × (Nat → Int32)) => (gv_WWA cI (ad 7) (ad 8) (ad 9) (ad 1) (ad 2) (ad 3) (ad 12) u.1 u.2 f0 c0 be))) (wc := (gv_WWA cI (ad 7) (ad 8) (ad 9) (ad 1) (ad 2) (ad 3) (ad 12) f2 c2 f0 c0 be)) [7, 8, 9, 1, 2, 3, 12] (fun _ => rfl) hP hD hS rfl rfl (va_runV (As := [.ref (ad 1), .int si, .ref (ad 12)]) (rest := [.int fa, .ref (ad 0)]) ⟨hx, hb, hml, hown, hts⟩ (kX0_becomeNextOf l dC dI cI cL (ad 7) (ad 8) (ad 9) (ad 1) (ad 2) (ad 3) (ad 12) f2 c2 f0 c0 be si (gv_in (gv_WWA cI (ad 7) (ad 8) (ad 9) (ad 1) (ad 2) (ad 3) (ad 12) f2 c2 f0 c0 be))) (cwV (rm := gv_R 4 99) 3 hts gX1_grow_X0_becomeNextOf rfl rfl rfl (by decide +kernel) ⟨Nat.le_of_ble_eq_true rfl, Nat.le_of_ble_eq_true rfl⟩) (gv_preV (ci := 0) hK hPc hDc hN rfl rfl) rfl rfl hl.1 rfl (lv_room (Nat.le_of_ble_eq_true rfl)) dX1_grow_45 ⟨Nat.le_of_ble_eq_true rfl, Nat.le_of_ble_eq_true rfl⟩) (fun q45 u H locs hw hP hD hS => ?_)
    obtain ⟨f_q45, h_q45⟩ := u
    have he := gv_q3 hw he
    have hP : va_P (dC, dI) vwCl (gv_V cI cL ad f0 c0 f1 c1 f_q45 h_q45 lo up be si pl cu ge fa) H := hP
    have hD : va_D A (gv_V cI cL ad f0 c0 f1 c1 f_q45 h_q45 lo up be si pl cu ge fa) := hD
    refine lv_iadd hx hb dX1_grow_48 ?_
    refine va_put (D := (dC, dI)) (ci := 1) (v := .int (fa + q45)) (ty := .int) (C := RX1) (T := TX1) (N := 11) hx hb hts inX1 tyX1 tyX1_ok nmX1 hown hK hP hD hS 0 rfl rfl 10 (by decide) (hts (.fieldLink RX1 46 "VineWall" "fallen" "I") (List.mem_of_getElem? (i := 4) rfl)) (fun _ h9 => h9) rfl (by decide +kernel) rfl rfl (Nat.le_of_ble_eq_true rfl) dX1_grow_49 (fun H locs hP hD hS => ?_)
    have hP : va_P (dC, dI) vwCl (gv_V cI cL ad f0 c0 f1 c1 f_q45 h_q45 lo up be si pl cu ge (fa + q45)) H := hP
    have hD : va_D A (gv_V cI cL ad f0 c0 f1 c1 f_q45 h_q45 lo up be si pl cu ge (fa + q45)) := hD
    refine lv_aload_n hx hb dX1_grow_52 rfl (lv_at hl 1 rfl) ?_
    refine va_get (D := (dC, dI)) (ci := 1) (v := .ref (ad 1)) (C := RX1) (T := TX1) (N := 11) hx hb hts inX1 hown hK hP 0 rfl rfl 0 (by decide) (hts (.fieldLink RX1 10 "VineWall" "wall" "LVineWall$Wall;") (List.mem_of_getElem? (i := 6) rfl)) (fun _ h9 => h9) rfl dX1_grow_53 ?_
    refine lv_aload_n hx hb dX1_grow_56 rfl (lv_at hl 1 rfl) ?_
    refine va_get (D := (dC, dI)) (ci := 1) (v := .ref (ad 7)) (C := RX1) (T := TX1) (N := 11) hx hb hts inX1 hown hK hP 0 rfl rfl 2 (by decide) (hts (.fieldLink RX1 19 "VineWall" "behind" "LVineWall$Wall;") (List.mem_of_getElem? (i := 5) rfl)) (fun _ h9 => h9) rfl dX1_grow_57 ?_
    have hPc : va_P (dC, dI) vwCl (gv_WW cI (ad 1) (ad 2) (ad 3) (ad 7) (ad 8) (ad 9) f0 c0 f_q45 h_q45) H := gv_sub [1, 2, 3, 7, 8, 9] hP rfl
    have hDc : va_D (gv_in (gv_WW cI (ad 1) (ad 2) (ad 3) (ad 7) (ad 8) (ad 9) f0 c0 f_q45 h_q45)) (gv_WW cI (ad 1) (ad 2) (ad 3) (ad 7) (ad 8) (ad 9) f0 c0 f_q45 h_q45) := gv_D hD [1, 2, 3, 7, 8, 9] (by decide) rfl
    refine gv_kv (wf := (fun (u : (Nat → Int32) × (Nat → Int32)) => (gv_WW cI (ad 1) (ad 2) (ad 3) (ad 7) (ad 8) (ad 9) u.1 u.2 f_q45 h_q45))) (wc := (gv_WW cI (ad 1) (ad 2) (ad 3) (ad 7) (ad 8) (ad 9) f0 c0 f_q45 h_q45)) [1, 2, 3, 7, 8, 9] (fun _ => rfl) hP hD hS rfl rfl (va_runV (As := [.ref (ad 7)]) (rest := []) ⟨hx, hb, hml, hown, hts⟩ (kX0_copyFrom l dC dI cI cL (ad 1) (ad 2) (ad 3) (ad 7) (ad 8) (ad 9) f0 c0 f_q45 h_q45 (gv_in (gv_WW cI (ad 1) (ad 2) (ad 3) (ad 7) (ad 8) (ad 9) f0 c0 f_q45 h_q45))) (cwV (rm := gv_R 0 0) 1 hts gX1_grow_X0_copyFrom rfl rfl rfl (by decide +kernel) ⟨Nat.le_of_ble_eq_true rfl, Nat.le_of_ble_eq_true rfl⟩) (gv_preV (ci := 0) hK hPc hDc hN rfl rfl) rfl rfl hl.1 rfl (lv_room (Nat.le_of_ble_eq_true rfl)) dX1_grow_60 ⟨Nat.le_of_ble_eq_true rfl, Nat.le_of_ble_eq_true rfl⟩) (fun u H locs hw hP hD hS => ?_)
    obtain ⟨f_q60, h_q60⟩ := u
    have he := gv_q2 hw he
    have hP : va_P (dC, dI) vwCl (gv_V cI cL ad f_q60 h_q60 f1 c1 f_q45 h_q45 lo up be si pl cu ge (fa + q45)) H := hP
    have hD : va_D A (gv_V cI cL ad f_q60 h_q60 f1 c1 f_q45 h_q45 lo up be si pl cu ge (fa + q45)) := hD
    refine lv_aload_n hx hb dX1_grow_63 rfl (lv_at hl 1 rfl) ?_
    refine lv_dup hx hb dX1_grow_64 rfl ?_
    refine va_get (D := (dC, dI)) (ci := 1) (v := .int ge) (C := RX1) (T := TX1) (N := 11) hx hb hts inX1 hown hK hP 0 rfl rfl 9 (by decide) (hts (.fieldLink RX1 43 "VineWall" "generationsGone" "I") (List.mem_of_getElem? (i := 3) rfl)) (fun _ h9 => h9) rfl dX1_grow_65 ?_
    refine lv_iconst (v := 1) hx hb dX1_grow_68 (by decide) ?_
    refine lv_iadd hx hb dX1_grow_69 ?_
    refine va_put (D := (dC, dI)) (ci := 1) (v := .int (ge + 1)) (ty := .int) (C := RX1) (T := TX1) (N := 11) hx hb hts inX1 tyX1 tyX1_ok nmX1 hown hK hP hD hS 0 rfl rfl 9 (by decide) (hts (.fieldLink RX1 43 "VineWall" "generationsGone" "I") (List.mem_of_getElem? (i := 3) rfl)) (fun _ h9 => h9) rfl (by decide +kernel) rfl rfl (Nat.le_of_ble_eq_true rfl) dX1_grow_70 (fun H locs hP hD hS => ?_)
    have hP : va_P (dC, dI) vwCl (gv_V cI cL ad f_q60 h_q60 f1 c1 f_q45 h_q45 lo up be si pl cu (ge + 1) (fa + q45)) H := hP
    have hD : va_D A (gv_V cI cL ad f_q60 h_q60 f1 c1 f_q45 h_q45 lo up be si pl cu (ge + 1) (fa + q45)) := hD
    refine lv_aload_n hx hb dX1_grow_73 rfl (lv_at hl 1 rfl) ?_
    refine lv_iconst (v := 0) hx hb dX1_grow_74 (by decide) ?_
    refine va_put (D := (dC, dI)) (ci := 1) (v := .int 0) (ty := .int) (C := RX1) (T := TX1) (N := 11) hx hb hts inX1 tyX1 tyX1_ok nmX1 hown hK hP hD hS 0 rfl rfl 8 (by decide) (hts (.fieldLink RX1 40 "VineWall" "cutsDone" "I") (List.mem_of_getElem? (i := 9) rfl)) (fun _ h9 => h9) rfl (by decide +kernel) rfl rfl (Nat.le_of_ble_eq_true rfl) dX1_grow_75 (fun H locs hP hD hS => ?_)
    have hP : va_P (dC, dI) vwCl (gv_V cI cL ad f_q60 h_q60 f1 c1 f_q45 h_q45 lo up be si pl 0 (ge + 1) (fa + q45)) H := hP
    have hD : va_D A (gv_V cI cL ad f_q60 h_q60 f1 c1 f_q45 h_q45 lo up be si pl 0 (ge + 1) (fa + q45)) := hD
    refine lv_aload_n hx hb dX1_grow_78 rfl (lv_at hl 1 rfl) ?_
    have hPc : va_P (dC, dI) vwCl (gv_V cI cL ad f_q60 h_q60 f1 c1 f_q45 h_q45 lo up be si pl 0 (ge + 1) (fa + q45)) H := gv_sub [0, 1, 2, 3, 4, 5, 6, 7, 8, 9, 10, 11, 12] hP rfl
    have hDc : va_D (gv_in (gv_V cI cL ad f_q60 h_q60 f1 c1 f_q45 h_q45 lo up be si pl 0 (ge + 1) (fa + q45))) (gv_V cI cL ad f_q60 h_q60 f1 c1 f_q45 h_q45 lo up be si pl 0 (ge + 1) (fa + q45)) := gv_D hD [0, 1, 2, 3, 4, 5, 6, 7, 8, 9, 10, 11, 12] (by decide) rfl
    refine gv_ki (wf := (fun (_ : Unit) => (gv_V cI cL ad f_q60 h_q60 f1 c1 f_q45 h_q45 lo up be si pl 0 (ge + 1) (fa + q45)))) (wc := (gv_V cI cL ad f_q60 h_q60 f1 c1 f_q45 h_q45 lo up be si pl 0 (ge + 1) (fa + q45))) [0, 1, 2, 3, 4, 5, 6, 7, 8, 9, 10, 11, 12] (fun _ => rfl) hP hD hS rfl rfl (va_runV (As := []) (rest := []) ⟨hx, hb, hml, hown, hts⟩ (kX1_leaves l dC dI cI cL ad f_q60 h_q60 f1 c1 f_q45 h_q45 lo up be si pl 0 (ge + 1) (fa + q45) (gv_in (gv_V cI cL ad f_q60 h_q60 f1 c1 f_q45 h_q45 lo up be si pl 0 (ge + 1) (fa + q45)))) (cwV (rm := gv_R 2 42) 0 hts gX1_grow_X1_leaves rfl rfl rfl (by decide +kernel) ⟨Nat.le_of_ble_eq_true rfl, Nat.le_of_ble_eq_true rfl⟩) (gv_preV (ci := 1) hK hPc hDc hN rfl rfl) rfl rfl hl.1 rfl (lv_room (Nat.le_of_ble_eq_true rfl)) dX1_grow_79 ⟨Nat.le_of_ble_eq_true rfl, Nat.le_of_ble_eq_true rfl⟩) (fun q79 u H locs hw hP hD hS => ?_)
    have he := gv_q hw he
    have hP : va_P (dC, dI) vwCl (gv_V cI cL ad f_q60 h_q60 f1 c1 f_q45 h_q45 lo up be si pl 0 (ge + 1) (fa + q45)) H := hP
    have hD : va_D A (gv_V cI cL ad f_q60 h_q60 f1 c1 f_q45 h_q45 lo up be si pl 0 (ge + 1) (fa + q45)) := hD
    refine lv_iload_n hx hb dX1_grow_82 rfl (lv_at hl 0 rfl) ?_
    refine lv_isub hx hb dX1_grow_83 ?_
    exact kr (q79 - q20) (f_q60, h_q60, f_q45, h_q45, 0, ge + 1, fa + q45) _ _ _ _ _ _ (Nat.le_of_ble_eq_true rfl) (Nat.le_of_ble_eq_true rfl) he hP hS dX1_grow_84
  · have he := gv_f cd6 he
    exact kt gE_S 56 96 60 "the game is over" _ _ _ _ _ _ ⟨he, List.mem_cons_self⟩ hP hS (hl.1.trans hml.symm) (Nat.le_of_ble_eq_true rfl) (Nat.le_of_ble_eq_true rfl) (by decide) (hts (.classLink RX1 56 "java/lang/IllegalStateException") (List.mem_of_getElem? (i := 1) rfl)) (hts (.initialized "java/lang/IllegalStateException") (List.mem_of_getElem? (i := 2) rfl)) (by decide) (fun w h => hts w (List.mem_cons_of_mem _ (List.mem_append_right _ h))) gx_b60 gx_o60 dX1_grow_9 dX1_grow_12 dX1_grow_13 dX1_grow_15 dX1_grow_18
end
section
/-! Constructors. -/
def gz_Pc (D : va_G) (tys : List (ClassId × FieldType)) (av : List Value) (ws : va_W) (sz : Nat) : Array Value → State → Prop := va_Pc av (fun U => U.heap.size = sz ∧ va_P D vwCl ws U.heap ∧ va_K D vwCl tys U ∧ va_D (fun _ => True) ws ∧ gv_N U)
theorem gz_pre {s : State} {H : Heap} {D : va_G} {tys : List (ClassId × FieldType)} {A : Nat → Prop} {As : List Value} {ws : va_W} (hK : va_K D vwCl tys s) (hP : va_P D vwCl ws H) (hD : va_D A ws) (hN : gv_N s) : PreS s H (gz_Pc D tys As ws H.size) As :=
  ⟨fun a U g mk q => by
    obtain ⟨q0, q1, q2, q3, q4, q5⟩ := q
    exact ⟨q0, q1, q2, va_K.moved (u := U) (U := U.calling g mk a) (Vm.Alike.refl U.vm) q3, q4, gv_N.same (u := U) (U := U.calling g mk a) rfl q5⟩,
  fun U hU hW => ⟨rfl, by rw [hU], by rw [hU]; exact hP, va_K.moved hW.alike hK, hD.weaken (fun _ _ _ _ => trivial), gv_N.warm hW hN⟩⟩
section GZN
variable {p : Program} {l : Launch} {e : Env} {R : Room} {s : State} {m : MethodId} {args : Array Value} {below : List Frame} {meth : Method} {c : Code} {H H0 : Heap} {locs : List Loc} {cells slots : Nat} {Q : State → Prop}
variable {cc : ByteArray} {pc : Nat} {ls : Array Slot} {rest : List Value} {D : va_G} {cl : List vw_C} {A : Nat → Prop} {tys : List (ClassId × FieldType)} {ws : va_W}
theorem gz_newi (hexec : p.tables.exec = Jvm.exec) (hb : c.code = cc) (harr : (Cond.arrayClass .int).before args s = true) (t0 : Nat) {cI : ClassId} (ht : tys[t0]? = some (cI, .int)) (hK : va_K D cl tys s) (hP : va_P D cl ws H) (hD : va_D A ws) (hS : va_S A H0 H locs) (hA : ∀ q, H0.size ≤ q → A q)
    {n : Int32} (N : Nat) (hn : n = nI N) (hN : N ≤ 100000) (hcells : cells + 1 ≤ R.cells) (hslots : slots + N ≤ R.slots) (hdg : decode cc pc = .ok (.newarray .int, 2))
    (kk : ∀ (q : Nat) (H1 : Heap), va_P D cl (ws ++ [(q, .inl (cI, N, .inl (fun _ => 0)))]) H1 → va_D A (ws ++ [(q, .inl (cI, N, .inl (fun _ => 0)))]) → va_S A H0 H1 locs →
      W p l e R s m args below meth c H1 locs (cells + 1) (slots + N) Q (F0 m (pc + 2) ls (.ref q :: rest))) : W p l e R s m args below meth c H locs cells slots Q (F0 m pc ls (.int n :: rest)) := by
  subst hn
  refine va_newa (atype := .int) (ty := .int) (a0 := (N, .inl (fun _ => 0))) (N' := N) hexec hb harr rfl hK hP hD hS hA (fun cA => rfl) (nI_pos (by omega)) (nI_clamp (by omega)) (show N * 4 ≤ 536870912 by omega) hcells hslots hdg (fun q cA H1 hK1 hP1 hD1 hS1 => ?_)
  have h1 : s.vm.findClass ("[" ++ FieldType.int.toString) = some cA := (hK1.2 tys.length (cA, .int) (by rw [List.getElem?_append_right (Nat.le_refl _), Nat.sub_self]; rfl)).2
  have h2 : s.vm.findClass ("[" ++ FieldType.int.toString) = some cI := (hK.2 t0 _ ht).2
  rw [h1] at h2
  cases h2
  exact kk q H1 hP1 hD1 hS1
theorem gz_newl (hexec : p.tables.exec = Jvm.exec) (hb : c.code = cc) (harr : (Cond.arrayClass .long).before args s = true) (t0 : Nat) {cL : ClassId} (ht : tys[t0]? = some (cL, .long)) (hK : va_K D cl tys s) (hP : va_P D cl ws H) (hD : va_D A ws) (hS : va_S A H0 H locs) (hA : ∀ q, H0.size ≤ q → A q)
    {n : Int32} (N : Nat) (hn : n = nI N) (hN : N ≤ 100000) (hcells : cells + 1 ≤ R.cells) (hslots : slots + N ≤ R.slots) (hdg : decode cc pc = .ok (.newarray .long, 2))
    (kk : ∀ (q : Nat) (H1 : Heap), va_P D cl (ws ++ [(q, .inl (cL, N, .inr (.inl (fun _ => 0))))]) H1 → va_D A (ws ++ [(q, .inl (cL, N, .inr (.inl (fun _ => 0))))]) → va_S A H0 H1 locs →
      W p l e R s m args below meth c H1 locs (cells + 1) (slots + N) Q (F0 m (pc + 2) ls (.ref q :: rest))) : W p l e R s m args below meth c H locs cells slots Q (F0 m pc ls (.int n :: rest)) := by
  subst hn
  refine va_newa (atype := .long) (ty := .long) (a0 := (N, .inr (.inl (fun _ => 0)))) (N' := N) hexec hb harr rfl hK hP hD hS hA (fun cA => rfl) (nI_pos (by omega)) (nI_clamp (by omega)) (show N * 8 ≤ 536870912 by omega) hcells hslots hdg (fun q cA H1 hK1 hP1 hD1 hS1 => ?_)
  have h1 : s.vm.findClass ("[" ++ FieldType.long.toString) = some cA := (hK1.2 tys.length (cA, .long) (by rw [List.getElem?_append_right (Nat.le_refl _), Nat.sub_self]; rfl)).2
  have h2 : s.vm.findClass ("[" ++ FieldType.long.toString) = some cL := (hK.2 t0 _ ht).2
  rw [h1] at h2
  cases h2
  exact kk q H1 hP1 hD1 hS1
end GZN

theorem gz_fill {be : Nat → Int32} {i : Nat} (h : ∀ k, k < i → be k = 5) {k : Nat} (hk : k < i + 1) : upd be i 5 k = 5 := by
  unfold upd
  by_cases e : k = i
  · rw [if_pos e]
  · rw [if_neg e]; exact h k (by omega)

set_option maxHeartbeats 4000000 in
set_option maxRecDepth 100000 in
theorem kX0_init (l : Launch) (dC : Nat → ClassId) (dI : Nat → Nat → Nat) (cI cL : ClassId) (h0 sz : Nat) : Met l yX0_init wsX0_init { frames := 1, cells := 2, slots := 16, locals := 12 } (gz_Pc (dC, dI) [(cI, .int), (cL, .long)] [.ref h0] [(h0, .inr (0, [.null, .null]))] sz) (va_Qv (fun (u : Nat × Nat) => True) (fun u t => va_P (dC, dI) vwCl (gv_W cI h0 u.1 u.2 (fun _ => 0) (fun _ => 0)) t.heap ∧ va_D (va_A [(h0, .inr (0, [.null, .null]))] sz) (gv_W cI h0 u.1 u.2 (fun _ => 0) (fun _ => 0))) (va_A [(h0, .inr (0, [.null, .null]))] sz)) 2 16 (va_A [(h0, .inr (0, [.null, .null]))] sz) := by
  refine Met.ofW (cc := cX0_init) (maxL := 1) (ret := none) (by decide) rfl ?_
  intro p e s m args below meth c s₁ B hml hv
  obtain ⟨rfl, hsz, hP, hK, hD0, hN⟩ := hv
  have hx := B.exec
  have hb := B.bytes
  have hr := B.returns
  have hts := atoms_spec (ws := wsX0_init) B.pre
  have hown : s.vm.findClass RX0 = some m.cls := findClass_of_methodNamed B.named
  have hlocks := B.notSynchronized
  have hin : meth.name = "<init>" := (name_of_methodNamed B.named B.method).1
  subst hsz
  have hD := hD0.self (sz := s.heap.size)
  generalize hAe : va_A [(h0, .inr (0, [.null, .null]))] s.heap.size = A at hD ⊢
  have hA : ∀ q : Nat, s.heap.size ≤ q → A q := fun q h => by rw [← hAe]; exact Or.inr h
  have hS : va_S A s.heap s.heap [] := va_S.rf
  have hl := lv_entry ([.ref h0]) (n := 1) (Nat.le_of_ble_eq_true rfl)
  rw [lg_entry_eq]
  generalize (lg_sl ([.ref h0]) ++ List.replicate (1 - (lg_sl ([.ref h0])).length) Slot.unset).toArray = ls at hl ⊢
  have hl : lv_has ls 1 [(0, .ref h0)] := hl
  have inX0 : ∀ w ∈ wsX00, w ∈ wsX0_init := (fun _ h => List.mem_cons_of_mem _ (List.mem_append_right _ h))
  have hP : va_P (dC, dI) vwCl ([(h0, .inr (0, [.null, .null]))]) s.heap := hP
  refine lv_aload_n hx hb dX0_init_0 rfl (lv_at hl 0 rfl) ?_
  refine W.objInit hx hb hown (hts (.methodLink RX0 3 objectInit) (List.mem_of_getElem? (i := 1) rfl)) (hts (.instanceMethod objectInit) (List.mem_of_getElem? (i := 2) rfl)) (hts _ (List.mem_of_getElem? (i := 3) rfl)) rfl (by rw [hml]; exact hl.1) rfl dX0_init_1 (Nat.le_of_ble_eq_true rfl) (Nat.le_of_ble_eq_true rfl) ?_
  refine W.eq (g2 := F0 m 4 ls []) rfl ?_
  refine lv_aload_n hx hb dX0_init_4 rfl (lv_at hl 0 rfl) ?_
  refine lv_bipush (v := 8) hx hb dX0_init_5 (by decide) ?_
  refine gz_newi hx hb (hts (.arrayClass .int) (List.mem_of_getElem? (i := 4) rfl)) 0 rfl hK hP hD hS hA 8 rfl (by decide) (Nat.le_of_ble_eq_true rfl) (Nat.le_of_ble_eq_true rfl) dX0_init_7 (fun q1 H hP hD hS => ?_)
  have hP : va_P (dC, dI) vwCl ([(h0, .inr (0, [.null, .null])), (q1, (.inl (cI, 8, .inl (fun _ => 0))))]) H := hP
  have hD : va_D A ([(h0, .inr (0, [.null, .null])), (q1, (.inl (cI, 8, .inl (fun _ => 0))))]) := hD
  refine va_putF (D := (dC, dI)) (ci := 0) (v := .ref q1) (ty := .array .int) (C := RX0) (T := TX0) (N := 2) hx hb hts inX0 tyX0 tyX0_ok nmX0 hown hK hP hD hS 0 rfl rfl 0 (by decide) (hts (.fieldLink RX0 9 "VineWall$Wall" "leafRows" "[I") (List.mem_of_getElem? (i := 5) rfl)) (fun _ h9 => h9) rfl hin rfl (by decide +kernel) rfl rfl (Nat.le_of_ble_eq_true rfl) dX0_init_9 (fun H locs hP hD hS => ?_)
  have hP : va_P (dC, dI) vwCl ([(h0, .inr (0, [.ref q1, .null])), (q1, (.inl (cI, 8, .inl (fun _ => 0))))]) H := hP
  have hD : va_D A ([(h0, .inr (0, [.ref q1, .null])), (q1, (.inl (cI, 8, .inl (fun _ => 0))))]) := hD
  refine lv_aload_n hx hb dX0_init_12 rfl (lv_at hl 0 rfl) ?_
  refine lv_bipush (v := 8) hx hb dX0_init_13 (by decide) ?_
  refine gz_newi hx hb (hts (.arrayClass .int) (List.mem_of_getElem? (i := 4) rfl)) 0 rfl hK hP hD hS hA 8 rfl (by decide) (Nat.le_of_ble_eq_true rfl) (Nat.le_of_ble_eq_true rfl) dX0_init_15 (fun q2 H hP hD hS => ?_)
  have hP : va_P (dC, dI) vwCl ([(h0, .inr (0, [.ref q1, .null])), (q1, (.inl (cI, 8, .inl (fun _ => 0)))), (q2, (.inl (cI, 8, .inl (fun _ => 0))))]) H := hP
  have hD : va_D A ([(h0, .inr (0, [.ref q1, .null])), (q1, (.inl (cI, 8, .inl (fun _ => 0)))), (q2, (.inl (cI, 8, .inl (fun _ => 0))))]) := hD
  refine va_putF (D := (dC, dI)) (ci := 0) (v := .ref q2) (ty := .array .int) (C := RX0) (T := TX0) (N := 2) hx hb hts inX0 tyX0 tyX0_ok nmX0 hown hK hP hD hS 0 rfl rfl 1 (by decide) (hts (.fieldLink RX0 15 "VineWall$Wall" "cutRows" "[I") (List.mem_of_getElem? (i := 6) rfl)) (fun _ h9 => h9) rfl hin rfl (by decide +kernel) rfl rfl (Nat.le_of_ble_eq_true rfl) dX0_init_17 (fun H locs hP hD hS => ?_)
  have hP : va_P (dC, dI) vwCl ([(h0, .inr (0, [.ref q1, .ref q2])), (q1, (.inl (cI, 8, .inl (fun _ => 0)))), (q2, (.inl (cI, 8, .inl (fun _ => 0))))]) H := hP
  have hD : va_D A ([(h0, .inr (0, [.ref q1, .ref q2])), (q1, (.inl (cI, 8, .inl (fun _ => 0)))), (q2, (.inl (cI, 8, .inl (fun _ => 0))))]) := hD
  refine W.widen (k := 2) (n := 16) (Nat.le_of_ble_eq_true rfl) (Nat.le_of_ble_eq_true rfl) ?_
  exact W.vret hx hb hr (fun t ht hW => ⟨⟨(q1, q2), rfl, trivial, ⟨by show va_P (dC, dI) vwCl _ t.heap; rw [ht]; exact hP, hD⟩⟩, hS.F ht⟩) hS.2.2 dX0_init_20
set_option maxHeartbeats 4000000 in
set_option maxRecDepth 100000 in
theorem kX1_init (l : Launch) (dC : Nat → ClassId) (dI : Nat → Nat → Nat) (cI cL : ClassId) (h0 sz : Nat) : Met l yX1_init wsX1_init { frames := 2, cells := 12, slots := 188, locals := 32 } (gz_Pc (dC, dI) [(cI, .int), (cL, .long)] [.ref h0] [(h0, .inr (1, [.null, .null, .null, .null, .null, .null, .int 0, .int 0, .int 0, .int 0, .int 0]))] sz) (va_Qv (fun (u : (Nat → Nat) × (Nat → Int32)) => u.1 0 = h0 ∧ ∀ k, k < 12 → u.2 k = 5) (fun u t => va_P (dC, dI) vwCl (gv_V cI cL u.1 (fun _ => 0) (fun _ => 0) (fun _ => 0) (fun _ => 0) (fun _ => 0) (fun _ => 0) (fun _ => 0) (fun _ => 0) u.2 0 0 0 0 0) t.heap ∧ va_D (va_A [(h0, .inr (1, [.null, .null, .null, .null, .null, .null, .int 0, .int 0, .int 0, .int 0, .int 0]))] sz) (gv_V cI cL u.1 (fun _ => 0) (fun _ => 0) (fun _ => 0) (fun _ => 0) (fun _ => 0) (fun _ => 0) (fun _ => 0) (fun _ => 0) u.2 0 0 0 0 0)) (va_A [(h0, .inr (1, [.null, .null, .null, .null, .null, .null, .int 0, .int 0, .int 0, .int 0, .int 0]))] sz)) 12 188 (va_A [(h0, .inr (1, [.null, .null, .null, .null, .null, .null, .int 0, .int 0, .int 0, .int 0, .int 0]))] sz) := by
  refine Met.ofW (cc := cX1_init) (maxL := 2) (ret := none) (by decide) rfl ?_
  intro p e s m args below meth c s₁ B hml hv
  obtain ⟨rfl, hsz, hP, hK, hD0, hN⟩ := hv
  have hx := B.exec
  have hb := B.bytes
  have hr := B.returns
  have hts := atoms_spec (ws := wsX1_init) B.pre
  have hown : s.vm.findClass RX1 = some m.cls := findClass_of_methodNamed B.named
  have hlocks := B.notSynchronized
  have hin : meth.name = "<init>" := (name_of_methodNamed B.named B.method).1
  subst hsz
  have hD := hD0.self (sz := s.heap.size)
  generalize hAe : va_A [(h0, .inr (1, [.null, .null, .null, .null, .null, .null, .int 0, .int 0, .int 0, .int 0, .int 0]))] s.heap.size = A at hD ⊢
  have hA : ∀ q : Nat, s.heap.size ≤ q → A q := fun q h => by rw [← hAe]; exact Or.inr h
  have hS : va_S A s.heap s.heap [] := va_S.rf
  have hl := lv_entry ([.ref h0]) (n := 2) (Nat.le_of_ble_eq_true rfl)
  rw [lg_entry_eq]
  generalize (lg_sl ([.ref h0]) ++ List.replicate (2 - (lg_sl ([.ref h0])).length) Slot.unset).toArray = ls at hl ⊢
  have hl : lv_has ls 2 [(0, .ref h0)] := hl
  have inX0 : ∀ w ∈ wsX00, w ∈ wsX1_init := (fun _ h => List.mem_cons_of_mem _ (List.mem_append_left _ (List.mem_append_right _ h)))
  have inX1 : ∀ w ∈ wsX10, w ∈ wsX1_init := (fun _ h => List.mem_cons_of_mem _ (List.mem_append_right _ h))
  have hP : va_P (dC, dI) vwCl ([(h0, .inr (1, [.null, .null, .null, .null, .null, .null, .int 0, .int 0, .int 0, .int 0, .int 0]))]) s.heap := hP
  refine lv_aload_n hx hb dX1_init_0 rfl (lv_at hl 0 rfl) ?_
  refine W.objInit hx hb hown (hts (.methodLink RX1 1 objectInit) (List.mem_of_getElem? (i := 1) rfl)) (hts (.instanceMethod objectInit) (List.mem_of_getElem? (i := 2) rfl)) (hts _ (List.mem_of_getElem? (i := 3) rfl)) rfl (by rw [hml]; exact hl.1) rfl dX1_init_1 (Nat.le_of_ble_eq_true rfl) (Nat.le_of_ble_eq_true rfl) ?_
  refine W.eq (g2 := F0 m 4 ls []) rfl ?_
  refine lv_aload_n hx hb dX1_init_4 rfl (lv_at hl 0 rfl) ?_
  refine va_new (ci := 0) (fs := [.null, .null]) (C := RX0) (T := TX0) (N := 2) hx hb hts inX0 tyX0 tyX0_ok hown (hts (.classLink RX1 7 RX0) (List.mem_of_getElem? (i := 4) rfl)) (hts (.instantiable RX0 2) (List.mem_of_getElem? (i := 5) rfl)) (hts (.initialized RX0) (List.mem_of_getElem? (i := 6) rfl)) hK hP hD hS hA rfl (fun j hj => by rcases (show j = 0 ∨ j = 1 by omega) with rfl | rfl <;> rfl) (Nat.le_of_ble_eq_true rfl) (Nat.le_of_ble_eq_true rfl) dX1_init_5 (fun q4 H hP hD hS => ?_)
  have hP : va_P (dC, dI) vwCl ([(h0, .inr (1, [.null, .null, .null, .null, .null, .null, .int 0, .int 0, .int 0, .int 0, .int 0])), (q4, .inr (0, [.null, .null]))]) H := hP
  have hD : va_D A ([(h0, .inr (1, [.null, .null, .null, .null, .null, .null, .int 0, .int 0, .int 0, .int 0, .int 0])), (q4, .inr (0, [.null, .null]))]) := hD
  refine lv_dup hx hb dX1_init_8 rfl ?_
  have hPc := hP.sub (ws' := [(q4, .inr (0, [.null, .null]))]) [1] rfl
  have hDc := hD.sub (ws' := [(q4, .inr (0, [.null, .null]))]) [1] (by decide) rfl
  have hFc := va_free (wc := [(q4, .inr (0, [.null, .null]))]) hD hS hA [1] rfl
  refine va_callv (va_runIN (As := []) (rest := [.ref q4, .ref h0]) ⟨hx, hb, hml, hown, hts⟩ (kX0_init l dC dI cI cL q4 H.size) ⟨va_cnB (rm := { frames := 1, cells := 2, slots := 16, locals := 12 }) 0 hts gX1_init_X0_init_n9 rfl rfl rfl hN.2 (hts (.initialized RX0) (List.mem_of_getElem? (i := 6) rfl)) (by decide +kernel) ⟨(Nat.le_of_ble_eq_true rfl), (Nat.le_of_ble_eq_true rfl)⟩, rfl, hts (.instanceMethod yX0_init) (List.mem_of_getElem? (i := 20) rfl)⟩ (gz_pre hK hPc hDc hN) rfl rfl hl.1 rfl (lv_room (Nat.le_of_ble_eq_true rfl)) dX1_init_9 ⟨(Nat.le_of_ble_eq_true rfl), (Nat.le_of_ble_eq_true rfl)⟩) hS (fun q _ h => hFc q h) hFc (fun u t H1 locs ht hvm hw hB hz1 hk1 hS => ?_)
  obtain ⟨a4, b4⟩ := u
  obtain ⟨hP1, hD1⟩ := hB
  rw [ht] at hP1
  obtain ⟨hP, hD⟩ := va_join (wr := [(h0, .inr (1, [.null, .null, .null, .null, .null, .null, .int 0, .int 0, .int 0, .int 0, .int 0]))]) (w1 := (gv_W cI q4 a4 b4 (fun _ => 0) (fun _ => 0))) hP hD [1] [0] rfl rfl (by decide) (by decide) hk1 hFc hP1 hD1
  generalize H1 = H at hP hS ⊢
  have hP : va_P (dC, dI) vwCl ([(h0, .inr (1, [.null, .null, .null, .null, .null, .null, .int 0, .int 0, .int 0, .int 0, .int 0])), (q4, .inr (0, [.ref a4, .ref b4])), (a4, (.inl (cI, 8, .inl (fun _ => 0)))), (b4, (.inl (cI, 8, .inl (fun _ => 0))))]) H := hP
  have hD : va_D A ([(h0, .inr (1, [.null, .null, .null, .null, .null, .null, .int 0, .int 0, .int 0, .int 0, .int 0])), (q4, .inr (0, [.ref a4, .ref b4])), (a4, (.inl (cI, 8, .inl (fun _ => 0)))), (b4, (.inl (cI, 8, .inl (fun _ => 0))))]) := hD
  refine va_putF (D := (dC, dI)) (ci := 1) (v := .ref q4) (ty := .object "VineWall$Wall") (C := RX1) (T := TX1) (N := 11) hx hb hts inX1 tyX1 tyX1_ok nmX1 hown hK hP hD hS 0 rfl rfl 0 (by decide) (hts (.fieldLink RX1 10 "VineWall" "wall" "LVineWall$Wall;") (List.mem_of_getElem? (i := 7) rfl)) (fun _ h9 => h9) rfl hin rfl (by decide +kernel) rfl rfl (Nat.le_of_ble_eq_true rfl) dX1_init_12 (fun H locs hP hD hS => ?_)
  have hP : va_P (dC, dI) vwCl ([(h0, .inr (1, [.ref q4, .null, .null, .null, .null, .null, .int 0, .int 0, .int 0, .int 0, .int 0])), (q4, .inr (0, [.ref a4, .ref b4])), (a4, (.inl (cI, 8, .inl (fun _ => 0)))), (b4, (.inl (cI, 8, .inl (fun _ => 0))))]) H := hP
  have hD : va_D A ([(h0, .inr (1, [.ref q4, .null, .null, .null, .null, .null, .int 0, .int 0, .int 0, .int 0, .int 0])), (q4, .inr (0, [.ref a4, .ref b4])), (a4, (.inl (cI, 8, .inl (fun _ => 0)))), (b4, (.inl (cI, 8, .inl (fun _ => 0))))]) := hD
  refine lv_aload_n hx hb dX1_init_15 rfl (lv_at hl 0 rfl) ?_
  refine va_new (ci := 0) (fs := [.null, .null]) (C := RX0) (T := TX0) (N := 2) hx hb hts inX0 tyX0 tyX0_ok hown (hts (.classLink RX1 7 RX0) (List.mem_of_getElem? (i := 4) rfl)) (hts (.instantiable RX0 2) (List.mem_of_getElem? (i := 5) rfl)) (hts (.initialized RX0) (List.mem_of_getElem? (i := 6) rfl)) hK hP hD hS hA rfl (fun j hj => by rcases (show j = 0 ∨ j = 1 by omega) with rfl | rfl <;> rfl) (Nat.le_of_ble_eq_true rfl) (Nat.le_of_ble_eq_true rfl) dX1_init_16 (fun q15 H hP hD hS => ?_)
  have hP : va_P (dC, dI) vwCl ([(h0, .inr (1, [.ref q4, .null, .null, .null, .null, .null, .int 0, .int 0, .int 0, .int 0, .int 0])), (q4, .inr (0, [.ref a4, .ref b4])), (a4, (.inl (cI, 8, .inl (fun _ => 0)))), (b4, (.inl (cI, 8, .inl (fun _ => 0)))), (q15, .inr (0, [.null, .null]))]) H := hP
  have hD : va_D A ([(h0, .inr (1, [.ref q4, .null, .null, .null, .null, .null, .int 0, .int 0, .int 0, .int 0, .int 0])), (q4, .inr (0, [.ref a4, .ref b4])), (a4, (.inl (cI, 8, .inl (fun _ => 0)))), (b4, (.inl (cI, 8, .inl (fun _ => 0)))), (q15, .inr (0, [.null, .null]))]) := hD
  refine lv_dup hx hb dX1_init_19 rfl ?_
  have hPc := hP.sub (ws' := [(q15, .inr (0, [.null, .null]))]) [4] rfl
  have hDc := hD.sub (ws' := [(q15, .inr (0, [.null, .null]))]) [4] (by decide) rfl
  have hFc := va_free (wc := [(q15, .inr (0, [.null, .null]))]) hD hS hA [4] rfl
  refine va_callv (va_runIN (As := []) (rest := [.ref q15, .ref h0]) ⟨hx, hb, hml, hown, hts⟩ (kX0_init l dC dI cI cL q15 H.size) ⟨va_cnB (rm := { frames := 1, cells := 2, slots := 16, locals := 12 }) 0 hts gX1_init_X0_init_n9 rfl rfl rfl hN.2 (hts (.initialized RX0) (List.mem_of_getElem? (i := 6) rfl)) (by decide +kernel) ⟨(Nat.le_of_ble_eq_true rfl), (Nat.le_of_ble_eq_true rfl)⟩, rfl, hts (.instanceMethod yX0_init) (List.mem_of_getElem? (i := 20) rfl)⟩ (gz_pre hK hPc hDc hN) rfl rfl hl.1 rfl (lv_room (Nat.le_of_ble_eq_true rfl)) dX1_init_20 ⟨(Nat.le_of_ble_eq_true rfl), (Nat.le_of_ble_eq_true rfl)⟩) hS (fun q _ h => hFc q h) hFc (fun u t H1 locs ht hvm hw hB hz1 hk1 hS => ?_)
  obtain ⟨a15, b15⟩ := u
  obtain ⟨hP1, hD1⟩ := hB
  rw [ht] at hP1
  obtain ⟨hP, hD⟩ := va_join (wr := [(h0, .inr (1, [.ref q4, .null, .null, .null, .null, .null, .int 0, .int 0, .int 0, .int 0, .int 0])), (q4, .inr (0, [.ref a4, .ref b4])), (a4, (.inl (cI, 8, .inl (fun _ => 0)))), (b4, (.inl (cI, 8, .inl (fun _ => 0))))]) (w1 := (gv_W cI q15 a15 b15 (fun _ => 0) (fun _ => 0))) hP hD [4] [0, 1, 2, 3] rfl rfl (by decide) (by decide) hk1 hFc hP1 hD1
  generalize H1 = H at hP hS ⊢
  have hP : va_P (dC, dI) vwCl ([(h0, .inr (1, [.ref q4, .null, .null, .null, .null, .null, .int 0, .int 0, .int 0, .int 0, .int 0])), (q4, .inr (0, [.ref a4, .ref b4])), (a4, (.inl (cI, 8, .inl (fun _ => 0)))), (b4, (.inl (cI, 8, .inl (fun _ => 0)))), (q15, .inr (0, [.ref a15, .ref b15])), (a15, (.inl (cI, 8, .inl (fun _ => 0)))), (b15, (.inl (cI, 8, .inl (fun _ => 0))))]) H := hP
  have hD : va_D A ([(h0, .inr (1, [.ref q4, .null, .null, .null, .null, .null, .int 0, .int 0, .int 0, .int 0, .int 0])), (q4, .inr (0, [.ref a4, .ref b4])), (a4, (.inl (cI, 8, .inl (fun _ => 0)))), (b4, (.inl (cI, 8, .inl (fun _ => 0)))), (q15, .inr (0, [.ref a15, .ref b15])), (a15, (.inl (cI, 8, .inl (fun _ => 0)))), (b15, (.inl (cI, 8, .inl (fun _ => 0))))]) := hD
  refine va_putF (D := (dC, dI)) (ci := 1) (v := .ref q15) (ty := .object "VineWall$Wall") (C := RX1) (T := TX1) (N := 11) hx hb hts inX1 tyX1 tyX1_ok nmX1 hown hK hP hD hS 0 rfl rfl 1 (by decide) (hts (.fieldLink RX1 16 "VineWall" "trial" "LVineWall$Wall;") (List.mem_of_getElem? (i := 8) rfl)) (fun _ h9 => h9) rfl hin rfl (by decide +kernel) rfl rfl (Nat.le_of_ble_eq_true rfl) dX1_init_23 (fun H locs hP hD hS => ?_)
  have hP : va_P (dC, dI) vwCl ([(h0, .inr (1, [.ref q4, .ref q15, .null, .null, .null, .null, .int 0, .int 0, .int 0, .int 0, .int 0])), (q4, .inr (0, [.ref a4, .ref b4])), (a4, (.inl (cI, 8, .inl (fun _ => 0)))), (b4, (.inl (cI, 8, .inl (fun _ => 0)))), (q15, .inr (0, [.ref a15, .ref b15])), (a15, (.inl (cI, 8, .inl (fun _ => 0)))), (b15, (.inl (cI, 8, .inl (fun _ => 0))))]) H := hP
  have hD : va_D A ([(h0, .inr (1, [.ref q4, .ref q15, .null, .null, .null, .null, .int 0, .int 0, .int 0, .int 0, .int 0])), (q4, .inr (0, [.ref a4, .ref b4])), (a4, (.inl (cI, 8, .inl (fun _ => 0)))), (b4, (.inl (cI, 8, .inl (fun _ => 0)))), (q15, .inr (0, [.ref a15, .ref b15])), (a15, (.inl (cI, 8, .inl (fun _ => 0)))), (b15, (.inl (cI, 8, .inl (fun _ => 0))))]) := hD
  refine lv_aload_n hx hb dX1_init_26 rfl (lv_at hl 0 rfl) ?_
  refine va_new (ci := 0) (fs := [.null, .null]) (C := RX0) (T := TX0) (N := 2) hx hb hts inX0 tyX0 tyX0_ok hown (hts (.classLink RX1 7 RX0) (List.mem_of_getElem? (i := 4) rfl)) (hts (.instantiable RX0 2) (List.mem_of_getElem? (i := 5) rfl)) (hts (.initialized RX0) (List.mem_of_getElem? (i := 6) rfl)) hK hP hD hS hA rfl (fun j hj => by rcases (show j = 0 ∨ j = 1 by omega) with rfl | rfl <;> rfl) (Nat.le_of_ble_eq_true rfl) (Nat.le_of_ble_eq_true rfl) dX1_init_27 (fun q26 H hP hD hS => ?_)
  have hP : va_P (dC, dI) vwCl ([(h0, .inr (1, [.ref q4, .ref q15, .null, .null, .null, .null, .int 0, .int 0, .int 0, .int 0, .int 0])), (q4, .inr (0, [.ref a4, .ref b4])), (a4, (.inl (cI, 8, .inl (fun _ => 0)))), (b4, (.inl (cI, 8, .inl (fun _ => 0)))), (q15, .inr (0, [.ref a15, .ref b15])), (a15, (.inl (cI, 8, .inl (fun _ => 0)))), (b15, (.inl (cI, 8, .inl (fun _ => 0)))), (q26, .inr (0, [.null, .null]))]) H := hP
  have hD : va_D A ([(h0, .inr (1, [.ref q4, .ref q15, .null, .null, .null, .null, .int 0, .int 0, .int 0, .int 0, .int 0])), (q4, .inr (0, [.ref a4, .ref b4])), (a4, (.inl (cI, 8, .inl (fun _ => 0)))), (b4, (.inl (cI, 8, .inl (fun _ => 0)))), (q15, .inr (0, [.ref a15, .ref b15])), (a15, (.inl (cI, 8, .inl (fun _ => 0)))), (b15, (.inl (cI, 8, .inl (fun _ => 0)))), (q26, .inr (0, [.null, .null]))]) := hD
  refine lv_dup hx hb dX1_init_30 rfl ?_
  have hPc := hP.sub (ws' := [(q26, .inr (0, [.null, .null]))]) [7] rfl
  have hDc := hD.sub (ws' := [(q26, .inr (0, [.null, .null]))]) [7] (by decide) rfl
  have hFc := va_free (wc := [(q26, .inr (0, [.null, .null]))]) hD hS hA [7] rfl
  refine va_callv (va_runIN (As := []) (rest := [.ref q26, .ref h0]) ⟨hx, hb, hml, hown, hts⟩ (kX0_init l dC dI cI cL q26 H.size) ⟨va_cnB (rm := { frames := 1, cells := 2, slots := 16, locals := 12 }) 0 hts gX1_init_X0_init_n9 rfl rfl rfl hN.2 (hts (.initialized RX0) (List.mem_of_getElem? (i := 6) rfl)) (by decide +kernel) ⟨(Nat.le_of_ble_eq_true rfl), (Nat.le_of_ble_eq_true rfl)⟩, rfl, hts (.instanceMethod yX0_init) (List.mem_of_getElem? (i := 20) rfl)⟩ (gz_pre hK hPc hDc hN) rfl rfl hl.1 rfl (lv_room (Nat.le_of_ble_eq_true rfl)) dX1_init_31 ⟨(Nat.le_of_ble_eq_true rfl), (Nat.le_of_ble_eq_true rfl)⟩) hS (fun q _ h => hFc q h) hFc (fun u t H1 locs ht hvm hw hB hz1 hk1 hS => ?_)
  obtain ⟨a26, b26⟩ := u
  obtain ⟨hP1, hD1⟩ := hB
  rw [ht] at hP1
  obtain ⟨hP, hD⟩ := va_join (wr := [(h0, .inr (1, [.ref q4, .ref q15, .null, .null, .null, .null, .int 0, .int 0, .int 0, .int 0, .int 0])), (q4, .inr (0, [.ref a4, .ref b4])), (a4, (.inl (cI, 8, .inl (fun _ => 0)))), (b4, (.inl (cI, 8, .inl (fun _ => 0)))), (q15, .inr (0, [.ref a15, .ref b15])), (a15, (.inl (cI, 8, .inl (fun _ => 0)))), (b15, (.inl (cI, 8, .inl (fun _ => 0))))]) (w1 := (gv_W cI q26 a26 b26 (fun _ => 0) (fun _ => 0))) hP hD [7] [0, 1, 2, 3, 4, 5, 6] rfl rfl (by decide) (by decide) hk1 hFc hP1 hD1
  generalize H1 = H at hP hS ⊢
  have hP : va_P (dC, dI) vwCl ([(h0, .inr (1, [.ref q4, .ref q15, .null, .null, .null, .null, .int 0, .int 0, .int 0, .int 0, .int 0])), (q4, .inr (0, [.ref a4, .ref b4])), (a4, (.inl (cI, 8, .inl (fun _ => 0)))), (b4, (.inl (cI, 8, .inl (fun _ => 0)))), (q15, .inr (0, [.ref a15, .ref b15])), (a15, (.inl (cI, 8, .inl (fun _ => 0)))), (b15, (.inl (cI, 8, .inl (fun _ => 0)))), (q26, .inr (0, [.ref a26, .ref b26])), (a26, (.inl (cI, 8, .inl (fun _ => 0)))), (b26, (.inl (cI, 8, .inl (fun _ => 0))))]) H := hP
  have hD : va_D A ([(h0, .inr (1, [.ref q4, .ref q15, .null, .null, .null, .null, .int 0, .int 0, .int 0, .int 0, .int 0])), (q4, .inr (0, [.ref a4, .ref b4])), (a4, (.inl (cI, 8, .inl (fun _ => 0)))), (b4, (.inl (cI, 8, .inl (fun _ => 0)))), (q15, .inr (0, [.ref a15, .ref b15])), (a15, (.inl (cI, 8, .inl (fun _ => 0)))), (b15, (.inl (cI, 8, .inl (fun _ => 0)))), (q26, .inr (0, [.ref a26, .ref b26])), (a26, (.inl (cI, 8, .inl (fun _ => 0)))), (b26, (.inl (cI, 8, .inl (fun _ => 0))))]) := hD
  refine va_putF (D := (dC, dI)) (ci := 1) (v := .ref q26) (ty := .object "VineWall$Wall") (C := RX1) (T := TX1) (N := 11) hx hb hts inX1 tyX1 tyX1_ok nmX1 hown hK hP hD hS 0 rfl rfl 2 (by decide) (hts (.fieldLink RX1 19 "VineWall" "behind" "LVineWall$Wall;") (List.mem_of_getElem? (i := 9) rfl)) (fun _ h9 => h9) rfl hin rfl (by decide +kernel) rfl rfl (Nat.le_of_ble_eq_true rfl) dX1_init_34 (fun H locs hP hD hS => ?_)
  have hP : va_P (dC, dI) vwCl ([(h0, .inr (1, [.ref q4, .ref q15, .ref q26, .null, .null, .null, .int 0, .int 0, .int 0, .int 0, .int 0])), (q4, .inr (0, [.ref a4, .ref b4])), (a4, (.inl (cI, 8, .inl (fun _ => 0)))), (b4, (.inl (cI, 8, .inl (fun _ => 0)))), (q15, .inr (0, [.ref a15, .ref b15])), (a15, (.inl (cI, 8, .inl (fun _ => 0)))), (b15, (.inl (cI, 8, .inl (fun _ => 0)))), (q26, .inr (0, [.ref a26, .ref b26])), (a26, (.inl (cI, 8, .inl (fun _ => 0)))), (b26, (.inl (cI, 8, .inl (fun _ => 0))))]) H := hP
  have hD : va_D A ([(h0, .inr (1, [.ref q4, .ref q15, .ref q26, .null, .null, .null, .int 0, .int 0, .int 0, .int 0, .int 0])), (q4, .inr (0, [.ref a4, .ref b4])), (a4, (.inl (cI, 8, .inl (fun _ => 0)))), (b4, (.inl (cI, 8, .inl (fun _ => 0)))), (q15, .inr (0, [.ref a15, .ref b15])), (a15, (.inl (cI, 8, .inl (fun _ => 0)))), (b15, (.inl (cI, 8, .inl (fun _ => 0)))), (q26, .inr (0, [.ref a26, .ref b26])), (a26, (.inl (cI, 8, .inl (fun _ => 0)))), (b26, (.inl (cI, 8, .inl (fun _ => 0))))]) := hD
  refine lv_aload_n hx hb dX1_init_37 rfl (lv_at hl 0 rfl) ?_
  refine lv_bipush (v := 61) hx hb dX1_init_38 (by decide) ?_
  refine gz_newl hx hb (hts (.arrayClass .long) (List.mem_of_getElem? (i := 10) rfl)) 1 rfl hK hP hD hS hA 61 rfl (by decide) (Nat.le_of_ble_eq_true rfl) (Nat.le_of_ble_eq_true rfl) dX1_init_40 (fun q37 H hP hD hS => ?_)
  have hP : va_P (dC, dI) vwCl ([(h0, .inr (1, [.ref q4, .ref q15, .ref q26, .null, .null, .null, .int 0, .int 0, .int 0, .int 0, .int 0])), (q4, .inr (0, [.ref a4, .ref b4])), (a4, (.inl (cI, 8, .inl (fun _ => 0)))), (b4, (.inl (cI, 8, .inl (fun _ => 0)))), (q15, .inr (0, [.ref a15, .ref b15])), (a15, (.inl (cI, 8, .inl (fun _ => 0)))), (b15, (.inl (cI, 8, .inl (fun _ => 0)))), (q26, .inr (0, [.ref a26, .ref b26])), (a26, (.inl (cI, 8, .inl (fun _ => 0)))), (b26, (.inl (cI, 8, .inl (fun _ => 0)))), (q37, .inl (cL, 61, .inr (.inl (fun _ => 0))))]) H := hP
  have hD : va_D A ([(h0, .inr (1, [.ref q4, .ref q15, .ref q26, .null, .null, .null, .int 0, .int 0, .int 0, .int 0, .int 0])), (q4, .inr (0, [.ref a4, .ref b4])), (a4, (.inl (cI, 8, .inl (fun _ => 0)))), (b4, (.inl (cI, 8, .inl (fun _ => 0)))), (q15, .inr (0, [.ref a15, .ref b15])), (a15, (.inl (cI, 8, .inl (fun _ => 0)))), (b15, (.inl (cI, 8, .inl (fun _ => 0)))), (q26, .inr (0, [.ref a26, .ref b26])), (a26, (.inl (cI, 8, .inl (fun _ => 0)))), (b26, (.inl (cI, 8, .inl (fun _ => 0)))), (q37, .inl (cL, 61, .inr (.inl (fun _ => 0))))]) := hD
  refine va_putF (D := (dC, dI)) (ci := 1) (v := .ref q37) (ty := .array .long) (C := RX1) (T := TX1) (N := 11) hx hb hts inX1 tyX1 tyX1_ok nmX1 hown hK hP hD hS 0 rfl rfl 3 (by decide) (hts (.fieldLink RX1 22 "VineWall" "lowerHalves" "[J") (List.mem_of_getElem? (i := 11) rfl)) (fun _ h9 => h9) rfl hin rfl (by decide +kernel) rfl rfl (Nat.le_of_ble_eq_true rfl) dX1_init_42 (fun H locs hP hD hS => ?_)
  have hP : va_P (dC, dI) vwCl ([(h0, .inr (1, [.ref q4, .ref q15, .ref q26, .ref q37, .null, .null, .int 0, .int 0, .int 0, .int 0, .int 0])), (q4, .inr (0, [.ref a4, .ref b4])), (a4, (.inl (cI, 8, .inl (fun _ => 0)))), (b4, (.inl (cI, 8, .inl (fun _ => 0)))), (q15, .inr (0, [.ref a15, .ref b15])), (a15, (.inl (cI, 8, .inl (fun _ => 0)))), (b15, (.inl (cI, 8, .inl (fun _ => 0)))), (q26, .inr (0, [.ref a26, .ref b26])), (a26, (.inl (cI, 8, .inl (fun _ => 0)))), (b26, (.inl (cI, 8, .inl (fun _ => 0)))), (q37, .inl (cL, 61, .inr (.inl (fun _ => 0))))]) H := hP
  have hD : va_D A ([(h0, .inr (1, [.ref q4, .ref q15, .ref q26, .ref q37, .null, .null, .int 0, .int 0, .int 0, .int 0, .int 0])), (q4, .inr (0, [.ref a4, .ref b4])), (a4, (.inl (cI, 8, .inl (fun _ => 0)))), (b4, (.inl (cI, 8, .inl (fun _ => 0)))), (q15, .inr (0, [.ref a15, .ref b15])), (a15, (.inl (cI, 8, .inl (fun _ => 0)))), (b15, (.inl (cI, 8, .inl (fun _ => 0)))), (q26, .inr (0, [.ref a26, .ref b26])), (a26, (.inl (cI, 8, .inl (fun _ => 0)))), (b26, (.inl (cI, 8, .inl (fun _ => 0)))), (q37, .inl (cL, 61, .inr (.inl (fun _ => 0))))]) := hD
  refine lv_aload_n hx hb dX1_init_45 rfl (lv_at hl 0 rfl) ?_
  refine lv_bipush (v := 61) hx hb dX1_init_46 (by decide) ?_
  refine gz_newl hx hb (hts (.arrayClass .long) (List.mem_of_getElem? (i := 10) rfl)) 1 rfl hK hP hD hS hA 61 rfl (by decide) (Nat.le_of_ble_eq_true rfl) (Nat.le_of_ble_eq_true rfl) dX1_init_48 (fun q45 H hP hD hS => ?_)
  have hP : va_P (dC, dI) vwCl ([(h0, .inr (1, [.ref q4, .ref q15, .ref q26, .ref q37, .null, .null, .int 0, .int 0, .int 0, .int 0, .int 0])), (q4, .inr (0, [.ref a4, .ref b4])), (a4, (.inl (cI, 8, .inl (fun _ => 0)))), (b4, (.inl (cI, 8, .inl (fun _ => 0)))), (q15, .inr (0, [.ref a15, .ref b15])), (a15, (.inl (cI, 8, .inl (fun _ => 0)))), (b15, (.inl (cI, 8, .inl (fun _ => 0)))), (q26, .inr (0, [.ref a26, .ref b26])), (a26, (.inl (cI, 8, .inl (fun _ => 0)))), (b26, (.inl (cI, 8, .inl (fun _ => 0)))), (q37, .inl (cL, 61, .inr (.inl (fun _ => 0)))), (q45, .inl (cL, 61, .inr (.inl (fun _ => 0))))]) H := hP
  have hD : va_D A ([(h0, .inr (1, [.ref q4, .ref q15, .ref q26, .ref q37, .null, .null, .int 0, .int 0, .int 0, .int 0, .int 0])), (q4, .inr (0, [.ref a4, .ref b4])), (a4, (.inl (cI, 8, .inl (fun _ => 0)))), (b4, (.inl (cI, 8, .inl (fun _ => 0)))), (q15, .inr (0, [.ref a15, .ref b15])), (a15, (.inl (cI, 8, .inl (fun _ => 0)))), (b15, (.inl (cI, 8, .inl (fun _ => 0)))), (q26, .inr (0, [.ref a26, .ref b26])), (a26, (.inl (cI, 8, .inl (fun _ => 0)))), (b26, (.inl (cI, 8, .inl (fun _ => 0)))), (q37, .inl (cL, 61, .inr (.inl (fun _ => 0)))), (q45, .inl (cL, 61, .inr (.inl (fun _ => 0))))]) := hD
  refine va_putF (D := (dC, dI)) (ci := 1) (v := .ref q45) (ty := .array .long) (C := RX1) (T := TX1) (N := 11) hx hb hts inX1 tyX1 tyX1_ok nmX1 hown hK hP hD hS 0 rfl rfl 4 (by decide) (hts (.fieldLink RX1 26 "VineWall" "upperHalves" "[J") (List.mem_of_getElem? (i := 12) rfl)) (fun _ h9 => h9) rfl hin rfl (by decide +kernel) rfl rfl (Nat.le_of_ble_eq_true rfl) dX1_init_50 (fun H locs hP hD hS => ?_)
  have hP : va_P (dC, dI) vwCl ([(h0, .inr (1, [.ref q4, .ref q15, .ref q26, .ref q37, .ref q45, .null, .int 0, .int 0, .int 0, .int 0, .int 0])), (q4, .inr (0, [.ref a4, .ref b4])), (a4, (.inl (cI, 8, .inl (fun _ => 0)))), (b4, (.inl (cI, 8, .inl (fun _ => 0)))), (q15, .inr (0, [.ref a15, .ref b15])), (a15, (.inl (cI, 8, .inl (fun _ => 0)))), (b15, (.inl (cI, 8, .inl (fun _ => 0)))), (q26, .inr (0, [.ref a26, .ref b26])), (a26, (.inl (cI, 8, .inl (fun _ => 0)))), (b26, (.inl (cI, 8, .inl (fun _ => 0)))), (q37, .inl (cL, 61, .inr (.inl (fun _ => 0)))), (q45, .inl (cL, 61, .inr (.inl (fun _ => 0))))]) H := hP
  have hD : va_D A ([(h0, .inr (1, [.ref q4, .ref q15, .ref q26, .ref q37, .ref q45, .null, .int 0, .int 0, .int 0, .int 0, .int 0])), (q4, .inr (0, [.ref a4, .ref b4])), (a4, (.inl (cI, 8, .inl (fun _ => 0)))), (b4, (.inl (cI, 8, .inl (fun _ => 0)))), (q15, .inr (0, [.ref a15, .ref b15])), (a15, (.inl (cI, 8, .inl (fun _ => 0)))), (b15, (.inl (cI, 8, .inl (fun _ => 0)))), (q26, .inr (0, [.ref a26, .ref b26])), (a26, (.inl (cI, 8, .inl (fun _ => 0)))), (b26, (.inl (cI, 8, .inl (fun _ => 0)))), (q37, .inl (cL, 61, .inr (.inl (fun _ => 0)))), (q45, .inl (cL, 61, .inr (.inl (fun _ => 0))))]) := hD
  refine lv_aload_n hx hb dX1_init_53 rfl (lv_at hl 0 rfl) ?_
  refine lv_bipush (v := 12) hx hb dX1_init_54 (by decide) ?_
  refine gz_newi hx hb (hts (.arrayClass .int) (List.mem_of_getElem? (i := 13) rfl)) 0 rfl hK hP hD hS hA 12 rfl (by decide) (Nat.le_of_ble_eq_true rfl) (Nat.le_of_ble_eq_true rfl) dX1_init_56 (fun q53 H hP hD hS => ?_)
  have hP : va_P (dC, dI) vwCl ([(h0, .inr (1, [.ref q4, .ref q15, .ref q26, .ref q37, .ref q45, .null, .int 0, .int 0, .int 0, .int 0, .int 0])), (q4, .inr (0, [.ref a4, .ref b4])), (a4, (.inl (cI, 8, .inl (fun _ => 0)))), (b4, (.inl (cI, 8, .inl (fun _ => 0)))), (q15, .inr (0, [.ref a15, .ref b15])), (a15, (.inl (cI, 8, .inl (fun _ => 0)))), (b15, (.inl (cI, 8, .inl (fun _ => 0)))), (q26, .inr (0, [.ref a26, .ref b26])), (a26, (.inl (cI, 8, .inl (fun _ => 0)))), (b26, (.inl (cI, 8, .inl (fun _ => 0)))), (q37, .inl (cL, 61, .inr (.inl (fun _ => 0)))), (q45, .inl (cL, 61, .inr (.inl (fun _ => 0)))), (q53, .inl (cI, 12, .inl (fun _ => 0)))]) H := hP
  have hD : va_D A ([(h0, .inr (1, [.ref q4, .ref q15, .ref q26, .ref q37, .ref q45, .null, .int 0, .int 0, .int 0, .int 0, .int 0])), (q4, .inr (0, [.ref a4, .ref b4])), (a4, (.inl (cI, 8, .inl (fun _ => 0)))), (b4, (.inl (cI, 8, .inl (fun _ => 0)))), (q15, .inr (0, [.ref a15, .ref b15])), (a15, (.inl (cI, 8, .inl (fun _ => 0)))), (b15, (.inl (cI, 8, .inl (fun _ => 0)))), (q26, .inr (0, [.ref a26, .ref b26])), (a26, (.inl (cI, 8, .inl (fun _ => 0)))), (b26, (.inl (cI, 8, .inl (fun _ => 0)))), (q37, .inl (cL, 61, .inr (.inl (fun _ => 0)))), (q45, .inl (cL, 61, .inr (.inl (fun _ => 0)))), (q53, .inl (cI, 12, .inl (fun _ => 0)))]) := hD
  refine va_putF (D := (dC, dI)) (ci := 1) (v := .ref q53) (ty := .array .int) (C := RX1) (T := TX1) (N := 11) hx hb hts inX1 tyX1 tyX1_ok nmX1 hown hK hP hD hS 0 rfl rfl 5 (by decide) (hts (.fieldLink RX1 29 "VineWall" "bearings" "[I") (List.mem_of_getElem? (i := 14) rfl)) (fun _ h9 => h9) rfl hin rfl (by decide +kernel) rfl rfl (Nat.le_of_ble_eq_true rfl) dX1_init_58 (fun H locs hP hD hS => ?_)
  have hP : va_P (dC, dI) vwCl ([(h0, .inr (1, [.ref q4, .ref q15, .ref q26, .ref q37, .ref q45, .ref q53, .int 0, .int 0, .int 0, .int 0, .int 0])), (q4, .inr (0, [.ref a4, .ref b4])), (a4, (.inl (cI, 8, .inl (fun _ => 0)))), (b4, (.inl (cI, 8, .inl (fun _ => 0)))), (q15, .inr (0, [.ref a15, .ref b15])), (a15, (.inl (cI, 8, .inl (fun _ => 0)))), (b15, (.inl (cI, 8, .inl (fun _ => 0)))), (q26, .inr (0, [.ref a26, .ref b26])), (a26, (.inl (cI, 8, .inl (fun _ => 0)))), (b26, (.inl (cI, 8, .inl (fun _ => 0)))), (q37, .inl (cL, 61, .inr (.inl (fun _ => 0)))), (q45, .inl (cL, 61, .inr (.inl (fun _ => 0)))), (q53, .inl (cI, 12, .inl (fun _ => 0)))]) H := hP
  have hD : va_D A ([(h0, .inr (1, [.ref q4, .ref q15, .ref q26, .ref q37, .ref q45, .ref q53, .int 0, .int 0, .int 0, .int 0, .int 0])), (q4, .inr (0, [.ref a4, .ref b4])), (a4, (.inl (cI, 8, .inl (fun _ => 0)))), (b4, (.inl (cI, 8, .inl (fun _ => 0)))), (q15, .inr (0, [.ref a15, .ref b15])), (a15, (.inl (cI, 8, .inl (fun _ => 0)))), (b15, (.inl (cI, 8, .inl (fun _ => 0)))), (q26, .inr (0, [.ref a26, .ref b26])), (a26, (.inl (cI, 8, .inl (fun _ => 0)))), (b26, (.inl (cI, 8, .inl (fun _ => 0)))), (q37, .inl (cL, 61, .inr (.inl (fun _ => 0)))), (q45, .inl (cL, 61, .inr (.inl (fun _ => 0)))), (q53, .inl (cI, 12, .inl (fun _ => 0)))]) := hD
  refine lv_aload_n hx hb dX1_init_61 rfl (lv_at hl 0 rfl) ?_
  refine lv_iconst (v := 0) hx hb dX1_init_62 (by decide) ?_
  refine va_put (D := (dC, dI)) (ci := 1) (v := .int 0) (ty := .int) (C := RX1) (T := TX1) (N := 11) hx hb hts inX1 tyX1 tyX1_ok nmX1 hown hK hP hD hS 0 rfl rfl 6 (by decide) (hts (.fieldLink RX1 33 "VineWall" "beyond" "I") (List.mem_of_getElem? (i := 15) rfl)) (fun _ h9 => h9) rfl (by decide +kernel) rfl rfl (Nat.le_of_ble_eq_true rfl) dX1_init_63 (fun H locs hP hD hS => ?_)
  have hP : va_P (dC, dI) vwCl ([(h0, .inr (1, [.ref q4, .ref q15, .ref q26, .ref q37, .ref q45, .ref q53, .int 0, .int 0, .int 0, .int 0, .int 0])), (q4, .inr (0, [.ref a4, .ref b4])), (a4, (.inl (cI, 8, .inl (fun _ => 0)))), (b4, (.inl (cI, 8, .inl (fun _ => 0)))), (q15, .inr (0, [.ref a15, .ref b15])), (a15, (.inl (cI, 8, .inl (fun _ => 0)))), (b15, (.inl (cI, 8, .inl (fun _ => 0)))), (q26, .inr (0, [.ref a26, .ref b26])), (a26, (.inl (cI, 8, .inl (fun _ => 0)))), (b26, (.inl (cI, 8, .inl (fun _ => 0)))), (q37, .inl (cL, 61, .inr (.inl (fun _ => 0)))), (q45, .inl (cL, 61, .inr (.inl (fun _ => 0)))), (q53, .inl (cI, 12, .inl (fun _ => 0)))]) H := hP
  have hD : va_D A ([(h0, .inr (1, [.ref q4, .ref q15, .ref q26, .ref q37, .ref q45, .ref q53, .int 0, .int 0, .int 0, .int 0, .int 0])), (q4, .inr (0, [.ref a4, .ref b4])), (a4, (.inl (cI, 8, .inl (fun _ => 0)))), (b4, (.inl (cI, 8, .inl (fun _ => 0)))), (q15, .inr (0, [.ref a15, .ref b15])), (a15, (.inl (cI, 8, .inl (fun _ => 0)))), (b15, (.inl (cI, 8, .inl (fun _ => 0)))), (q26, .inr (0, [.ref a26, .ref b26])), (a26, (.inl (cI, 8, .inl (fun _ => 0)))), (b26, (.inl (cI, 8, .inl (fun _ => 0)))), (q37, .inl (cL, 61, .inr (.inl (fun _ => 0)))), (q45, .inl (cL, 61, .inr (.inl (fun _ => 0)))), (q53, .inl (cI, 12, .inl (fun _ => 0)))]) := hD
  refine lv_aload_n hx hb dX1_init_66 rfl (lv_at hl 0 rfl) ?_
  refine lv_iconst (v := 0) hx hb dX1_init_67 (by decide) ?_
  refine va_put (D := (dC, dI)) (ci := 1) (v := .int 0) (ty := .int) (C := RX1) (T := TX1) (N := 11) hx hb hts inX1 tyX1 tyX1_ok nmX1 hown hK hP hD hS 0 rfl rfl 7 (by decide) (hts (.fieldLink RX1 37 "VineWall" "planted" "I") (List.mem_of_getElem? (i := 16) rfl)) (fun _ h9 => h9) rfl (by decide +kernel) rfl rfl (Nat.le_of_ble_eq_true rfl) dX1_init_68 (fun H locs hP hD hS => ?_)
  have hP : va_P (dC, dI) vwCl ([(h0, .inr (1, [.ref q4, .ref q15, .ref q26, .ref q37, .ref q45, .ref q53, .int 0, .int 0, .int 0, .int 0, .int 0])), (q4, .inr (0, [.ref a4, .ref b4])), (a4, (.inl (cI, 8, .inl (fun _ => 0)))), (b4, (.inl (cI, 8, .inl (fun _ => 0)))), (q15, .inr (0, [.ref a15, .ref b15])), (a15, (.inl (cI, 8, .inl (fun _ => 0)))), (b15, (.inl (cI, 8, .inl (fun _ => 0)))), (q26, .inr (0, [.ref a26, .ref b26])), (a26, (.inl (cI, 8, .inl (fun _ => 0)))), (b26, (.inl (cI, 8, .inl (fun _ => 0)))), (q37, .inl (cL, 61, .inr (.inl (fun _ => 0)))), (q45, .inl (cL, 61, .inr (.inl (fun _ => 0)))), (q53, .inl (cI, 12, .inl (fun _ => 0)))]) H := hP
  have hD : va_D A ([(h0, .inr (1, [.ref q4, .ref q15, .ref q26, .ref q37, .ref q45, .ref q53, .int 0, .int 0, .int 0, .int 0, .int 0])), (q4, .inr (0, [.ref a4, .ref b4])), (a4, (.inl (cI, 8, .inl (fun _ => 0)))), (b4, (.inl (cI, 8, .inl (fun _ => 0)))), (q15, .inr (0, [.ref a15, .ref b15])), (a15, (.inl (cI, 8, .inl (fun _ => 0)))), (b15, (.inl (cI, 8, .inl (fun _ => 0)))), (q26, .inr (0, [.ref a26, .ref b26])), (a26, (.inl (cI, 8, .inl (fun _ => 0)))), (b26, (.inl (cI, 8, .inl (fun _ => 0)))), (q37, .inl (cL, 61, .inr (.inl (fun _ => 0)))), (q45, .inl (cL, 61, .inr (.inl (fun _ => 0)))), (q53, .inl (cI, 12, .inl (fun _ => 0)))]) := hD
  refine lv_aload_n hx hb dX1_init_71 rfl (lv_at hl 0 rfl) ?_
  refine lv_iconst (v := 0) hx hb dX1_init_72 (by decide) ?_
  refine va_put (D := (dC, dI)) (ci := 1) (v := .int 0) (ty := .int) (C := RX1) (T := TX1) (N := 11) hx hb hts inX1 tyX1 tyX1_ok nmX1 hown hK hP hD hS 0 rfl rfl 8 (by decide) (hts (.fieldLink RX1 40 "VineWall" "cutsDone" "I") (List.mem_of_getElem? (i := 17) rfl)) (fun _ h9 => h9) rfl (by decide +kernel) rfl rfl (Nat.le_of_ble_eq_true rfl) dX1_init_73 (fun H locs hP hD hS => ?_)
  have hP : va_P (dC, dI) vwCl ([(h0, .inr (1, [.ref q4, .ref q15, .ref q26, .ref q37, .ref q45, .ref q53, .int 0, .int 0, .int 0, .int 0, .int 0])), (q4, .inr (0, [.ref a4, .ref b4])), (a4, (.inl (cI, 8, .inl (fun _ => 0)))), (b4, (.inl (cI, 8, .inl (fun _ => 0)))), (q15, .inr (0, [.ref a15, .ref b15])), (a15, (.inl (cI, 8, .inl (fun _ => 0)))), (b15, (.inl (cI, 8, .inl (fun _ => 0)))), (q26, .inr (0, [.ref a26, .ref b26])), (a26, (.inl (cI, 8, .inl (fun _ => 0)))), (b26, (.inl (cI, 8, .inl (fun _ => 0)))), (q37, .inl (cL, 61, .inr (.inl (fun _ => 0)))), (q45, .inl (cL, 61, .inr (.inl (fun _ => 0)))), (q53, .inl (cI, 12, .inl (fun _ => 0)))]) H := hP
  have hD : va_D A ([(h0, .inr (1, [.ref q4, .ref q15, .ref q26, .ref q37, .ref q45, .ref q53, .int 0, .int 0, .int 0, .int 0, .int 0])), (q4, .inr (0, [.ref a4, .ref b4])), (a4, (.inl (cI, 8, .inl (fun _ => 0)))), (b4, (.inl (cI, 8, .inl (fun _ => 0)))), (q15, .inr (0, [.ref a15, .ref b15])), (a15, (.inl (cI, 8, .inl (fun _ => 0)))), (b15, (.inl (cI, 8, .inl (fun _ => 0)))), (q26, .inr (0, [.ref a26, .ref b26])), (a26, (.inl (cI, 8, .inl (fun _ => 0)))), (b26, (.inl (cI, 8, .inl (fun _ => 0)))), (q37, .inl (cL, 61, .inr (.inl (fun _ => 0)))), (q45, .inl (cL, 61, .inr (.inl (fun _ => 0)))), (q53, .inl (cI, 12, .inl (fun _ => 0)))]) := hD
  refine lv_aload_n hx hb dX1_init_76 rfl (lv_at hl 0 rfl) ?_
  refine lv_iconst (v := 0) hx hb dX1_init_77 (by decide) ?_
  refine va_put (D := (dC, dI)) (ci := 1) (v := .int 0) (ty := .int) (C := RX1) (T := TX1) (N := 11) hx hb hts inX1 tyX1 tyX1_ok nmX1 hown hK hP hD hS 0 rfl rfl 9 (by decide) (hts (.fieldLink RX1 43 "VineWall" "generationsGone" "I") (List.mem_of_getElem? (i := 18) rfl)) (fun _ h9 => h9) rfl (by decide +kernel) rfl rfl (Nat.le_of_ble_eq_true rfl) dX1_init_78 (fun H locs hP hD hS => ?_)
  have hP : va_P (dC, dI) vwCl ([(h0, .inr (1, [.ref q4, .ref q15, .ref q26, .ref q37, .ref q45, .ref q53, .int 0, .int 0, .int 0, .int 0, .int 0])), (q4, .inr (0, [.ref a4, .ref b4])), (a4, (.inl (cI, 8, .inl (fun _ => 0)))), (b4, (.inl (cI, 8, .inl (fun _ => 0)))), (q15, .inr (0, [.ref a15, .ref b15])), (a15, (.inl (cI, 8, .inl (fun _ => 0)))), (b15, (.inl (cI, 8, .inl (fun _ => 0)))), (q26, .inr (0, [.ref a26, .ref b26])), (a26, (.inl (cI, 8, .inl (fun _ => 0)))), (b26, (.inl (cI, 8, .inl (fun _ => 0)))), (q37, .inl (cL, 61, .inr (.inl (fun _ => 0)))), (q45, .inl (cL, 61, .inr (.inl (fun _ => 0)))), (q53, .inl (cI, 12, .inl (fun _ => 0)))]) H := hP
  have hD : va_D A ([(h0, .inr (1, [.ref q4, .ref q15, .ref q26, .ref q37, .ref q45, .ref q53, .int 0, .int 0, .int 0, .int 0, .int 0])), (q4, .inr (0, [.ref a4, .ref b4])), (a4, (.inl (cI, 8, .inl (fun _ => 0)))), (b4, (.inl (cI, 8, .inl (fun _ => 0)))), (q15, .inr (0, [.ref a15, .ref b15])), (a15, (.inl (cI, 8, .inl (fun _ => 0)))), (b15, (.inl (cI, 8, .inl (fun _ => 0)))), (q26, .inr (0, [.ref a26, .ref b26])), (a26, (.inl (cI, 8, .inl (fun _ => 0)))), (b26, (.inl (cI, 8, .inl (fun _ => 0)))), (q37, .inl (cL, 61, .inr (.inl (fun _ => 0)))), (q45, .inl (cL, 61, .inr (.inl (fun _ => 0)))), (q53, .inl (cI, 12, .inl (fun _ => 0)))]) := hD
  refine lv_aload_n hx hb dX1_init_81 rfl (lv_at hl 0 rfl) ?_
  refine lv_iconst (v := 0) hx hb dX1_init_82 (by decide) ?_
  refine va_put (D := (dC, dI)) (ci := 1) (v := .int 0) (ty := .int) (C := RX1) (T := TX1) (N := 11) hx hb hts inX1 tyX1 tyX1_ok nmX1 hown hK hP hD hS 0 rfl rfl 10 (by decide) (hts (.fieldLink RX1 46 "VineWall" "fallen" "I") (List.mem_of_getElem? (i := 19) rfl)) (fun _ h9 => h9) rfl (by decide +kernel) rfl rfl (Nat.le_of_ble_eq_true rfl) dX1_init_83 (fun H locs hP hD hS => ?_)
  have hP : va_P (dC, dI) vwCl ([(h0, .inr (1, [.ref q4, .ref q15, .ref q26, .ref q37, .ref q45, .ref q53, .int 0, .int 0, .int 0, .int 0, .int 0])), (q4, .inr (0, [.ref a4, .ref b4])), (a4, (.inl (cI, 8, .inl (fun _ => 0)))), (b4, (.inl (cI, 8, .inl (fun _ => 0)))), (q15, .inr (0, [.ref a15, .ref b15])), (a15, (.inl (cI, 8, .inl (fun _ => 0)))), (b15, (.inl (cI, 8, .inl (fun _ => 0)))), (q26, .inr (0, [.ref a26, .ref b26])), (a26, (.inl (cI, 8, .inl (fun _ => 0)))), (b26, (.inl (cI, 8, .inl (fun _ => 0)))), (q37, .inl (cL, 61, .inr (.inl (fun _ => 0)))), (q45, .inl (cL, 61, .inr (.inl (fun _ => 0)))), (q53, .inl (cI, 12, .inl (fun _ => 0)))]) H := hP
  have hD : va_D A ([(h0, .inr (1, [.ref q4, .ref q15, .ref q26, .ref q37, .ref q45, .ref q53, .int 0, .int 0, .int 0, .int 0, .int 0])), (q4, .inr (0, [.ref a4, .ref b4])), (a4, (.inl (cI, 8, .inl (fun _ => 0)))), (b4, (.inl (cI, 8, .inl (fun _ => 0)))), (q15, .inr (0, [.ref a15, .ref b15])), (a15, (.inl (cI, 8, .inl (fun _ => 0)))), (b15, (.inl (cI, 8, .inl (fun _ => 0)))), (q26, .inr (0, [.ref a26, .ref b26])), (a26, (.inl (cI, 8, .inl (fun _ => 0)))), (b26, (.inl (cI, 8, .inl (fun _ => 0)))), (q37, .inl (cL, 61, .inr (.inl (fun _ => 0)))), (q45, .inl (cL, 61, .inr (.inl (fun _ => 0)))), (q53, .inl (cI, 12, .inl (fun _ => 0)))]) := hD
  refine lv_iconst (v := 0) hx hb dX1_init_86 (by decide) ?_
  refine lv_istore_n (lv' := [(1, .int 0), (0, .ref h0)]) hx hb dX1_init_87 rfl hl (by decide) rfl (fun ls hl => ?_)
  refine W.widen (k := 12) (n := 188) (Nat.le_of_ble_eq_true rfl) (Nat.le_of_ble_eq_true rfl) ?_
  have L : ∀ (n i : Nat) (be : Nat → Int32) (H : Heap) (locs : List Loc) (ls : Array Slot), i + n = 12 → (∀ k, k < i → be k = 5) → va_P (dC, dI) vwCl ([(h0, .inr (1, [.ref q4, .ref q15, .ref q26, .ref q37, .ref q45, .ref q53, .int 0, .int 0, .int 0, .int 0, .int 0])), (q4, .inr (0, [.ref a4, .ref b4])), (a4, (.inl (cI, 8, .inl (fun _ => 0)))), (b4, (.inl (cI, 8, .inl (fun _ => 0)))), (q15, .inr (0, [.ref a15, .ref b15])), (a15, (.inl (cI, 8, .inl (fun _ => 0)))), (b15, (.inl (cI, 8, .inl (fun _ => 0)))), (q26, .inr (0, [.ref a26, .ref b26])), (a26, (.inl (cI, 8, .inl (fun _ => 0)))), (b26, (.inl (cI, 8, .inl (fun _ => 0)))), (q37, .inl (cL, 61, .inr (.inl (fun _ => 0)))), (q45, .inl (cL, 61, .inr (.inl (fun _ => 0)))), (q53, .inl (cI, 12, .inl be))]) H → va_D A ([(h0, .inr (1, [.ref q4, .ref q15, .ref q26, .ref q37, .ref q45, .ref q53, .int 0, .int 0, .int 0, .int 0, .int 0])), (q4, .inr (0, [.ref a4, .ref b4])), (a4, (.inl (cI, 8, .inl (fun _ => 0)))), (b4, (.inl (cI, 8, .inl (fun _ => 0)))), (q15, .inr (0, [.ref a15, .ref b15])), (a15, (.inl (cI, 8, .inl (fun _ => 0)))), (b15, (.inl (cI, 8, .inl (fun _ => 0)))), (q26, .inr (0, [.ref a26, .ref b26])), (a26, (.inl (cI, 8, .inl (fun _ => 0)))), (b26, (.inl (cI, 8, .inl (fun _ => 0)))), (q37, .inl (cL, 61, .inr (.inl (fun _ => 0)))), (q45, .inl (cL, 61, .inr (.inl (fun _ => 0)))), (q53, .inl (cI, 12, .inl be))]) → va_S A s.heap H locs → lv_has ls 2 [(0, .ref h0), (1, .int (nI i))] → W p l e { frames := 2, cells := 12, slots := 188, locals := 32 } s m #[.ref h0] below meth c H locs 12 188 (MQ below (va_Qv (fun (u : (Nat → Nat) × (Nat → Int32)) => u.1 0 = h0 ∧ ∀ k, k < 12 → u.2 k = 5) (fun u t => va_P (dC, dI) vwCl (gv_V cI cL u.1 (fun _ => 0) (fun _ => 0) (fun _ => 0) (fun _ => 0) (fun _ => 0) (fun _ => 0) (fun _ => 0) (fun _ => 0) u.2 0 0 0 0 0) t.heap ∧ va_D A (gv_V cI cL u.1 (fun _ => 0) (fun _ => 0) (fun _ => 0) (fun _ => 0) (fun _ => 0) (fun _ => 0) (fun _ => 0) (fun _ => 0) u.2 0 0 0 0 0)) A) #[.ref h0] s 12 188 A) (F0 m 88 ls []) := by
    intro n
    induction n with
    | zero =>
      intro i be H locs ls hi hbe hP hD hS hl
      refine lv_iload_n hx hb dX1_init_88 rfl (lv_at hl 1 rfl) ?_
      refine lv_bipush (v := 12) hx hb dX1_init_89 (by decide) ?_
      refine lv_icmp_ge (tgt := 107) hx hb dX1_init_91 (by decide) (fun _ => ?_) (fun c => absurd c (gv_ge (N := 12) rfl rfl (by omega) (by omega)))
      exact W.vret hx hb hr (fun t ht hW => ⟨⟨((fun k => match k with | 0 => h0 | 1 => q4 | 2 => a4 | 3 => b4 | 4 => q15 | 5 => a15 | 6 => b15 | 7 => q26 | 8 => a26 | 9 => b26 | 10 => q37 | 11 => q45 | _ => q53), be), rfl, ⟨rfl, fun k hk => hbe k (by omega)⟩, ⟨by show va_P (dC, dI) vwCl _ t.heap; rw [ht]; exact hP, hD⟩⟩, hS.F ht⟩) hS.2.2 dX1_init_107
    | succ n ih =>
      intro i be H locs ls hi hbe hP hD hS hl
      refine lv_iload_n hx hb dX1_init_88 rfl (lv_at hl 1 rfl) ?_
      refine lv_bipush (v := 12) hx hb dX1_init_89 (by decide) ?_
      refine lv_icmp_ge (tgt := 107) hx hb dX1_init_91 (by decide) (fun c => absurd c (gv_lt (N := 12) rfl rfl (by omega) (by omega))) (fun _ => ?_)
      refine lv_aload_n hx hb dX1_init_94 rfl (lv_at hl 0 rfl) ?_
      refine va_get (D := (dC, dI)) (ci := 1) (v := .ref q53) (C := RX1) (T := TX1) (N := 11) hx hb hts inX1 hown hK hP 0 rfl rfl 5 (by decide) (hts (.fieldLink RX1 29 "VineWall" "bearings" "[I") (List.mem_of_getElem? (i := 14) rfl)) (fun _ h9 => h9) rfl dX1_init_95 ?_
      refine lv_iload_n hx hb dX1_init_98 rfl (lv_at hl 1 rfl) ?_
      refine lv_iconst (v := 5) hx hb dX1_init_99 (by decide) ?_
      refine gv_iast (cA := cI) (k := i) hx hb hK hP hD hS 12 0 rfl rfl rfl (by omega) (by decide) dX1_init_100 (fun H locs hP hD hS => ?_)
      refine lv_iinc (v := (nI (i + 1))) (lv' := [(1, .int (nI (i + 1))), (0, .ref h0)]) hx hb dX1_init_101 hl (k := 1) rfl (nI_1 i) (by decide) rfl (fun ls hl => ?_)
      refine lv_goto (tgt := 88) hx hb dX1_init_104 (by decide) ?_
      exact ih (i + 1) (upd be i 5) _ _ _ (by omega) (fun k hk => gz_fill hbe hk) hP hD hS (lv_sub hl [1, 0] rfl)
  exact L 12 0 (fun _ => 0) _ _ _ rfl (fun k hk => absurd hk (Nat.not_lt_zero k)) hP hD hS (lv_sub hl [1, 0] rfl)
end
section
/-! Numbers as rows of bits. -/
def ma_b (p : Nat → Bool) : Nat → Nat
  | 0 => 0
  | n + 1 => ma_b p n + (p n).toNat * 2 ^ n
theorem ma_le1 (b : Bool) : b.toNat ≤ 1 := by cases b <;> decide
theorem ma_lt (p : Nat → Bool) : ∀ n, ma_b p n < 2 ^ n
  | 0 => by show 0 < 1; decide
  | n + 1 => by
    have h := ma_lt p n
    have h2 := ma_le1 (p n)
    have h3 : (p n).toNat * 2 ^ n ≤ 1 * 2 ^ n := Nat.mul_le_mul_right _ h2
    rw [ma_b, Nat.pow_succ]
    omega
theorem ma_cong {p q : Nat → Bool} : ∀ {n : Nat}, (∀ k, k < n → p k = q k) → ma_b p n = ma_b q n
  | 0, _ => rfl
  | n + 1, h => by rw [ma_b, ma_b, ma_cong (fun k hk => h k (by omega)), h n (by omega)]
theorem ma_split (p : Nat → Bool) (c : Nat) : ∀ k, ma_b p (c + k) = ma_b p c + 2 ^ c * ma_b (fun j => p (c + j)) k
  | 0 => by rw [ma_b]; rfl
  | k + 1 => by
    have e : (p (c + k)).toNat * 2 ^ (c + k) = 2 ^ c * ((p (c + k)).toNat * 2 ^ k) := by rw [Nat.pow_add, Nat.mul_left_comm]
    show ma_b p (c + k) + (p (c + k)).toNat * 2 ^ (c + k) = ma_b p c + 2 ^ c * (ma_b (fun j => p (c + j)) k + (p (c + k)).toNat * 2 ^ k)
    rw [e, ma_split p c k, Nat.mul_add]
    omega
theorem ma_div (p : Nat → Bool) {c n : Nat} (h : c ≤ n) : ma_b p n / 2 ^ c = ma_b (fun j => p (c + j)) (n - c) := by
  obtain ⟨k, rfl⟩ : ∃ k, n = c + k := ⟨n - c, by omega⟩
  rw [ma_split, Nat.add_mul_div_left _ _ (Nat.two_pow_pos c), Nat.div_eq_of_lt (ma_lt p c), Nat.zero_add, Nat.add_sub_cancel_left]
theorem ma_mod2 (p : Nat → Bool) {n : Nat} (h : 0 < n) : ma_b p n % 2 = (p 0).toNat := by
  obtain ⟨k, rfl⟩ : ∃ k, n = 1 + k := ⟨n - 1, by omega⟩
  rw [ma_split]
  have h1 := ma_le1 (p 0)
  show (0 + (p 0).toNat * 1 + 2 * _) % 2 = _
  omega
theorem ma_mod8 (p : Nat → Bool) {n : Nat} (h : 3 ≤ n) : ma_b p n % 8 = (p 0).toNat + 2 * (p 1).toNat + 4 * (p 2).toNat := by
  obtain ⟨k, rfl⟩ : ∃ k, n = 3 + k := ⟨n - 3, by omega⟩
  rw [ma_split]
  have h0 := ma_le1 (p 0)
  have h1 := ma_le1 (p 1)
  have h2 := ma_le1 (p 2)
  show (0 + (p 0).toNat * 1 + (p 1).toNat * 2 + (p 2).toNat * 4 + 8 * _) % 8 = _
  omega
theorem ma_tb (p : Nat → Bool) (n k : Nat) : (ma_b p n).testBit k = (decide (k < n) && p k) := by
  rw [Nat.testBit_eq_decide_div_mod_eq]
  by_cases h : k < n
  · rw [ma_div p (Nat.le_of_lt h), ma_mod2 _ (by omega)]
    show decide ((p k).toNat = 1) = _
    cases hp : p k <;> simp [h]
  · have h1 : ma_b p n < 2 ^ k := Nat.lt_of_lt_of_le (ma_lt p n) (Nat.pow_le_pow_right (by decide) (by omega))
    rw [Nat.div_eq_of_lt h1]
    simp [h]
theorem ma_ext {x : Nat} {p : Nat → Bool} {n : Nat} (hx : x < 2 ^ n) (h : ∀ k, k < n → x.testBit k = p k) : x = ma_b p n := by
  apply Nat.eq_of_testBit_eq
  intro i
  rw [ma_tb]
  by_cases hi : i < n
  · rw [h i hi]; simp [hi]
  · have h1 : x < 2 ^ i := Nat.lt_of_lt_of_le hx (Nat.pow_le_pow_right (by decide) (by omega))
    rw [Nat.testBit_lt_two_pow h1]
    simp [hi]
theorem ma_inj {p q : Nat → Bool} {n : Nat} (h : ma_b p n = ma_b q n) : ∀ k, k < n → p k = q k := by
  intro k hk
  have h1 := ma_tb p n k
  have h2 := ma_tb q n k
  rw [h, h2] at h1
  simpa [hk] using h1.symm
-- ints
theorem mi_and (a b : Nat) : nI a &&& nI b = nI (a &&& b) := by
  apply Int32.toBitVec_inj.1
  show BitVec.ofNat 32 a &&& BitVec.ofNat 32 b = BitVec.ofNat 32 (a &&& b)
  apply BitVec.eq_of_getLsbD_eq
  intro i hi
  simp [hi]
theorem mi_or (a b : Nat) : nI a ||| nI b = nI (a ||| b) := by
  apply Int32.toBitVec_inj.1
  show BitVec.ofNat 32 a ||| BitVec.ofNat 32 b = BitVec.ofNat 32 (a ||| b)
  apply BitVec.eq_of_getLsbD_eq
  intro i hi
  simp [hi]
theorem mi_nand (a b d : Nat) (h : ∀ i, i < 32 → d.testBit i = (a.testBit i && !b.testBit i)) : nI a &&& (nI b ^^^ (-1)) = nI d := by
  have e0 : (-1 : Int32).toBitVec = BitVec.allOnes 32 := by decide
  apply Int32.toBitVec_inj.1
  rw [Int32.toBitVec_and, Int32.toBitVec_xor, e0]
  show BitVec.ofNat 32 a &&& (BitVec.ofNat 32 b ^^^ BitVec.allOnes 32) = BitVec.ofNat 32 d
  apply BitVec.eq_of_getLsbD_eq
  intro i hi
  rw [BitVec.getLsbD_and, BitVec.getLsbD_xor, BitVec.getLsbD_allOnes, BitVec.getLsbD_ofNat, BitVec.getLsbD_ofNat, BitVec.getLsbD_ofNat, h i hi]
  cases a.testBit i <;> cases b.testBit i <;> simp [hi]
theorem mi_sh : ∀ c, c < 32 → ((nI c &&& 31).toBitVec.smod 32).toNat = c := by decide +kernel
theorem mi_shr {n c : Nat} (hn : n < 2 ^ 31) (hc : c < 32) : nI n >>> (nI c &&& 31) = nI (n / 2 ^ c) := pk_shrN hn _ c (mi_sh c hc)
theorem mi_shl {n c : Nat} (hc : c < 32) (h : n * 2 ^ c < 2 ^ 32) : nI n <<< (nI c &&& 31) = nI (n * 2 ^ c) := pk_shlN _ c (mi_sh c hc) h
theorem mi_and1 {n : Nat} (h : n < 2 ^ 32) : nI n &&& 1 = nI (n % 2) := pk_andN h 1 (by decide)
theorem mi_and7 {n : Nat} (h : n < 2 ^ 32) : nI n &&& 7 = nI (n % 8) := pk_andN h 3 (by decide)
theorem mi_and5 {n : Nat} (h : n < 2 ^ 32) : nI n &&& 5 = nI (n % 8) &&& 5 := by
  rw [← mi_and7 h]
  apply Int32.toBitVec_inj.1
  rw [Int32.toBitVec_and, Int32.toBitVec_and, Int32.toBitVec_and]
  apply BitVec.eq_of_getLsbD_eq
  intro i hi
  rw [BitVec.getLsbD_and, BitVec.getLsbD_and, BitVec.getLsbD_and]
  have hb : ∀ i, i < 32 → (5 : Int32).toBitVec.getLsbD i = ((7 : Int32).toBitVec.getLsbD i && (5 : Int32).toBitVec.getLsbD i) := by decide +kernel
  have h1 := hb i hi
  revert h1
  cases (nI n).toBitVec.getLsbD i <;> cases (7 : Int32).toBitVec.getLsbD i <;> cases (5 : Int32).toBitVec.getLsbD i <;> decide
-- how many bits
def ma_pop (m : Nat) : Nat → Nat
  | 0 => 0
  | n + 1 => ma_pop m n + m / 2 ^ n % 2
def ma_ct (p : Nat → Bool) : Nat → Nat
  | 0 => 0
  | n + 1 => ma_ct p n + (p n).toNat
theorem ma_ct_cong {p q : Nat → Bool} : ∀ {n : Nat}, (∀ k, k < n → p k = q k) → ma_ct p n = ma_ct q n
  | 0, _ => rfl
  | n + 1, h => by rw [ma_ct, ma_ct, ma_ct_cong (fun k hk => h k (by omega)), h n (by omega)]
theorem ma_pop_b (p : Nat → Bool) (n : Nat) : ∀ k, k ≤ n → ma_pop (ma_b p n) k = ma_ct p k
  | 0, _ => rfl
  | k + 1, h => by rw [ma_pop, ma_ct, ma_pop_b p n k (by omega), ma_div p (by omega), ma_mod2 _ (by omega)]; rfl
theorem mb_8 : ∀ m, m < 8 → spJ6_bitCount_0f7a4 (nI m) = nI (m % 2 + m / 2 % 2 + m / 4 % 2) := by decide +kernel
theorem mb_85 : ∀ m, m < 8 → spJ6_bitCount_0f7a4 (nI m &&& 5) = nI (m % 2 + m / 4 % 2) := by decide +kernel
theorem mb_12a : ∀ a, a < 64 → ∀ b, b < 64 → spJ6_bitCount_0f7a4 (nI (64 * a + b)) = nI (ma_pop (64 * a + b) 12) := by decide +kernel
theorem mb_12 (m : Nat) (h : m < 4096) : spJ6_bitCount_0f7a4 (nI m) = nI (ma_pop m 12) := by
  have h1 := mb_12a (m / 64) (by omega) (m % 64) (by omega)
  rw [Nat.div_add_mod] at h1
  exact h1
theorem mb_row (p : Nat → Bool) : spJ6_bitCount_0f7a4 (nI (ma_b p 12)) = nI (ma_ct p 12) := by
  rw [mb_12 _ (ma_lt p 12), ma_pop_b p 12 12 (Nat.le_refl _)]
def ma_3 (q : Nat → Bool) (c : Nat) : Nat := (q c).toNat + (q (c + 1)).toNat + (q (c + 2)).toNat
theorem mb_h {q : Nat → Bool} {c : Nat} (hc : c < 12) : spJ6_bitCount_0f7a4 ((nI (ma_b q 14) >>> (nI c &&& 31)) &&& 7) = nI (ma_3 q c) := by
  have h1 : ma_b q 14 < 2 ^ 14 := ma_lt q 14
  have h2 : ma_b q 14 / 2 ^ c ≤ ma_b q 14 := Nat.div_le_self _ _
  rw [mi_shr (by omega) (by omega), mi_and7 (by omega), ma_div q (by omega), ma_mod8 _ (by omega)]
  show spJ6_bitCount_0f7a4 (nI ((q c).toNat + 2 * (q (c + 1)).toNat + 4 * (q (c + 2)).toNat)) = nI ((q c).toNat + (q (c + 1)).toNat + (q (c + 2)).toNat)
  cases q c <;> cases q (c + 1) <;> cases q (c + 2) <;> exact mb_8 _ (by decide)
theorem mb_n {q : Nat → Bool} {c : Nat} (hc : c < 12) : spJ6_bitCount_0f7a4 ((nI (ma_b q 14) >>> (nI c &&& 31)) &&& 5) = nI ((q c).toNat + (q (c + 2)).toNat) := by
  have h1 : ma_b q 14 < 2 ^ 14 := ma_lt q 14
  have h2 : ma_b q 14 / 2 ^ c ≤ ma_b q 14 := Nat.div_le_self _ _
  rw [mi_shr (by omega) (by omega), mi_and5 (by omega), ma_div q (by omega), ma_mod8 _ (by omega)]
  show spJ6_bitCount_0f7a4 (nI ((q c).toNat + 2 * (q (c + 1)).toNat + 4 * (q (c + 2)).toNat) &&& 5) = nI ((q c).toNat + (q (c + 2)).toNat)
  cases q c <;> cases q (c + 1) <;> cases q (c + 2) <;> exact mb_85 _ (by decide)
theorem mb_holders {q : Nat → Bool} {c : Nat} (hc : c < 12) : spX0_countHolders (nI (ma_b q 14) >>> (nI c &&& 31)) = nI (ma_3 q c) := mb_h hc
theorem mb_neigh {qa qb qd : Nat → Bool} {c : Nat} (hc : c < 12) : spX0_countNeighbours (nI (ma_b qa 14) >>> (nI c &&& 31)) (nI (ma_b qb 14) >>> (nI c &&& 31)) (nI (ma_b qd 14) >>> (nI c &&& 31)) = nI (ma_3 qa c + ((qb c).toNat + (qb (c + 2)).toNat) + ma_3 qd c) := by
  show spJ6_bitCount_0f7a4 _ + spJ6_bitCount_0f7a4 _ + spJ6_bitCount_0f7a4 _ = _
  rw [mb_h hc, mb_n hc, mb_h hc, nI_add, nI_add]
end
section
/-! The wall's rows as leaves and cuts. -/
theorem gv_e1 {α β : Type} (a : α) (k : α → β) : gv_b a k = k a := rfl
theorem gv_e2 {α γ β : Type} (a : α) (b : γ) (k : α → γ → β) : gv_b2 (a, b) k = k a b := rfl
theorem gv_e3 {α γ δ β : Type} (a : α) (b : γ) (c : δ) (k : α → γ → δ → β) : gv_b3 (a, b, c) k = k a b c := rfl
def ma_u (p : Nat → Bool) : Nat → Nat → Nat
  | 0, _ => 0
  | n + 1, i => (p i).toNat + ma_u p n (i + 1)
theorem ma_u_le (p : Nat → Bool) : ∀ n i, ma_u p n i ≤ n
  | 0, _ => Nat.le_refl 0
  | n + 1, i => by
    have h1 := ma_le1 (p i)
    have h2 := ma_u_le p n (i + 1)
    rw [ma_u]
    omega
theorem ma_u_cong {p q : Nat → Bool} : ∀ {n i : Nat}, (∀ k, i ≤ k → k < i + n → p k = q k) → ma_u p n i = ma_u q n i
  | 0, _, _ => rfl
  | n + 1, i, h => by rw [ma_u, ma_u, h i (by omega) (by omega), ma_u_cong (n := n) (fun k h1 h2 => h k (by omega) (by omega))]
def mF (f : Nat → Int32) (L : Nat → Nat → Bool) : Prop := ∀ r, r < 8 → f r = nI (ma_b (L r) 12)
def ma_x (L : Nat → Nat → Bool) (R : Nat) : Nat → Bool := fun c => decide (1 ≤ R ∧ R ≤ 8) && L (R - 1) c
def ma_s (s : Int32) (p : Nat → Bool) (k : Nat) : Bool := if 1 ≤ k ∧ k ≤ 12 then p (k - 1) else if s = 1 then (if k = 0 then p 11 else p 0) else if s = 2 then (if k = 0 then p 0 else p 11) else false
def ma_r (leaf cut : Bool) (ho ne sh : Nat) : Bool := if ho = 0 then false else if cut then false else if leaf then decide (ne ≤ 5 ∧ sh ≤ 4) else decide (ho ≤ 2 ∧ ne ≤ 3 ∧ sh ≤ 2)
def ma_ho (s : Int32) (L : Nat → Nat → Bool) (r c : Nat) : Nat := ma_3 (ma_s s (ma_x L r)) c
def ma_ne (s : Int32) (L : Nat → Nat → Bool) (r c : Nat) : Nat := ma_3 (ma_s s (ma_x L r)) c + ((ma_s s (ma_x L (r + 1)) c).toNat + (ma_s s (ma_x L (r + 1)) (c + 2)).toNat) + ma_3 (ma_s s (ma_x L (r + 2))) c
def ma_sd (L : Nat → Nat → Bool) (w c : Nat) : Nat := ma_u (fun q => L q c) (8 - w) w
def ma_nx (s : Int32) (L C : Nat → Nat → Bool) (r c : Nat) : Bool := if r = 0 then L 0 c else ma_r (L r c) (C r c) (ma_ho s L r c) (ma_ne s L r c) (ma_sd L (r + 1) c)
theorem ma_3_le (q : Nat → Bool) (c : Nat) : ma_3 q c ≤ 3 := by
  have h0 := ma_le1 (q c)
  have h1 := ma_le1 (q (c + 1))
  have h2 := ma_le1 (q (c + 2))
  unfold ma_3
  omega
theorem ma_ne_le (s : Int32) (L : Nat → Nat → Bool) (r c : Nat) : ma_ne s L r c ≤ 8 := by
  have h0 := ma_3_le (ma_s s (ma_x L r)) c
  have h1 := ma_3_le (ma_s s (ma_x L (r + 2))) c
  have h2 := ma_le1 (ma_s s (ma_x L (r + 1)) c)
  have h3 := ma_le1 (ma_s s (ma_x L (r + 1)) (c + 2))
  unfold ma_ne
  omega
theorem ma_x_s {L : Nat → Nat → Bool} {r : Nat} (h : r < 8) (c : Nat) : ma_x L (r + 1) c = L r c := by
  unfold ma_x
  rw [decide_eq_true (show 1 ≤ r + 1 ∧ r + 1 ≤ 8 by omega), Bool.true_and]
  rfl
theorem ma_x_o {L : Nat → Nat → Bool} {R : Nat} (h : ¬ (1 ≤ R ∧ R ≤ 8)) (c : Nat) : ma_x L R c = false := by
  unfold ma_x
  rw [decide_eq_false h, Bool.false_and]
theorem ma_b0 : ma_b (fun _ => false) 12 = 0 := by decide
theorem nI_m1 : (nI 0 - 1 : Int32) < 0 := by decide
theorem mc_leafRow {f h : Nat → Int32} {L : Nat → Nat → Bool} (hf : mF f L) {R : Nat} (hR : R ≤ 9) : spX0_leafRow f h (nI R - 1) = nI (ma_b (ma_x L R) 12) := by
  unfold spX0_leafRow
  cases R with
  | zero =>
    rw [if_pos nI_m1, ma_cong (q := fun _ => false) (fun k _ => ma_x_o (by omega) k), ma_b0]
    rfl
  | succ r =>
    rw [nI_pred, if_neg (nI_pos (by omega))]
    by_cases hr : r < 8
    · rw [if_neg (show ¬ (8 : Int32) ≤ nI r from nI_ge (b := 8) hr (by decide)), nI_clamp (by omega), hf r hr, ma_cong (fun k _ => (ma_x_s hr k).symm)]
    · obtain rfl : r = 8 := by omega
      rw [if_pos (show (8 : Int32) ≤ nI 8 from nI_le (a := 8) (Nat.le_refl 8) (by decide)), ma_cong (q := fun _ => false) (fun k _ => ma_x_o (by omega) k), ma_b0]
      rfl
theorem mc_leafRow' {f h : Nat → Int32} {L : Nat → Nat → Bool} (hf : mF f L) {r : Nat} (hr : r < 8) : spX0_leafRow f h (nI r) = nI (ma_b (L r) 12) := by
  have h1 := mc_leafRow (h := h) hf (R := r + 1) (by omega)
  rw [nI_pred] at h1
  rw [h1, ma_cong (fun k _ => ma_x_s hr k)]
-- a row as it is seen
theorem mt_b (b : Bool) (k : Nat) : b.toNat.testBit k = (decide (k = 0) && b) := by
  rw [Nat.testBit_eq_decide_div_mod_eq]
  cases b with
  | false => simp
  | true =>
    cases k with
    | zero => simp
    | succ k =>
      have h1 : 1 / 2 ^ (k + 1) = 0 := Nat.div_eq_of_lt (Nat.lt_of_lt_of_le (by decide : 1 < 2 ^ 1) (Nat.pow_le_pow_right (by decide) (by omega)))
      have h2 : decide (1 / 2 ^ (k + 1) % 2 = 1) = false := decide_eq_false (by rw [h1]; decide)
      show decide (1 / 2 ^ (k + 1) % 2 = 1) = _
      rw [h2]
      rfl
theorem mt_h (b : Bool) (k : Nat) : (b.toNat * 2 ^ 13).testBit k = (decide (k = 13) && b) := by
  cases b with
  | false => simp
  | true =>
    show (1 * 2 ^ 13).testBit k = _
    rw [Nat.one_mul, Nat.testBit_two_pow]
    by_cases h : k = 13
    · subst h; rfl
    · rw [decide_eq_false h, decide_eq_false (fun e => h e.symm)]; rfl
theorem mt_d (n k : Nat) : (n * 2).testBit k = (decide (0 < k) && n.testBit (k - 1)) := by
  cases k with
  | zero =>
    rw [Nat.testBit_eq_decide_div_mod_eq]
    have h1 : ¬ (n * 2 / 2 ^ 0 % 2 = 1) := by
      show ¬ (n * 2 / 1 % 2 = 1)
      rw [Nat.div_one]
      omega
    rw [decide_eq_false h1]
    rfl
  | succ k =>
    rw [Nat.testBit_succ, show n * 2 / 2 = n by omega, decide_eq_true (Nat.succ_pos k), Bool.true_and]
    rfl
theorem ms_1 (q : Nat → Bool) : ma_b q 12 * 2 ||| ((q 11).toNat ||| (q 0).toNat * 2 ^ 13) = ma_b (ma_s 1 q) 14 := by
  have hn : ma_b q 12 < 2 ^ 12 := ma_lt q 12
  have h11 := ma_le1 (q 11)
  have h0 := ma_le1 (q 0)
  refine ma_ext ?_ (fun k hk => ?_)
  · exact Nat.or_lt_two_pow (by omega) (Nat.or_lt_two_pow (by omega) (by omega))
  · rw [Nat.testBit_or, Nat.testBit_or, mt_d, mt_b, mt_h, ma_tb]
    unfold ma_s
    by_cases a : k = 0
    · subst a; simp
    · by_cases b : k = 13
      · subst b; simp
      · have h1 : 1 ≤ k ∧ k ≤ 12 := by omega
        have h2 : k - 1 < 12 := by omega
        have h3 : 0 < k := by omega
        simp [a, b, h1, h2, h3]
theorem ms_2 (q : Nat → Bool) : ma_b q 12 * 2 ||| ((q 0).toNat ||| (q 11).toNat * 2 ^ 13) = ma_b (ma_s 2 q) 14 := by
  have hn : ma_b q 12 < 2 ^ 12 := ma_lt q 12
  have h11 := ma_le1 (q 11)
  have h0 := ma_le1 (q 0)
  refine ma_ext ?_ (fun k hk => ?_)
  · exact Nat.or_lt_two_pow (by omega) (Nat.or_lt_two_pow (by omega) (by omega))
  · rw [Nat.testBit_or, Nat.testBit_or, mt_d, mt_b, mt_h, ma_tb]
    unfold ma_s
    have e21 : ¬ (2 : Int32) = 1 := by decide
    by_cases a : k = 0
    · subst a; simp [e21]
    · by_cases b : k = 13
      · subst b; simp [e21]
      · have h1 : 1 ≤ k ∧ k ≤ 12 := by omega
        have h2 : k - 1 < 12 := by omega
        have h3 : 0 < k := by omega
        simp [a, b, h1, h2, h3]
theorem ms_0 (q : Nat → Bool) {s : Int32} (hs1 : ¬ s = 1) (hs2 : ¬ s = 2) : ma_b q 12 * 2 = ma_b (ma_s s q) 14 := by
  have hn : ma_b q 12 < 2 ^ 12 := ma_lt q 12
  refine ma_ext (by omega) (fun k hk => ?_)
  rw [mt_d, ma_tb]
  unfold ma_s
  by_cases a : k = 0
  · subst a; simp [hs1, hs2]
  · by_cases b : k = 13
    · subst b; simp [hs1, hs2]
    · have h1 : 1 ≤ k ∧ k ≤ 12 := by omega
      have h2 : k - 1 < 12 := by omega
      have h3 : 0 < k := by omega
      simp [h1, h2, h3]
theorem mc_seen {f h : Nat → Int32} {L : Nat → Nat → Bool} (hf : mF f L) {R : Nat} (hR : R ≤ 9) (s : Int32) : spX0_leafRowAsSeen f h (nI R - 1) s = nI (ma_b (ma_s s (ma_x L R)) 14) := by
  unfold spX0_leafRowAsSeen gv_b
  rw [mc_leafRow hf hR]
  generalize ma_x L R = q
  have hn : ma_b q 12 < 2 ^ 12 := ma_lt q 12
  have h11 := ma_le1 (q 11)
  have h0 := ma_le1 (q 0)
  have e1 : nI (ma_b q 12) <<< ((1 : Int32) &&& 31) = nI (ma_b q 12 * 2) := mi_shl (c := 1) (by decide) (by omega)
  have e2 : nI (ma_b q 12) &&& 1 = nI (q 0).toNat := by rw [mi_and1 (by omega), ma_mod2 _ (by decide)]
  have e3 : (nI (ma_b q 12) >>> ((11 : Int32) &&& 31)) &&& 1 = nI (q 11).toNat := by
    have e : nI (ma_b q 12) >>> ((11 : Int32) &&& 31) = nI (ma_b q 12 / 2 ^ 11) := mi_shr (c := 11) (by omega) (by decide)
    rw [e, ma_div q (by decide), mi_and1 (Nat.lt_trans (ma_lt _ _) (by decide)), ma_mod2 _ (by decide)]
  have e4 : ∀ b : Bool, nI b.toNat <<< ((13 : Int32) &&& 31) = nI (b.toNat * 2 ^ 13) := fun b => by
    have := ma_le1 b
    exact mi_shl (c := 13) (by decide) (by omega)
  dsimp only
  rw [e1, e2, e3, e4, e4]
  by_cases h1 : s = 1
  · subst h1
    rw [if_pos rfl, mi_or, mi_or, ms_1]
  · rw [if_neg h1]
    by_cases h2 : s = 2
    · subst h2
      rw [if_pos rfl, mi_or, mi_or, ms_2]
    · rw [if_neg h2, ms_0 q h1 h2]
-- single cells
theorem mc_bit {p : Nat → Bool} {c : Nat} (hc : c < 12) : (nI (ma_b p 12) >>> (nI c &&& 31)) &&& 1 = nI (p c).toNat := by
  have hn : ma_b p 12 < 2 ^ 12 := ma_lt p 12
  rw [mi_shr (by omega) (by omega), ma_div p (by omega), mi_and1 (Nat.lt_of_lt_of_le (ma_lt _ _) (Nat.pow_le_pow_right (by decide) (by omega))), ma_mod2 _ (by omega)]
  rfl
theorem mc_leafAt {f h : Nat → Int32} {L : Nat → Nat → Bool} (hf : mF f L) {r c : Nat} (hr : r < 8) (hc : c < 12) : spX0_hasLeafAt f h (nI r) (nI c) = if L r c = true then 1 else 0 := by
  unfold spX0_hasLeafAt gv_b
  dsimp only
  rw [mc_leafRow' hf hr, mc_bit hc]
  cases L r c <;> rfl
theorem mc_cutAt {f h : Nat → Int32} {C : Nat → Nat → Bool} (hh : mF h C) {r c : Nat} (hr : r < 8) (hc : c < 12) : spX0_hasCutAt f h (nI r) (nI c) = if C r c = true then 1 else 0 := by
  unfold spX0_hasCutAt
  rw [if_neg (nI_pos (by omega)), if_neg (show ¬ (8 : Int32) ≤ nI r from nI_ge (b := 8) hr (by decide)), nI_clamp (by omega), hh r hr, mc_bit hc]
  cases C r c <;> rfl
theorem mc_shade_l {f h : Nat → Int32} {L : Nat → Nat → Bool} (hf : mF f L) {c : Nat} (hc : c < 12) : ∀ (n i a : Nat), i + n = 8 → lpX0_shadeAt_7 (nI c) f h n i (nI a) = nI (a + ma_u (fun q => L q c) n i)
  | 0, _, _, _ => rfl
  | n + 1, i, a, hi => by
    rw [lpX0_shadeAt_7_s]
    unfold gv_b
    dsimp only
    rw [mc_leafRow' hf (by omega), mc_bit hc, nI_add, mc_shade_l hf hc n (i + 1) _ (by omega), ma_u, Nat.add_assoc]
theorem mc_shade {f h : Nat → Int32} {L : Nat → Nat → Bool} (hf : mF f L) {w c : Nat} (hw : w ≤ 8) (hc : c < 12) : spX0_shadeAt f h w (nI c) = nI (ma_sd L w c) := by
  have h1 := mc_shade_l (h := h) hf hc (8 - w) w 0 (by omega)
  rw [Nat.zero_add] at h1
  exact h1
theorem mc_col {f h : Nat → Int32} {L : Nat → Nat → Bool} (hf : mF f L) {c : Nat} (hc : c < 12) : spX0_countInColumn f h (nI c) = nI (ma_sd L 0 c) := by
  rw [spX0_countInColumn_e, gv_e1]
  exact mc_shade hf (Nat.zero_le 8) hc
theorem nI_lit {n : Nat} {x : Int32} (hx : x = nI n) (a : Nat) (hn : n < 2 ^ 31) (ha : a < 2 ^ 31) : (x < nI a) = (n < a) := by
  subst hx
  exact propext (nI_ltI hn ha)
theorem mc_bears {f h : Nat → Int32} {L C : Nat → Nat → Bool} (hf : mF f L) (hh : mF h C) {r c ho ne : Nat} (hr : r < 8) (hc : c < 12) (h1 : ho < 2 ^ 31) (h2 : ne < 2 ^ 31) : spX0_bearsLeafNext f h r (nI c) (nI ho) (nI ne) = if ma_r (L r c) (C r c) ho ne (ma_sd L (r + 1) c) = true then 1 else 0 := by
  have h3 : ma_sd L (r + 1) c < 2 ^ 31 := Nat.lt_of_le_of_lt (ma_u_le _ _ _) (by omega)
  unfold spX0_bearsLeafNext gv_b ma_r
  dsimp only
  rw [mc_cutAt hh hr hc, mc_shade hf (by omega) hc, mc_leafAt hf hr hc]
  have k0 : (nI ho = 0) = (ho = 0) := propext (nI_eq (b := 0) h1 (by decide))
  have k2 : ((2 : Int32) < nI ho) = (2 < ho) := propext (nI_ltI (a := 2) (by decide) h1)
  have k3 : ((3 : Int32) < nI ne) = (3 < ne) := propext (nI_ltI (a := 3) (by decide) h2)
  have k5 : ((5 : Int32) < nI ne) = (5 < ne) := propext (nI_ltI (a := 5) (by decide) h2)
  have s2 : ((2 : Int32) < nI (ma_sd L (r + 1) c)) = (2 < ma_sd L (r + 1) c) := propext (nI_ltI (a := 2) (by decide) h3)
  have s4 : ((4 : Int32) < nI (ma_sd L (r + 1) c)) = (4 < ma_sd L (r + 1) c) := propext (nI_ltI (a := 4) (by decide) h3)
  simp only [k0, k2, k3, k5, s2, s4]
  generalize ma_sd L (r + 1) c = sd
  by_cases a0 : ho = 0
  · simp [a0]
  · rw [if_neg a0, if_neg a0]
    cases C r c with
    | true => rfl
    | false =>
      rw [if_neg (by decide : ¬ (false = true)), if_pos rfl]
      cases L r c with
      | true =>
        rw [if_pos rfl, if_neg (by decide : ¬ (1 : Int32) = 0)]
        by_cases a : 5 < ne
        · rw [if_pos a, if_neg (by simp; omega)]
        · rw [if_neg a]
          by_cases b : 4 < sd
          · rw [if_pos b, if_neg (by simp; omega)]
          · rw [if_neg b, if_pos (by simp; omega)]
      | false =>
        rw [if_neg (by decide : ¬ (false = true)), if_pos rfl]
        by_cases a : 2 < ho
        · rw [if_pos a, if_neg (by simp; omega)]
        · rw [if_neg a]
          by_cases b : 3 < ne
          · rw [if_pos b, if_neg (by simp; omega)]
          · rw [if_neg b]
            by_cases d : 2 < sd
            · rw [if_pos d, if_neg (by simp; omega)]
            · rw [if_neg d, if_pos (by simp; omega)]
theorem ma_or_bit {a i : Nat} (h : a < 2 ^ i) : a ||| 2 ^ i = a + 2 ^ i := by
  have h1 := Nat.two_pow_add_eq_or_of_lt h 1
  rw [Nat.mul_one] at h1
  rw [Nat.or_comm, ← h1, Nat.add_comm]
theorem mc_next_l {f h : Nat → Int32} {L C : Nat → Nat → Bool} (hf : mF f L) (hh : mF h C) (s : Int32) {r : Nat} (hr : r < 8) (h0 : ¬ r = 0) : ∀ (n i : Nat), i + n = 12 → lpX0_leafRowNext_43 r (nI (ma_b (ma_s s (ma_x L r)) 14)) (nI (ma_b (ma_s s (ma_x L (r + 1))) 14)) (nI (ma_b (ma_s s (ma_x L (r + 2))) 14)) f h n i (nI (ma_b (ma_nx s L C r) i)) = nI (ma_b (ma_nx s L C r) 12)
  | 0, i, hi => by
    obtain rfl : i = 12 := by omega
    rfl
  | n + 1, i, hi => by
    have hl : ma_b (ma_nx s L C r) i < 2 ^ i := ma_lt _ i
    have hl2 : 2 ^ i ≤ 2 ^ 12 := Nat.pow_le_pow_right (by decide) (by omega)
    have h3 := ma_3_le (ma_s s (ma_x L r)) i
    have h8 := ma_ne_le s L r i
    have ih := mc_next_l hf hh s hr h0 n (i + 1) (by omega)
    rw [lpX0_leafRowNext_43_s]
    unfold gv_b
    dsimp only
    rw [mb_holders (by omega), mb_neigh (by omega)]
    have hb := mc_bears hf hh hr (c := i) (by omega) (ho := ma_3 (ma_s s (ma_x L r)) i) (ne := ma_ne s L r i) (by omega) (by omega)
    have hb2 : spX0_bearsLeafNext f h r (nI i) (nI (ma_3 (ma_s s (ma_x L r)) i)) (nI (ma_3 (ma_s s (ma_x L r)) i + ((ma_s s (ma_x L (r + 1)) i).toNat + (ma_s s (ma_x L (r + 1)) (i + 2)).toNat) + ma_3 (ma_s s (ma_x L (r + 2))) i)) = if ma_nx s L C r i = true then 1 else 0 := by
      have e : ma_nx s L C r i = ma_r (L r i) (C r i) (ma_3 (ma_s s (ma_x L r)) i) (ma_ne s L r i) (ma_sd L (r + 1) i) := by
        unfold ma_nx
        rw [if_neg h0]
        rfl
      rw [e]
      exact hb
    rw [hb2]
    have e1 : (1 : Int32) <<< (nI i &&& 31) = nI (2 ^ i) := by
      have := mi_shl (n := 1) (c := i) (by omega) (by omega)
      rw [Nat.one_mul] at this
      exact this
    cases hq : ma_nx s L C r i with
    | true =>
      rw [if_pos rfl, if_neg (by decide : ¬ (1 : Int32) = 0), e1, mi_or, ma_or_bit hl]
      have es : ma_b (ma_nx s L C r) (i + 1) = ma_b (ma_nx s L C r) i + 2 ^ i := by
        rw [ma_b, hq]
        show _ + 1 * 2 ^ i = _
        rw [Nat.one_mul]
      rw [es] at ih
      exact ih
    | false =>
      rw [if_neg (by decide : ¬ (false = true)), if_pos rfl]
      have es : ma_b (ma_nx s L C r) (i + 1) = ma_b (ma_nx s L C r) i := by
        rw [ma_b, hq]
        show _ + 0 * 2 ^ i = _
        rw [Nat.zero_mul, Nat.add_zero]
      rw [es] at ih
      exact ih
theorem mc_next {f h : Nat → Int32} {L C : Nat → Nat → Bool} (hf : mF f L) (hh : mF h C) (s : Int32) {r : Nat} (hr : r < 8) : spX0_leafRowNext f h r s = nI (ma_b (ma_nx s L C r) 12) := by
  rw [spX0_leafRowNext_e]
  by_cases h0 : r = 0
  · subst h0
    rw [if_pos (show nI 0 = 0 from rfl)]
    rw [gv_e1, show spX0_leafRow f h 0 = nI (ma_b (L 0) 12) from mc_leafRow' hf hr]
    exact congrArg nI (ma_cong (fun k _ => by unfold ma_nx; rw [if_pos rfl]))
  · have k0 : ¬ nI r = 0 := nI_ne0 (by omega) (by omega)
    have e1 : nI r = nI (r + 1) - 1 := (nI_pred r).symm
    have e2 : nI r + 1 = nI (r + 2) - 1 := by rw [nI_pred, nI_1]
    rw [if_neg k0]
    rw [gv_e1, gv_e1, gv_e1]
    rw [e2, mc_seen hf (R := r + 2) (by omega) s, mc_seen hf (R := r) (by omega) s]
    rw [show spX0_leafRowAsSeen f h (nI r) s = nI (ma_b (ma_s s (ma_x L (r + 1))) 14) by rw [e1]; exact mc_seen hf (by omega) s]
    have hz := mc_next_l hf hh s hr h0 12 0 rfl
    have ez : nI (ma_b (ma_nx s L C r) 0) = 0 := rfl
    rw [ez] at hz
    exact hz
end
section
/-! What comes behind a generation: what grows, and what breaks. -/
def ma_t : Nat → Nat → (Nat → Bool) → Nat → Bool
  | 0, _, p => p
  | n + 1, k, p => if k = 0 then p else if p n then ma_t n (k - 1) (fun r => if r = n then false else p r) else ma_t n k p
def ma_tn : Nat → Nat → (Nat → Bool) → Nat
  | 0, _, _ => 0
  | n + 1, k, p => if k = 0 then 0 else if p n then ma_tn n (k - 1) (fun r => if r = n then false else p r) + 1 else ma_tn n k p
def ma_set (L : Nat → Nat → Bool) (c : Nat) (p : Nat → Bool) : Nat → Nat → Bool := fun q k => if k = c then p q else L q k
def ma_gr (B : Nat → Nat) (L : Nat → Nat → Bool) (i : Nat) : Nat → Nat → Bool := fun q k => if k < i then ma_t 8 (ma_sd L 0 k - B k) (fun r => L r k) q else L q k
def ma_gn (B : Nat → Nat) (L : Nat → Nat → Bool) : Nat → Nat
  | 0 => 0
  | n + 1 => ma_gn B L n + ma_tn 8 (ma_sd L 0 n - B n) (fun r => L r n)
def mB (be : Nat → Int32) (B : Nat → Nat) : Prop := ∀ k, k < 12 → be k = nI (B k) ∧ B k ≤ 8
def ma_C0 : Nat → Nat → Bool := fun _ _ => false
theorem ma_set_self (L : Nat → Nat → Bool) (c : Nat) : ma_set L c (fun q => L q c) = L := by
  funext q k
  unfold ma_set
  by_cases h : k = c
  · subst h; rw [if_pos rfl]
  · rw [if_neg h]
theorem mF_eq {f : Nat → Int32} {L M : Nat → Nat → Bool} (h : mF f L) (e : L = M) : mF f M := e ▸ h
theorem mF_cong {f : Nat → Int32} {L M : Nat → Nat → Bool} (h : mF f L) (e : ∀ r k, r < 8 → k < 12 → L r k = M r k) : mF f M := fun r hr => by rw [h r hr, ma_cong (fun k hk => e r k hr hk)]
theorem mi_1shl {c : Nat} (hc : c < 12) : (1 : Int32) <<< (nI c &&& 31) = nI (2 ^ c) := by
  have h2 : 2 ^ c ≤ 2 ^ 12 := Nat.pow_le_pow_right (by decide) (by omega)
  have := mi_shl (n := 1) (c := c) (by omega) (by omega)
  rw [Nat.one_mul] at this
  exact this
theorem mc_take {f h : Nat → Int32} {L : Nat → Nat → Bool} (hf : mF f L) {r c : Nat} (hr : r < 8) (hc : c < 12) : mF (spX0_takeLeaf f h (nI r) (nI c)) (fun q k => if q = r ∧ k = c then false else L q k) := by
  rw [spX0_takeLeaf_e, gv_e1, mc_isCell hr hc, if_neg (by decide : ¬ (1 : Int32) = 0), nI_clamp (by omega), mi_1shl hc]
  intro q hq
  unfold upd
  by_cases e : q = r
  · subst e
    rw [if_pos rfl, hf q hq]
    refine mi_nand _ _ _ (fun i _ => ?_)
    rw [ma_tb, ma_tb, Nat.testBit_two_pow]
    by_cases e2 : i = c
    · subst e2; simp
    · have e3 : ¬ c = i := fun z => e2 z.symm
      simp [e2, e3]
  · rw [if_neg e, hf q hq]
    exact congrArg nI (ma_cong (fun k _ => (if_neg (fun z : q = r ∧ k = c => e z.1)).symm))
theorem mc_orbit {p : Nat → Bool} {c : Nat} (hc : c < 12) : ma_b p 12 ||| 2 ^ c = ma_b (fun k => if k = c then true else p k) 12 := by
  refine ma_ext (Nat.or_lt_two_pow (ma_lt p 12) (Nat.pow_lt_pow_right (by decide) hc)) (fun k hk => ?_)
  rw [Nat.testBit_or, ma_tb, Nat.testBit_two_pow]
  by_cases e2 : k = c
  · subst e2; simp
  · have e3 : ¬ c = k := fun z => e2 z.symm
    simp [e2, e3, hk]
theorem mc_or {f : Nat → Int32} {L : Nat → Nat → Bool} (hf : mF f L) {r c : Nat} (hr : r < 8) (hc : c < 12) : mF (upd f r (f r ||| ((1 : Int32) <<< (nI c &&& 31)))) (fun q k => if q = r ∧ k = c then true else L q k) := by
  intro q hq
  unfold upd
  by_cases e : q = r
  · subst e
    rw [if_pos rfl, hf q hq, mi_1shl hc, mi_or, mc_orbit hc]
    exact congrArg nI (ma_cong (fun k _ => by
      dsimp only
      by_cases e2 : k = c
      · rw [if_pos e2, if_pos ⟨rfl, e2⟩]
      · rw [if_neg e2, if_neg (fun z => e2 z.2)]))
  · rw [if_neg e, hf q hq]
    exact congrArg nI (ma_cong (fun k _ => (if_neg (fun z : q = r ∧ k = c => e z.1)).symm))
theorem mc_put {f h : Nat → Int32} {L : Nat → Nat → Bool} (hf : mF f L) {r c : Nat} (hr : r < 8) (hc : c < 12) : mF (spX0_putLeaf f h (nI r) (nI c)) (fun q k => if q = r ∧ k = c then true else L q k) := by
  rw [spX0_putLeaf_e, gv_e1, mc_isCell hr hc, if_neg (by decide : ¬ (1 : Int32) = 0), nI_clamp (by omega)]
  exact mc_or hf hr hc
theorem mc_cut {f h : Nat → Int32} {L C : Nat → Nat → Bool} (hf : mF f L) (hh : mF h C) {r c : Nat} (hr : r < 8) (hc : c < 12) : ∃ f' h', spX0_cutLeaf f h (nI r) (nI c) = (f', h') ∧ mF f' (fun q k => if q = r ∧ k = c then false else L q k) ∧ mF h' (fun q k => if q = r ∧ k = c then true else C q k) := by
  refine ⟨spX0_takeLeaf f h (nI r) (nI c), upd h r (h r ||| ((1 : Int32) <<< (nI c &&& 31))), ?_, mc_take hf hr hc, mc_or hh hr hc⟩
  rw [spX0_cutLeaf_e, gv_e1, gv_e1, mc_isCell hr hc, if_neg (by decide : ¬ (1 : Int32) = 0), nI_clamp (by omega)]
theorem mc_top_l {h : Nat → Int32} {c : Nat} (hc : c < 12) {x : Int32} {T : Nat} (hx : ∀ t, t ≤ T → (x ≤ nI t ↔ t = T)) : ∀ (n t : Nat) (f : Nat → Int32) (L : Nat → Nat → Bool), n ≤ 8 → t ≤ T → mF f L →
    ∃ f', lpX0_takeTopmost_6 (nI c) x h n (nI t) f = (nI (t + ma_tn n (T - t) (fun q => L q c)), f') ∧ mF f' (ma_set L c (ma_t n (T - t) (fun q => L q c)))
  | 0, t, f, L, _, _, hf => ⟨f, rfl, mF_eq hf (ma_set_self L c).symm⟩
  | n + 1, t, f, L, hn, ht, hf => by
    rw [lpX0_takeTopmost_6_s]
    by_cases e : t = T
    · refine ⟨f, ?_, ?_⟩
      · rw [if_pos ((hx t ht).mpr e), ma_tn, if_pos (by omega)]
        rfl
      · rw [ma_t, if_pos (by omega)]
        exact mF_eq hf (ma_set_self L c).symm
    · have hk0 : ¬ T - t = 0 := by omega
      rw [if_neg (fun z => e ((hx t ht).mp z)), gv_e1, mc_leafAt hf (by omega) hc, ma_tn, ma_t, if_neg hk0, if_neg hk0]
      have hff : ¬ (false = true) := by decide
      cases hL : L n c with
      | true =>
        rw [if_pos (rfl : true = true), if_pos (rfl : true = true), if_pos (rfl : true = true), if_neg (by decide : ¬ (1 : Int32) = 0), gv_e1, nI_1]
        obtain ⟨f', h1, h2⟩ := mc_top_l hc hx n (t + 1) _ _ (by omega) (by omega) (mc_take (h := h) hf (r := n) (by omega) hc)
        have ec : (fun q => if q = n ∧ c = c then false else L q c) = (fun r => if r = n then false else L r c) := by
          funext q
          by_cases z : q = n
          · rw [if_pos ⟨z, rfl⟩, if_pos z]
          · rw [if_neg (fun y => z y.1), if_neg z]
        rw [ec] at h1 h2
        refine ⟨f', ?_, mF_eq h2 ?_⟩
        · rw [h1, show T - (t + 1) = T - t - 1 by omega, Nat.add_right_comm, Nat.add_assoc]
        · rw [show T - (t + 1) = T - t - 1 by omega]
          funext q k
          unfold ma_set
          by_cases z : k = c
          · rw [if_pos z, if_pos z]
          · rw [if_neg z, if_neg z]
            exact if_neg (fun y : q = n ∧ k = c => z y.2)
      | false =>
        rw [if_neg hff, if_neg hff, if_neg hff, if_pos (rfl : (0 : Int32) = 0)]
        exact mc_top_l hc hx n t f L (by omega) ht hf
theorem mc_top {f h : Nat → Int32} {L : Nat → Nat → Bool} (hf : mF f L) {c a b : Nat} (hc : c < 12) (ha : a ≤ 8) (hb : b ≤ 8) : ∃ f', spX0_takeTopmost f h (nI c) (nI a - nI b) = (nI (ma_tn 8 (a - b) (fun q => L q c)), f') ∧ mF f' (ma_set L c (ma_t 8 (a - b) (fun q => L q c))) := by
  have hx : ∀ t, t ≤ a - b → (nI a - nI b ≤ nI t ↔ t = a - b) := by
    intro t ht
    rw [Int32.le_iff_toInt_le, pk_sub_toInt (by omega) (by omega), nI_toInt (by omega)]
    omega
  obtain ⟨f', h1, h2⟩ := mc_top_l (h := h) hc hx 8 0 f L (Nat.le_refl 8) (Nat.zero_le _) hf
  rw [Nat.zero_add, Nat.sub_zero] at h1
  rw [Nat.sub_zero] at h2
  refine ⟨f', ?_, h2⟩
  rw [spX0_takeTopmost_e]
  exact h1
theorem ma_sd_cong {L M : Nat → Nat → Bool} {w c : Nat} (h : ∀ q, L q c = M q c) : ma_sd L w c = ma_sd M w c := ma_u_cong (fun k _ _ => h k)
theorem ma_sd_le (L : Nat → Nat → Bool) (c : Nat) : ma_sd L 0 c ≤ 8 := ma_u_le _ _ _
theorem ma_gr_col {B : Nat → Nat} {L : Nat → Nat → Bool} {i : Nat} (q : Nat) : ma_gr B L i q i = L q i := by
  unfold ma_gr
  rw [if_neg (Nat.lt_irrefl i)]
theorem ma_gr_s {B : Nat → Nat} {L : Nat → Nat → Bool} {i : Nat} : ma_set (ma_gr B L i) i (ma_t 8 (ma_sd L 0 i - B i) (fun r => L r i)) = ma_gr B L (i + 1) := by
  funext q k
  unfold ma_set ma_gr
  by_cases e : k = i
  · subst e; rw [if_pos rfl, if_pos (by omega)]
  · rw [if_neg e]
    by_cases e2 : k < i
    · rw [if_pos e2, if_pos (by omega)]
    · rw [if_neg e2, if_neg (by omega)]
theorem ma_gr_0 (B : Nat → Nat) (L : Nat → Nat → Bool) : ma_gr B L 0 = L := by
  funext q k
  unfold ma_gr
  rw [if_neg (by omega)]
theorem mc_grow_44 {h f1 g1 be : Nat → Int32} {B : Nat → Nat} (hB : mB be B) (L : Nat → Nat → Bool) : ∀ (n i : Nat) (f : Nat → Int32), i + n = 12 → mF f (ma_gr B L i) → ∃ f', lpX0_becomeNextOf_44 h f1 g1 be n i (nI (ma_gn B L i)) f = (nI (ma_gn B L 12), f', h) ∧ mF f' (ma_gr B L 12)
  | 0, i, f, hi, hf => by
    obtain rfl : i = 12 := by omega
    exact ⟨f, rfl, hf⟩
  | n + 1, i, f, hi, hf => by
    obtain ⟨hb1, hb2⟩ := hB i (by omega)
    obtain ⟨f', h1, h2⟩ := mc_top (h := h) hf (c := i) (a := ma_sd L 0 i) (b := B i) (by omega) (ma_sd_le _ _) hb2
    have ec : (fun q => ma_gr B L i q i) = (fun r => L r i) := funext (fun q => ma_gr_col q)
    rw [ec] at h1 h2
    rw [ma_gr_s] at h2
    obtain ⟨f'', h3, h4⟩ := mc_grow_44 hB L n (i + 1) f' (by omega) h2
    refine ⟨f'', ?_, h4⟩
    rw [lpX0_becomeNextOf_44_s, gv_e1, mc_col hf (by omega), ma_sd_cong (M := L) (fun q => ma_gr_col q), hb1, h1, gv_e2, nI_add]
    exact h3
theorem mc_grow_3 {f1 g1 be : Nat → Int32} {B : Nat → Nat} {L C : Nat → Nat → Bool} (hB : mB be B) (hf1 : mF f1 L) (hg1 : mF g1 C) (s : Int32) : ∀ (n i : Nat) (f h : Nat → Int32), i + n = 8 → (∀ r, r < i → f r = nI (ma_b (ma_nx s L C r) 12) ∧ h r = 0) →
    ∃ f' h', lpX0_becomeNextOf_3 s f1 g1 be n i f h = (nI (ma_gn B (ma_nx s L C) 12), f', h') ∧ mF f' (ma_gr B (ma_nx s L C) 12) ∧ mF h' ma_C0
  | 0, i, f, h, hi, hr => by
    have hf : mF f (ma_gr B (ma_nx s L C) 0) := by
      rw [ma_gr_0]
      exact fun r hr8 => (hr r (by omega)).1
    obtain ⟨f', h1, h2⟩ := mc_grow_44 (h := h) (f1 := f1) (g1 := g1) hB (ma_nx s L C) 12 0 f rfl hf
    refine ⟨f', h, ?_, h2, fun r hr8 => ?_⟩
    · rw [lpX0_becomeNextOf_3_0]
      exact h1
    · rw [(hr r (by omega)).2]
      show 0 = nI (ma_b (fun _ => false) 12)
      rw [ma_b0]
      rfl
  | n + 1, i, f, h, hi, hr => by
    rw [lpX0_becomeNextOf_3_s, gv_e1, mc_next hf1 hg1 s (by omega)]
    refine mc_grow_3 hB hf1 hg1 s n (i + 1) _ _ (by omega) (fun r hri => ?_)
    unfold upd
    by_cases e : r = i
    · subst e; rw [if_pos rfl, if_pos rfl]; exact ⟨rfl, rfl⟩
    · rw [if_neg e, if_neg e]; exact hr r (by omega)
theorem mc_grow {f h f1 g1 be : Nat → Int32} {B : Nat → Nat} {L C : Nat → Nat → Bool} (hB : mB be B) (hf1 : mF f1 L) (hg1 : mF g1 C) (s : Int32) : ∃ f' h', spX0_becomeNextOf f h f1 g1 be s = (nI (ma_gn B (ma_nx s L C) 12), f', h') ∧ mF f' (ma_gr B (ma_nx s L C) 12) ∧ mF h' ma_C0 := by
  obtain ⟨f', h', h1, h2, h3⟩ := mc_grow_3 hB hf1 hg1 s 8 0 f h rfl (fun r hr => absurd hr (Nat.not_lt_zero r))
  refine ⟨f', h', ?_, h2, h3⟩
  rw [spX0_becomeNextOf_e]
  exact h1
end
section
/-! Counts, copies, and what is packed into longs. -/
def ma_w (φ : Nat → Nat) : Nat → Nat → Nat
  | 0, _ => 0
  | n + 1, i => φ i + ma_w φ n (i + 1)
theorem ma_w_add (φ ψ : Nat → Nat) : ∀ n i, ma_w (fun k => φ k + ψ k) n i = ma_w φ n i + ma_w ψ n i
  | 0, _ => rfl
  | n + 1, i => by
    rw [ma_w, ma_w, ma_w, ma_w_add φ ψ n (i + 1)]
    omega
theorem ma_w_0 : ∀ n i, ma_w (fun _ => 0) n i = 0
  | 0, _ => rfl
  | n + 1, i => by rw [ma_w, ma_w_0 n (i + 1)]
theorem ma_w_u (p : Nat → Bool) : ∀ n i, ma_w (fun k => (p k).toNat) n i = ma_u p n i
  | 0, _ => rfl
  | n + 1, i => by rw [ma_w, ma_u, ma_w_u p n (i + 1)]
def ma_all (L : Nat → Nat → Bool) : Nat → Nat
  | 0 => 0
  | n + 1 => ma_all L n + ma_sd L 0 n
theorem ma_all_rows (L : Nat → Nat → Bool) : ∀ n, ma_w (fun r => ma_ct (L r) n) 8 0 = ma_all L n
  | 0 => ma_w_0 8 0
  | n + 1 => by
    have h := ma_w_add (fun r => ma_ct (L r) n) (fun r => (L r n).toNat) 8 0
    have h2 := ma_w_u (fun r => L r n) 8 0
    rw [ma_all_rows L n, h2] at h
    exact h
theorem ma_all_cong {L M : Nat → Nat → Bool} : ∀ n, (∀ r k, k < n → L r k = M r k) → ma_all L n = ma_all M n
  | 0, _ => rfl
  | n + 1, h => by rw [ma_all, ma_all, ma_all_cong n (fun r k hk => h r k (by omega)), ma_sd_cong (fun q => h q n (by omega))]
theorem ma_all_le (L : Nat → Nat → Bool) : ∀ n, ma_all L n ≤ 8 * n
  | 0 => Nat.le_refl 0
  | n + 1 => by
    have h1 := ma_all_le L n
    have h2 := ma_sd_le L n
    rw [ma_all]
    omega
theorem mc_leaves_l {f h : Nat → Int32} {L : Nat → Nat → Bool} (hf : mF f L) : ∀ n i a, i + n = 8 → lpX0_countLeaves_4 f h n i (nI a) = nI (a + ma_w (fun r => ma_ct (L r) 12) n i)
  | 0, _, _, _ => rfl
  | n + 1, i, a, hi => by rw [lpX0_countLeaves_4_s, gv_e1, hf i (by omega), mb_row, nI_add, mc_leaves_l hf n (i + 1) _ (by omega), ma_w, Nat.add_assoc]
theorem mc_leaves {f h : Nat → Int32} {L : Nat → Nat → Bool} (hf : mF f L) : spX0_countLeaves f h = nI (ma_all L 12) := by
  have h1 := mc_leaves_l (h := h) hf 8 0 0 rfl
  rw [ma_all_rows, Nat.zero_add] at h1
  rw [spX0_countLeaves_e]
  exact h1
def ma_any (L : Nat → Nat → Bool) : Nat → Nat → Bool
  | 0, _ => false
  | n + 1, c => ma_any L n c || L n c
theorem ma_any_iff (L : Nat → Nat → Bool) (c : Nat) : ∀ n, ma_any L n c = false ↔ ∀ k, k < n → L k c = false
  | 0 => ⟨fun _ k hk => absurd hk (Nat.not_lt_zero k), fun _ => rfl⟩
  | n + 1 => by
    rw [ma_any, Bool.or_eq_false_iff, ma_any_iff L c n]
    constructor
    · intro h k hk
      by_cases e : k = n
      · subst e; exact h.2
      · exact h.1 k (by omega)
    · intro h
      exact ⟨fun k hk => h k (by omega), h n (by omega)⟩
theorem ma_u_zero (p : Nat → Bool) : ∀ n i, ma_u p n i = 0 ↔ ∀ k, i ≤ k → k < i + n → p k = false
  | 0, i => ⟨fun _ k h1 h2 => by omega, fun _ => rfl⟩
  | n + 1, i => by
    have ih := ma_u_zero p n (i + 1)
    rw [ma_u]
    constructor
    · intro h k h1 h2
      by_cases e : k = i
      · subst e
        cases hp : p k with
        | false => rfl
        | true => rw [hp] at h; exact absurd h (by show ¬ (1 + _ = 0); omega)
      · exact ih.mp (by omega) k (by omega) (by omega)
    · intro h
      rw [h i (Nat.le_refl i) (by omega), ih.mpr (fun k h1 h2 => h k (by omega) (by omega))]
      rfl
theorem ma_any_sd (L : Nat → Nat → Bool) (c : Nat) : (ma_sd L 0 c = 0) = (ma_any L 8 c = false) := by
  apply propext
  rw [ma_any_iff]
  unfold ma_sd
  rw [ma_u_zero]
  exact ⟨fun h k hk => h k (Nat.zero_le k) (by omega), fun h k _ hk => h k (by omega)⟩
theorem ma_orb (p q : Nat → Bool) : ma_b p 12 ||| ma_b q 12 = ma_b (fun c => p c || q c) 12 := by
  refine ma_ext (Nat.or_lt_two_pow (ma_lt p 12) (ma_lt q 12)) (fun k hk => ?_)
  rw [Nat.testBit_or, ma_tb, ma_tb]
  simp [hk]
theorem mc_lit_l {f h : Nat → Int32} {L : Nat → Nat → Bool} (hf : mF f L) : ∀ n i, i + n = 8 → lpX0_countLit_4 f h n i (nI (ma_b (ma_any L i) 12)) = nI (ma_ct (ma_any L 8) 12)
  | 0, i, hi => by
    obtain rfl : i = 8 := by omega
    rw [lpX0_countLit_4_0, gv_e1, mb_row]
  | n + 1, i, hi => by
    rw [lpX0_countLit_4_s, hf i (by omega), mi_or, ma_orb]
    exact mc_lit_l hf n (i + 1) (by omega)
theorem mc_lit {f h : Nat → Int32} {L : Nat → Nat → Bool} (hf : mF f L) : spX0_countLit f h = nI (ma_ct (ma_any L 8) 12) := by
  have h1 := mc_lit_l (h := h) hf 8 0 rfl
  rw [show ma_b (ma_any L 0) 12 = 0 from ma_b0] at h1
  rw [spX0_countLit_e]
  exact h1
theorem mc_cuts_l {f h : Nat → Int32} {C : Nat → Nat → Bool} (hh : mF h C) : ∀ n i, i + n = 8 → lpX0_hasCuts_4 f h n i (nI (ma_b (ma_any C i) 12)) = if nI (ma_b (ma_any C 8) 12) = 0 then 0 else 1
  | 0, i, hi => by
    obtain rfl : i = 8 := by omega
    rw [lpX0_hasCuts_4_0]
  | n + 1, i, hi => by
    rw [lpX0_hasCuts_4_s, hh i (by omega), mi_or, ma_orb]
    exact mc_cuts_l hh n (i + 1) (by omega)
theorem mc_cuts {f h : Nat → Int32} {C : Nat → Nat → Bool} (hh : mF h C) : (spX0_hasCuts f h = 0) = (∀ r c, r < 8 → c < 12 → C r c = false) := by
  have h1 := mc_cuts_l (f := f) hh 8 0 rfl
  rw [show ma_b (ma_any C 0) 12 = 0 from ma_b0] at h1
  rw [spX0_hasCuts_e, show lpX0_hasCuts_4 f h 8 0 0 = _ from h1]
  have hlt : ma_b (ma_any C 8) 12 < 2 ^ 12 := ma_lt _ _
  apply propext
  by_cases e : ma_b (ma_any C 8) 12 = 0
  · rw [e, if_pos (show nI 0 = (0 : Int32) from rfl)]
    refine ⟨fun _ r c hr hc => ?_, fun _ => rfl⟩
    have e2 : ma_b (ma_any C 8) 12 = ma_b (fun _ => false) 12 := by rw [e, ma_b0]
    exact (ma_any_iff C c 8).mp (ma_inj e2 c hc) r hr
  · rw [if_neg (nI_ne0 (by omega) (by omega))]
    refine ⟨fun h => absurd h (by decide), fun h => ?_⟩
    refine absurd ?_ e
    rw [ma_cong (q := fun _ => false) (fun c hc => (ma_any_iff C c 8).mpr (fun r hr => h r c hr hc)), ma_b0]
theorem mc_copy_l {f1 g1 : Nat → Int32} : ∀ (n i : Nat) (f h : Nat → Int32), i + n = 8 → (∀ r, r < i → f r = f1 r ∧ h r = g1 r) → ∃ f' h', lpX0_copyFrom_2 f1 g1 n i f h = (f', h') ∧ ∀ r, r < 8 → f' r = f1 r ∧ h' r = g1 r
  | 0, i, f, h, hi, hr => ⟨f, h, rfl, fun r hr8 => hr r (by omega)⟩
  | n + 1, i, f, h, hi, hr => by
    rw [lpX0_copyFrom_2_s]
    refine mc_copy_l n (i + 1) _ _ (by omega) (fun r hri => ?_)
    unfold upd
    by_cases e : r = i
    · subst e; rw [if_pos rfl, if_pos rfl]; exact ⟨rfl, rfl⟩
    · rw [if_neg e, if_neg e]; exact hr r (by omega)
theorem mc_copy {f h f1 g1 : Nat → Int32} {L C : Nat → Nat → Bool} (hf1 : mF f1 L) (hg1 : mF g1 C) : ∃ f' h', spX0_copyFrom f h f1 g1 = (f', h') ∧ mF f' L ∧ mF h' C := by
  obtain ⟨f', h', h1, h2⟩ := mc_copy_l (f1 := f1) (g1 := g1) 8 0 f h rfl (fun r hr => absurd hr (Nat.not_lt_zero r))
  refine ⟨f', h', ?_, fun r hr => by rw [(h2 r hr).1]; exact hf1 r hr, fun r hr => by rw [(h2 r hr).2]; exact hg1 r hr⟩
  rw [spX0_copyFrom_e]
  exact h1
theorem mF_0 {f : Nat → Int32} (h : ∀ r, r < 8 → f r = 0) : mF f ma_C0 := fun r hr => by
  rw [h r hr]
  show 0 = nI (ma_b (fun _ => false) 12)
  rw [ma_b0]
  rfl
-- longs
theorem ml_or (a b : Nat) : lN a ||| lN b = lN (a ||| b) := by
  apply Int64.toBitVec_inj.1
  show BitVec.ofNat 64 a ||| BitVec.ofNat 64 b = BitVec.ofNat 64 (a ||| b)
  apply BitVec.eq_of_getLsbD_eq
  intro i hi
  simp [hi]
theorem ml_shl {a : Nat} (ha : a < 2 ^ 48) : lN a <<< ((12 : Int32).toInt64 &&& 63) = lN (a * 4096) := by
  have hy : ((12 : Int32).toInt64 &&& 63).toBitVec.smod 64 = BitVec.ofNat 64 12 := by decide
  apply Int64.toBitVec_inj.mp
  rw [Int64.toBitVec_shiftLeft, hy]
  apply BitVec.eq_of_toNat_eq
  have hb : (lN a).toBitVec.toNat = a := Nat.mod_eq_of_lt (by omega)
  have hk : (BitVec.ofNat 64 12).toNat = 12 := by decide
  have h : ((lN a).toBitVec <<< BitVec.ofNat 64 12).toNat = (a * 2 ^ 12) % 2 ^ 64 := by simp only [BitVec.shiftLeft_eq', BitVec.toNat_shiftLeft, hb, hk, Nat.shiftLeft_eq]
  exact h
def ma_pk (L : Nat → Nat → Bool) : Nat → Nat → Nat → Nat
  | 0, _, a => a
  | n + 1, i, a => ma_pk L n (i + 1) (a * 4096 + ma_b (L i) 12)
theorem mc_half_l {f h : Nat → Int32} {L : Nat → Nat → Bool} (hf : mF f L) (w : Nat) : ∀ (n i a : Nat), i + n ≤ 8 → n ≤ 4 → a < 2 ^ (12 * (4 - n)) → lpX0_leavesOfHalf_5 w f h n i (lN a) = lN (ma_pk L n i a)
  | 0, _, _, _, _, _ => rfl
  | n + 1, i, a, hi, hn, ha => by
    have hb : ma_b (L i) 12 < 2 ^ 12 := ma_lt _ _
    have h36 : 2 ^ (12 * (4 - (n + 1))) ≤ 2 ^ 36 := Nat.pow_le_pow_right (by decide) (by omega)
    have hp : 2 ^ (12 * (4 - n)) = 2 ^ (12 * (4 - (n + 1))) * 4096 := by
      rw [show 12 * (4 - n) = 12 * (4 - (n + 1)) + 12 by omega, Nat.pow_add]
    have hor : a * 4096 ||| ma_b (L i) 12 = a * 4096 + ma_b (L i) 12 := by
      have h1 := Nat.two_pow_add_eq_or_of_lt hb a
      rw [Nat.mul_comm] at h1
      exact h1.symm
    rw [lpX0_leavesOfHalf_5_s, gv_e1, mc_leafRow' hf (by omega), nI_l (by omega), ml_shl (by omega), ml_or, hor]
    exact mc_half_l hf w n (i + 1) _ (by omega) (by omega) (by rw [hp]; omega)
theorem mc_half {f h : Nat → Int32} {L : Nat → Nat → Bool} (hf : mF f L) {w : Nat} (hw : w ≤ 4) : spX0_leavesOfHalf f h w = lN (ma_pk L 4 w 0) := by
  rw [spX0_leavesOfHalf_e]
  exact mc_half_l hf w 4 w 0 (by omega) (Nat.le_refl 4) (by decide)
theorem ma_pk_inj {L M : Nat → Nat → Bool} {w : Nat} : (lN (ma_pk L 4 w 0) = lN (ma_pk M 4 w 0)) ↔ ∀ r, w ≤ r → r < w + 4 → ∀ c, c < 12 → L r c = M r c := by
  have a0 := ma_lt (L w) 12
  have a1 := ma_lt (L (w + 1)) 12
  have a2 := ma_lt (L (w + 2)) 12
  have a3 := ma_lt (L (w + 3)) 12
  have b0 := ma_lt (M w) 12
  have b1 := ma_lt (M (w + 1)) 12
  have b2 := ma_lt (M (w + 2)) 12
  have b3 := ma_lt (M (w + 3)) 12
  have eL : ma_pk L 4 w 0 = (((0 * 4096 + ma_b (L w) 12) * 4096 + ma_b (L (w + 1)) 12) * 4096 + ma_b (L (w + 2)) 12) * 4096 + ma_b (L (w + 3)) 12 := rfl
  have eM : ma_pk M 4 w 0 = (((0 * 4096 + ma_b (M w) 12) * 4096 + ma_b (M (w + 1)) 12) * 4096 + ma_b (M (w + 2)) 12) * 4096 + ma_b (M (w + 3)) 12 := rfl
  rw [pk_lEQ (by rw [eL]; omega) (by rw [eM]; omega), eL, eM]
  constructor
  · intro h r h1 h2 c hc
    have c0 : ma_b (L w) 12 = ma_b (M w) 12 := by omega
    have c1 : ma_b (L (w + 1)) 12 = ma_b (M (w + 1)) 12 := by omega
    have c2 : ma_b (L (w + 2)) 12 = ma_b (M (w + 2)) 12 := by omega
    have c3 : ma_b (L (w + 3)) 12 = ma_b (M (w + 3)) 12 := by omega
    rcases (show r = w ∨ r = w + 1 ∨ r = w + 2 ∨ r = w + 3 by omega) with e | e | e | e <;> subst e
    · exact ma_inj c0 c hc
    · exact ma_inj c1 c hc
    · exact ma_inj c2 c hc
    · exact ma_inj c3 c hc
  · intro h
    rw [ma_cong (h w (by omega) (by omega)), ma_cong (h (w + 1) (by omega) (by omega)), ma_cong (h (w + 2) (by omega) (by omega)), ma_cong (h (w + 3) (by omega) (by omega))]
end
section
/-! When a wall comes again; the best cut. -/
theorem gv_e5 {α0 α1 α2 α3 α4 β : Type} (a : α0) (b : α1) (c : α2) (d : α3) (e : α4) (k : α0 → α1 → α2 → α3 → α4 → β) : gv_b5 (a, b, c, d, e) k = k a b c d e := rfl
def mC_ (C : Nat → Nat → Bool) (n : Nat) : Nat → Nat → Bool := if n = 0 then C else ma_C0
def mS (s : Int32) (B : Nat → Nat) (L C : Nat → Nat → Bool) : Nat → Nat → Nat → Bool
  | 0 => L
  | n + 1 => ma_gr B (ma_nx s (mS s B L C n) (mC_ C n)) 12
def mE (L M : Nat → Nat → Bool) : Prop := ∀ r c, r < 8 → c < 12 → L r c = M r c
theorem mh_eq {L M : Nat → Nat → Bool} : (lN (ma_pk L 4 0 0) = lN (ma_pk M 4 0 0) ∧ lN (ma_pk L 4 4 0) = lN (ma_pk M 4 4 0)) ↔ mE L M := by
  rw [ma_pk_inj, ma_pk_inj]
  constructor
  · intro h r c hr hc
    by_cases e : r < 4
    · exact h.1 r (Nat.zero_le r) (by omega) c hc
    · exact h.2 r (by omega) (by omega) c hc
  · exact fun h => ⟨fun r _ h2 c hc => h r c (by omega) hc, fun r _ h2 c hc => h r c (by omega) hc⟩
section MLK
variable {f0 c0 f1 c1 f2 c2 : Nat → Int32} {lo up : Nat → Int64} {be : Nat → Int32} {si pl cu ge fa : Int32}
theorem mk_look {i : Nat} : ∀ n j, (lpX1_looksAsBefore_2 i f0 c0 f1 c1 f2 c2 lo up be si pl cu ge fa n j = 0) ↔ ¬ ∃ k, j ≤ k ∧ k < j + n ∧ lo k = lo i ∧ up k = up i
  | 0, j => by
    rw [lpX1_looksAsBefore_2_0]
    exact ⟨fun _ h => by obtain ⟨k, h1, h2, _⟩ := h; omega, fun _ => rfl⟩
  | n + 1, j => by
    have ih := mk_look (i := i) n (j + 1)
    have skip : ¬ (lo j = lo i ∧ up j = up i) → ((¬ ∃ k, j + 1 ≤ k ∧ k < j + 1 + n ∧ lo k = lo i ∧ up k = up i) ↔ ¬ ∃ k, j ≤ k ∧ k < j + (n + 1) ∧ lo k = lo i ∧ up k = up i) := by
      intro h
      constructor
      · intro h1 h2
        obtain ⟨k, a, b, d⟩ := h2
        by_cases e : k = j
        · subst e; exact h d
        · exact h1 ⟨k, by omega, by omega, d⟩
      · intro h1 h2
        obtain ⟨k, a, b, d⟩ := h2
        exact h1 ⟨k, by omega, by omega, d⟩
    rw [lpX1_looksAsBefore_2_s]
    by_cases h1 : lo j = lo i
    · rw [if_pos ((lg_cmp_eq _ _).mpr h1)]
      by_cases h2 : up j = up i
      · rw [if_pos ((lg_cmp_eq _ _).mpr h2)]
        exact ⟨fun h => absurd h (by decide), fun h => absurd ⟨j, Nat.le_refl j, by omega, h1, h2⟩ h⟩
      · rw [if_neg (fun z => h2 ((lg_cmp_eq _ _).mp z)), ih]
        exact skip (fun z => h2 z.2)
    · rw [if_neg (fun z => h1 ((lg_cmp_eq _ _).mp z)), ih]
      exact skip (fun z => h1 z.1)
end MLK
-- when a wall comes again: what the answer is
def mRp (E : Nat → Prop) : Nat → Nat → Int32 → Prop
  | 0, _, r => r = -1
  | n + 1, i, r => (E (i + 1) ∧ r = nI (i + 1)) ∨ (¬ E (i + 1) ∧ mRp E n (i + 1) r)
theorem mRp_same {E E' : Nat → Prop} (h : ∀ i, E i ↔ E' i) : ∀ (n i : Nat) (r r' : Int32), mRp E n i r → mRp E' n i r' → r = r'
  | 0, _, r, r', h1, h2 => (show r = -1 from h1).trans (show r' = -1 from h2).symm
  | n + 1, i, r, r', h1, h2 => by
    rcases h1 with ⟨a, b⟩ | ⟨a, b⟩
    · rcases h2 with ⟨a', b'⟩ | ⟨a', b'⟩
      · rw [b, b']
      · exact absurd ((h _).mp a) a'
    · rcases h2 with ⟨a', b'⟩ | ⟨a', b'⟩
      · exact absurd ((h _).mpr a') a
      · exact mRp_same h n (i + 1) r r' b b'
def mEx (s : Int32) (B : Nat → Nat) (L C : Nat → Nat → Bool) (i : Nat) : Prop := ∃ k, k < i ∧ (k = 0 → mE C ma_C0) ∧ mE (mS s B L C k) (mS s B L C i)
theorem mr_joint {f0 c0 be : Nat → Int32} {si pl cu ge fa b1 : Int32} {B : Nat → Nat} {L C : Nat → Nat → Bool} (hB : mB be B) {fst : Nat} (hf1 : fst ≤ 1) (hfst : fst = 0 ↔ mE C ma_C0) :
    ∀ (n i : Nat) (f1 c1 f2 c2 : Nat → Int32) (lo up : Nat → Int64), i + 1 + n = 61 → mF f1 (mS si B L C i) → mF c1 (mC_ C i) → (∀ j, j < i + 1 → lo j = lN (ma_pk (mS si B L C j) 4 0 0) ∧ up j = lN (ma_pk (mS si B L C j) 4 4 0)) →
    ∃ r f1' c1' f2' c2' lo' up', lpX1_repeatsIn_34 b1 fst f0 c0 be si pl cu ge fa n (i + 1) f1 c1 f2 c2 lo up = (r, f1', c1', f2', c2', lo', up') ∧ mRp (mEx si B L C) n i r
  | 0, i, f1, c1, f2, c2, lo, up, hi, h1, h2, h3 => ⟨-1, f1, c1, f2, c2, lo, up, rfl, rfl⟩
  | n + 1, i, f1, c1, f2, c2, lo, up, hi, h1, h2, h3 => by
    obtain ⟨fb, hb, e1, e2, e3⟩ := mc_grow (f := f2) (h := c2) hB h1 h2 si
    obtain ⟨ft, ht, e4, e5, e6⟩ := mc_copy (f := f1) (h := c1) e2 e3
    have e2' : mF ft (mS si B L C (i + 1)) := e5
    have e6' : mF ht (mC_ C (i + 1)) := by
      unfold mC_
      rw [if_neg (by omega)]
      exact e6
    have hlo : spX0_leavesOfHalf ft ht 0 = lN (ma_pk (mS si B L C (i + 1)) 4 0 0) := mc_half e2' (by omega)
    have hup : spX0_leavesOfHalf ft ht 4 = lN (ma_pk (mS si B L C (i + 1)) 4 4 0) := mc_half e2' (by omega)
    have hh : ∀ j, j < i + 1 + 1 → vp_updL lo (i + 1) (lN (ma_pk (mS si B L C (i + 1)) 4 0 0)) j = lN (ma_pk (mS si B L C j) 4 0 0) ∧ vp_updL up (i + 1) (lN (ma_pk (mS si B L C (i + 1)) 4 4 0)) j = lN (ma_pk (mS si B L C j) 4 4 0) := by
      intro j hj
      by_cases z : j = i + 1
      · subst z; exact ⟨pk_uLs, pk_uLs⟩
      · rw [pk_uLn z, pk_uLn z]; exact h3 j (by omega)
    rw [lpX1_repeatsIn_34_s, e1, gv_e3, e4, gv_e2, spX1_remember_e, gv_e1, gv_e1, hlo, hup, gv_e2, spX1_looksAsBefore_e, gv_e1]
    have hfound : (∃ k, fst ≤ k ∧ k < fst + (i + 1 - fst) ∧ vp_updL lo (i + 1) (lN (ma_pk (mS si B L C (i + 1)) 4 0 0)) k = vp_updL lo (i + 1) (lN (ma_pk (mS si B L C (i + 1)) 4 0 0)) (i + 1) ∧ vp_updL up (i + 1) (lN (ma_pk (mS si B L C (i + 1)) 4 4 0)) k = vp_updL up (i + 1) (lN (ma_pk (mS si B L C (i + 1)) 4 4 0)) (i + 1)) ↔ mEx si B L C (i + 1) := by
      constructor
      · intro h
        obtain ⟨k, a, b, d1, d2⟩ := h
        have hk : k < i + 1 := by omega
        rw [(hh k (by omega)).1, (hh (i + 1) (by omega)).1] at d1
        rw [(hh k (by omega)).2, (hh (i + 1) (by omega)).2] at d2
        exact ⟨k, hk, fun z => hfst.mp (by omega), mh_eq.mp ⟨d1, d2⟩⟩
      · intro h
        obtain ⟨k, b, d, g⟩ := h
        have hfk : fst ≤ k := by
          by_cases e : k = 0
          · have := hfst.mpr (d e)
            omega
          · omega
        have hE := mh_eq.mpr g
        refine ⟨k, hfk, by omega, ?_, ?_⟩
        · rw [(hh k (by omega)).1, (hh (i + 1) (by omega)).1]; exact hE.1
        · rw [(hh k (by omega)).2, (hh (i + 1) (by omega)).2]; exact hE.2
    by_cases hx : ∃ k, fst ≤ k ∧ k < fst + (i + 1 - fst) ∧ vp_updL lo (i + 1) (lN (ma_pk (mS si B L C (i + 1)) 4 0 0)) k = vp_updL lo (i + 1) (lN (ma_pk (mS si B L C (i + 1)) 4 0 0)) (i + 1) ∧ vp_updL up (i + 1) (lN (ma_pk (mS si B L C (i + 1)) 4 4 0)) k = vp_updL up (i + 1) (lN (ma_pk (mS si B L C (i + 1)) 4 4 0)) (i + 1)
    · rw [if_neg (fun z => (mk_look _ _).mp z hx)]
      exact ⟨nI (i + 1), ft, ht, fb, hb, _, _, rfl, Or.inl ⟨hfound.mp hx, rfl⟩⟩
    · rw [if_pos ((mk_look _ _).mpr hx)]
      obtain ⟨r, f1', c1', f2', c2', lo', up', k1, k2⟩ := mr_joint (b1 := b1) (f0 := f0) (c0 := c0) (pl := pl) (cu := cu) (ge := ge) (fa := fa) hB hf1 hfst n (i + 1) ft ht fb hb _ _ (by omega) e2' e6' hh
      exact ⟨r, f1', c1', f2', c2', lo', up', k1, Or.inr ⟨fun z => hx (hfound.mpr z), k2⟩⟩
theorem mr_repeats {f0 c0 f1 c1 f2 c2 be : Nat → Int32} {lo up : Nat → Int64} {si pl cu ge fa : Int32} {B : Nat → Nat} {L C : Nat → Nat → Bool} (hB : mB be B) (hf : mF f0 L) (hc : mF c0 C) :
    ∃ r f1' c1' f2' c2' lo' up', spX1_repeatsIn f0 c0 f1 c1 f2 c2 lo up be si pl cu ge fa = (r, f1', c1', f2', c2', lo', up') ∧ mRp (mEx si B L C) 60 0 r := by
  obtain ⟨ft, ht, e4, e5, e6⟩ := mc_copy (f := f1) (h := c1) hf hc
  have hlo : spX0_leavesOfHalf ft ht 0 = lN (ma_pk L 4 0 0) := mc_half e5 (by omega)
  have hup : spX0_leavesOfHalf ft ht 4 = lN (ma_pk L 4 4 0) := mc_half e5 (by omega)
  have hh : ∀ j, j < 0 + 1 → vp_updL lo 0 (lN (ma_pk L 4 0 0)) j = lN (ma_pk (mS si B L C j) 4 0 0) ∧ vp_updL up 0 (lN (ma_pk L 4 4 0)) j = lN (ma_pk (mS si B L C j) 4 4 0) := by
    intro j hj
    obtain rfl : j = 0 := by omega
    exact ⟨pk_uLs, pk_uLs⟩
  rw [spX1_repeatsIn_e, gv_e1]
  by_cases h0 : spX0_hasCuts f0 c0 = 0
  · rw [if_pos h0]
    have hE : mE C ma_C0 := by rw [mc_cuts hc] at h0; exact h0
    rw [e4, gv_e2, spX1_remember_e, gv_e1, gv_e1, hlo, hup, gv_e2]
    exact mr_joint hB (fst := 0) (by omega) ⟨fun _ => hE, fun _ => rfl⟩ 60 0 ft ht f2 c2 _ _ rfl e5 e6 hh
  · rw [if_neg h0]
    have hE : ¬ mE C ma_C0 := fun z => h0 (by rw [mc_cuts hc]; exact z)
    rw [e4, gv_e2, spX1_remember_e, gv_e1, gv_e1, hlo, hup, gv_e2]
    exact mr_joint hB (fst := 1) (by omega) ⟨fun z => absurd z (by decide), fun z => absurd z hE⟩ 60 0 ft ht f2 c2 _ _ rfl e5 e6 hh
-- the best cut
theorem ma_ct_le (p : Nat → Bool) : ∀ n, ma_ct p n ≤ n
  | 0 => Nat.le_refl 0
  | n + 1 => by
    have h1 := ma_ct_le p n
    have h2 := ma_le1 (p n)
    rw [ma_ct]
    omega
def mbf (s : Int32) (B : Nat → Nat) (L C : Nat → Nat → Bool) (r c : Nat) : Nat := ma_ct (ma_any (ma_gr B (ma_nx s (fun q k => if q = r ∧ k = c then false else L q k) (fun q k => if q = r ∧ k = c then true else C q k)) 12) 8) 12
def mbp (s : Int32) (B : Nat → Nat) (L C : Nat → Nat → Bool) (i : Nat) : Nat := if L (i / 12) (i % 12) = true then mbf s B L C (i / 12) (i % 12) + 1 else 0
def mbF (ψ : Nat → Nat) : Nat → Nat → Nat → Nat → Nat × Nat
  | 0, _, b, M => (b, M)
  | n + 1, i, b, M => if M < ψ i then mbF ψ n (i + 1) i (ψ i) else mbF ψ n (i + 1) b M
def mbv (b M : Nat) : Int32 := if M = 0 then -1 else nI b
theorem mb_joint {f0 c0 be : Nat → Int32} {lo up : Nat → Int64} {si pl cu ge fa : Int32} {B : Nat → Nat} {L C : Nat → Nat → Bool} (hB : mB be B) (hf : mF f0 L) (hc : mF c0 C) :
    ∀ (n i b M : Nat) (f1 c1 f2 c2 : Nat → Int32), i + n = 96 → M ≤ 13 →
    ∃ f1' c1' f2' c2', lpX1_bestCut_6 f0 c0 lo up be si pl cu ge fa n i (mbv b M) (nI M - 1) f1 c1 f2 c2 = (mbv (mbF (mbp si B L C) n i b M).1 (mbF (mbp si B L C) n i b M).2, f1', c1', f2', c2')
  | 0, i, b, M, f1, c1, f2, c2, hi, hM => ⟨f1, c1, f2, c2, rfl⟩
  | n + 1, i, b, M, f1, c1, f2, c2, hi, hM => by
    have hr : i / 12 < 8 := by omega
    have hk : i % 12 < 12 := by omega
    have er : nI i / 12 = nI (i / 12) := pk_div (d := 12) (by omega) (by decide) (by decide)
    have ek : nI i - nI i / 12 * 12 = nI (i % 12) := pk_rem (d := 12) (by omega) (by decide) (by decide)
    rw [lpX1_bestCut_6_s, er, ← er, ek, er, gv_e1, mc_leafAt hf hr hk]
    cases hL : L (i / 12) (i % 12) with
    | false =>
      have hp : mbp si B L C i = 0 := by
        unfold mbp
        rw [hL]
        exact if_neg (by decide)
      rw [if_neg (by decide : ¬ (false = true)), if_pos (rfl : (0 : Int32) = 0), mbF, hp, if_neg (Nat.not_lt_zero M)]
      exact mb_joint hB hf hc n (i + 1) b M f1 c1 f2 c2 (by omega) hM
    | true =>
      have hp : mbp si B L C i = mbf si B L C (i / 12) (i % 12) + 1 := by
        unfold mbp
        rw [hL]
        exact if_pos rfl
      rw [if_pos (rfl : true = true), if_neg (by decide : ¬ (1 : Int32) = 0)]
      obtain ⟨ft, ht, e4, e5, e6⟩ := mc_copy (f := f1) (h := c1) hf hc
      obtain ⟨fu, hu, a1, a2, a3⟩ := mc_cut e5 e6 hr hk
      obtain ⟨fb, hb, b1, b2, b3⟩ := mc_grow (f := f2) (h := c2) hB a2 a3 si
      have hl1 : spX0_countLit fb hb = nI (mbf si B L C (i / 12) (i % 12)) := mc_lit (h := hb) b2
      have hle : mbf si B L C (i / 12) (i % 12) ≤ 12 := ma_ct_le _ 12
      rw [spX1_litBehindCut_e, e4, gv_e2, a1, gv_e2, b1, gv_e3, gv_e1, hl1, gv_e5, mbF, hp]
      generalize mbf si B L C (i / 12) (i % 12) = its at hle ⊢
      have hcmp : (nI its ≤ nI M - 1) ↔ its + 1 ≤ M := by
        cases M with
        | zero =>
          rw [Int32.le_iff_toInt_le, nI_toInt (by omega), show (nI 0 - 1 : Int32).toInt = -1 by decide]
          omega
        | succ m =>
          rw [nI_pred, nI_leI (by omega) (by omega)]
          omega
      by_cases hx : its + 1 ≤ M
      · rw [if_pos (hcmp.mpr hx), if_neg (by omega)]
        exact mb_joint hB hf hc n (i + 1) b M fu hu fb hb (by omega) hM
      · rw [if_neg (fun z => hx (hcmp.mp z)), if_pos (by omega)]
        have ih := mb_joint (lo := lo) (up := up) (pl := pl) (cu := cu) (ge := ge) (fa := fa) (si := si) hB hf hc n (i + 1) i (its + 1) fu hu fb hb (by omega) (by omega)
        rw [nI_pred, show mbv i (its + 1) = nI i from if_neg (by omega)] at ih
        exact ih
theorem mb_best {f0 c0 f1 c1 f2 c2 be : Nat → Int32} {lo up : Nat → Int64} {si pl cu ge fa : Int32} {B : Nat → Nat} {L C : Nat → Nat → Bool} (hB : mB be B) (hf : mF f0 L) (hc : mF c0 C) :
    ∃ f1' c1' f2' c2', spX1_bestCut f0 c0 f1 c1 f2 c2 lo up be si pl cu ge fa = (mbv (mbF (mbp si B L C) 96 0 0 0).1 (mbF (mbp si B L C) 96 0 0 0).2, f1', c1', f2', c2') := by
  obtain ⟨f1', c1', f2', c2', k1⟩ := mb_joint (lo := lo) (up := up) (si := si) (pl := pl) (cu := cu) (ge := ge) (fa := fa) hB hf hc 96 0 0 0 f1 c1 f2 c2 rfl (by omega)
  refine ⟨f1', c1', f2', c2', ?_⟩
  rw [spX1_bestCut_e]
  exact k1
end
section
/-! A wall and the same wall in a mirror. -/
def mX (L M : Nat → Nat → Bool) : Prop := ∀ r c, c < 12 → M r c = L r (11 - c)
theorem mx_x {L M : Nat → Nat → Bool} (h : mX L M) (R : Nat) {c : Nat} (hc : c < 12) : ma_x M R c = ma_x L R (11 - c) := by
  unfold ma_x
  rw [h (R - 1) c hc]
theorem mx_s {p q : Nat → Bool} (h : ∀ c, c < 12 → q c = p (11 - c)) (s : Int32) {k : Nat} (hk : k ≤ 13) : ma_s s q k = ma_s s p (13 - k) := by
  have e0 : q 0 = p 11 := h 0 (by decide)
  have e11 : q 11 = p 0 := h 11 (by decide)
  unfold ma_s
  by_cases h0 : k = 0
  · subst h0
    rw [e0, e11]
    simp
  · by_cases h13 : k = 13
    · subst h13
      rw [e0, e11]
      simp
    · rw [if_pos (show 1 ≤ k ∧ k ≤ 12 by omega), if_pos (show 1 ≤ 13 - k ∧ 13 - k ≤ 12 by omega), h (k - 1) (by omega), show 11 - (k - 1) = 13 - k - 1 by omega]
theorem mx_3 {p q : Nat → Bool} (h : ∀ k, k ≤ 13 → q k = p (13 - k)) {c : Nat} (hc : c < 12) : ma_3 q c = ma_3 p (11 - c) := by
  unfold ma_3
  rw [h c (by omega), h (c + 1) (by omega), h (c + 2) (by omega), show 13 - c = 11 - c + 2 by omega, show 13 - (c + 1) = 11 - c + 1 by omega, show 13 - (c + 2) = 11 - c by omega]
  omega
section MXW
variable {L M C D : Nat → Nat → Bool} {s : Int32}
theorem mx_sx (h : mX L M) (s : Int32) (R : Nat) {k : Nat} (hk : k ≤ 13) : ma_s s (ma_x M R) k = ma_s s (ma_x L R) (13 - k) := mx_s (fun _ hc => mx_x h R hc) s hk
theorem mx_ho (h : mX L M) {r c : Nat} (hc : c < 12) : ma_ho s M r c = ma_ho s L r (11 - c) := mx_3 (fun _ hk => mx_sx h s r hk) hc
theorem mx_ne (h : mX L M) {r c : Nat} (hc : c < 12) : ma_ne s M r c = ma_ne s L r (11 - c) := by
  unfold ma_ne
  rw [mx_3 (fun _ hk => mx_sx h s r hk) hc, mx_3 (fun _ hk => mx_sx h s (r + 2) hk) hc, mx_sx h s (r + 1) (show c ≤ 13 by omega), mx_sx h s (r + 1) (show c + 2 ≤ 13 by omega), show 13 - c = 11 - c + 2 by omega, show 13 - (c + 2) = 11 - c by omega]
  omega
theorem mx_sd (h : mX L M) {w c : Nat} (hc : c < 12) : ma_sd M w c = ma_sd L w (11 - c) := ma_u_cong (fun k _ _ => h k c hc)
theorem mx_nx (h : mX L M) (h2 : mX C D) : mX (ma_nx s L C) (ma_nx s M D) := fun r c hc => by
  unfold ma_nx
  rw [mx_ho h hc, mx_ne h hc, mx_sd h hc, h r c hc, h 0 c hc, h2 r c hc]
theorem mx_col (h : mX L M) {k : Nat} (hk : k < 12) : (fun r => M r k) = (fun r => L r (11 - k)) := funext (fun r => h r k hk)
theorem mx_gr {B E : Nat → Nat} (h : mX L M) (hB : ∀ k, k < 12 → E k = B (11 - k)) : mX (ma_gr B L 12) (ma_gr E M 12) := fun q k hk => by
  unfold ma_gr
  rw [if_pos hk, if_pos (show 11 - k < 12 by omega), mx_col h hk, mx_sd h hk, hB k hk]
theorem mx_0 : mX ma_C0 ma_C0 := fun _ _ _ => rfl
def ma_sum (φ : Nat → Nat) : Nat → Nat
  | 0 => 0
  | n + 1 => ma_sum φ n + φ n
theorem mx_sum {φ ψ : Nat → Nat} (h : ∀ k, k < 12 → ψ k = φ (11 - k)) : ma_sum ψ 12 = ma_sum φ 12 := by
  have h0 : ψ 0 = φ 11 := h 0 (by decide)
  have h1 : ψ 1 = φ 10 := h 1 (by decide)
  have h2 : ψ 2 = φ 9 := h 2 (by decide)
  have h3 : ψ 3 = φ 8 := h 3 (by decide)
  have h4 : ψ 4 = φ 7 := h 4 (by decide)
  have h5 : ψ 5 = φ 6 := h 5 (by decide)
  have h6 : ψ 6 = φ 5 := h 6 (by decide)
  have h7 : ψ 7 = φ 4 := h 7 (by decide)
  have h8 : ψ 8 = φ 3 := h 8 (by decide)
  have h9 : ψ 9 = φ 2 := h 9 (by decide)
  have h10 : ψ 10 = φ 1 := h 10 (by decide)
  have h11 : ψ 11 = φ 0 := h 11 (by decide)
  show 0 + ψ 0 + ψ 1 + ψ 2 + ψ 3 + ψ 4 + ψ 5 + ψ 6 + ψ 7 + ψ 8 + ψ 9 + ψ 10 + ψ 11 = 0 + φ 0 + φ 1 + φ 2 + φ 3 + φ 4 + φ 5 + φ 6 + φ 7 + φ 8 + φ 9 + φ 10 + φ 11
  omega
theorem ma_gn_sum (B : Nat → Nat) (L : Nat → Nat → Bool) : ∀ n, ma_gn B L n = ma_sum (fun k => ma_tn 8 (ma_sd L 0 k - B k) (fun r => L r k)) n
  | 0 => rfl
  | n + 1 => by rw [ma_gn, ma_sum, ma_gn_sum B L n]
theorem ma_all_sum (L : Nat → Nat → Bool) : ∀ n, ma_all L n = ma_sum (fun k => ma_sd L 0 k) n
  | 0 => rfl
  | n + 1 => by rw [ma_all, ma_sum, ma_all_sum L n]
theorem ma_ct_sum (p : Nat → Bool) : ∀ n, ma_ct p n = ma_sum (fun k => (p k).toNat) n
  | 0 => rfl
  | n + 1 => by rw [ma_ct, ma_sum, ma_ct_sum p n]
theorem mx_gn {B E : Nat → Nat} (h : mX L M) (hB : ∀ k, k < 12 → E k = B (11 - k)) : ma_gn E M 12 = ma_gn B L 12 := by
  rw [ma_gn_sum, ma_gn_sum]
  exact mx_sum (fun k hk => by rw [mx_col h hk, mx_sd h hk, hB k hk])
theorem mx_all (h : mX L M) : ma_all M 12 = ma_all L 12 := by
  rw [ma_all_sum, ma_all_sum]
  exact mx_sum (fun k hk => mx_sd h hk)
theorem mx_any (h : mX L M) {c : Nat} (hc : c < 12) : ∀ n, ma_any M n c = ma_any L n (11 - c)
  | 0 => rfl
  | n + 1 => by rw [ma_any, ma_any, mx_any h hc n, h n c hc]
theorem mx_lit (h : mX L M) : ma_ct (ma_any M 8) 12 = ma_ct (ma_any L 8) 12 := by
  rw [ma_ct_sum, ma_ct_sum]
  exact mx_sum (fun k hk => by rw [mx_any h hk])
theorem mx_cutL (h : mX L M) {r c : Nat} (hc : c < 12) : mX (fun q k => if q = r ∧ k = c then false else L q k) (fun q k => if q = r ∧ k = 11 - c then false else M q k) := fun q k hk => by
  dsimp only
  by_cases e : q = r ∧ k = 11 - c
  · rw [if_pos e, if_pos ⟨e.1, by omega⟩]
  · rw [if_neg e, if_neg (fun z => e ⟨z.1, by omega⟩), h q k hk]
theorem mx_cutC (h : mX L M) {r c : Nat} (hc : c < 12) : mX (fun q k => if q = r ∧ k = c then true else L q k) (fun q k => if q = r ∧ k = 11 - c then true else M q k) := fun q k hk => by
  dsimp only
  by_cases e : q = r ∧ k = 11 - c
  · rw [if_pos e, if_pos ⟨e.1, by omega⟩]
  · rw [if_neg e, if_neg (fun z => e ⟨z.1, by omega⟩), h q k hk]
theorem mx_E {L' M' : Nat → Nat → Bool} (h : mX L M) (h' : mX L' M') : mE L L' ↔ mE M M' := by
  constructor
  · intro e r c hr hc
    rw [h r c hc, h' r c hc]
    exact e r (11 - c) hr (by omega)
  · intro e r c hr hc
    have e1 := e r (11 - c) hr (by omega)
    rw [h r (11 - c) (by omega), h' r (11 - c) (by omega), show 11 - (11 - c) = c by omega] at e1
    exact e1
theorem mx_C (h2 : mX C D) (n : Nat) : mX (mC_ C n) (mC_ D n) := by
  unfold mC_
  by_cases e : n = 0
  · rw [if_pos e, if_pos e]; exact h2
  · rw [if_neg e, if_neg e]; exact mx_0
theorem mx_S {B E : Nat → Nat} (h : mX L M) (h2 : mX C D) (hB : ∀ k, k < 12 → E k = B (11 - k)) : ∀ n, mX (mS s B L C n) (mS s E M D n)
  | 0 => h
  | n + 1 => mx_gr (mx_nx (mx_S h h2 hB n) (mx_C h2 n)) hB
theorem mx_Ex {B E : Nat → Nat} (h : mX L M) (h2 : mX C D) (hB : ∀ k, k < 12 → E k = B (11 - k)) (i : Nat) : mEx s B L C i ↔ mEx s E M D i := by
  constructor
  · intro z
    obtain ⟨k, a, b, d⟩ := z
    exact ⟨k, a, fun y => (mx_E h2 mx_0).mp (b y), (mx_E (mx_S h h2 hB k) (mx_S h h2 hB i)).mp d⟩
  · intro z
    obtain ⟨k, a, b, d⟩ := z
    exact ⟨k, a, fun y => (mx_E h2 mx_0).mpr (b y), (mx_E (mx_S h h2 hB k) (mx_S h h2 hB i)).mpr d⟩
theorem mx_rep {B E : Nat → Nat} (h : mX L M) (h2 : mX C D) (hB : ∀ k, k < 12 → E k = B (11 - k)) {r r' : Int32} (a : mRp (mEx s B L C) 60 0 r) (b : mRp (mEx s E M D) 60 0 r') : r = r' := mRp_same (fun i => mx_Ex h h2 hB i) 60 0 r r' a b
-- the best cut's row
theorem mx_bf {B E : Nat → Nat} (h : mX L M) (h2 : mX C D) (hB : ∀ k, k < 12 → E k = B (11 - k)) {r c : Nat} (hc : c < 12) : mbf s E M D r (11 - c) = mbf s B L C r c := mx_lit (mx_gr (mx_nx (mx_cutL h hc) (mx_cutC h2 hc)) hB)
theorem mx_bp {B E : Nat → Nat} (h : mX L M) (h2 : mX C D) (hB : ∀ k, k < 12 → E k = B (11 - k)) {r c : Nat} (hc : c < 12) : mbp s E M D (12 * r + (11 - c)) = mbp s B L C (12 * r + c) := by
  unfold mbp
  rw [show (12 * r + (11 - c)) / 12 = r by omega, show (12 * r + (11 - c)) % 12 = 11 - c by omega, show (12 * r + c) / 12 = r by omega, show (12 * r + c) % 12 = c by omega, h r (11 - c) (by omega), show 11 - (11 - c) = c by omega, mx_bf h h2 hB hc]
theorem mbF_is (ψ : Nat → Nat) : ∀ n i b M, M ≤ (mbF ψ n i b M).2 ∧ (∀ j, i ≤ j → j < i + n → ψ j ≤ (mbF ψ n i b M).2) ∧ (((mbF ψ n i b M).2 = M ∧ (mbF ψ n i b M).1 = b) ∨ (M < (mbF ψ n i b M).2 ∧ i ≤ (mbF ψ n i b M).1 ∧ (mbF ψ n i b M).1 < i + n ∧ ψ (mbF ψ n i b M).1 = (mbF ψ n i b M).2))
  | 0, i, b, M => ⟨Nat.le_refl M, fun j h1 h2 => by omega, Or.inl ⟨rfl, rfl⟩⟩
  | n + 1, i, b, M => by
    rw [mbF]
    by_cases e : M < ψ i
    · rw [if_pos e]
      obtain ⟨h1, h2, h3⟩ := mbF_is ψ n (i + 1) i (ψ i)
      refine ⟨by omega, fun j a d => ?_, Or.inr ⟨by omega, ?_⟩⟩
      · by_cases z : j = i
        · subst z; exact h1
        · exact h2 j (by omega) (by omega)
      · rcases h3 with ⟨a, d⟩ | ⟨a, d, g, k⟩
        · rw [d, a]; exact ⟨Nat.le_refl i, by omega, rfl⟩
        · exact ⟨by omega, by omega, k⟩
    · rw [if_neg e]
      obtain ⟨h1, h2, h3⟩ := mbF_is ψ n (i + 1) b M
      refine ⟨h1, fun j a d => ?_, ?_⟩
      · by_cases z : j = i
        · subst z; omega
        · exact h2 j (by omega) (by omega)
      · rcases h3 with ⟨a, d⟩ | ⟨a, d, g, k⟩
        · exact Or.inl ⟨a, d⟩
        · exact Or.inr ⟨a, by omega, by omega, k⟩
theorem mbF_add (ψ : Nat → Nat) (m : Nat) : ∀ n i b M, mbF ψ (n + m) i b M = mbF ψ m (i + n) (mbF ψ n i b M).1 (mbF ψ n i b M).2
  | 0, i, b, M => by rw [Nat.zero_add]; rfl
  | n + 1, i, b, M => by
    rw [show n + 1 + m = n + m + 1 by omega, mbF, mbF]
    by_cases e : M < ψ i
    · rw [if_pos e, if_pos e, mbF_add ψ m n (i + 1) i (ψ i), show i + 1 + n = i + (n + 1) by omega]
    · rw [if_neg e, if_neg e, mbF_add ψ m n (i + 1) b M, show i + 1 + n = i + (n + 1) by omega]
theorem mbF_row {ψ χ : Nat → Nat} (h : ∀ r c, c < 12 → χ (12 * r + (11 - c)) = ψ (12 * r + c)) : ∀ k, (mbF ψ (12 * k) 0 0 0).2 = (mbF χ (12 * k) 0 0 0).2 ∧ (mbF ψ (12 * k) 0 0 0).1 / 12 = (mbF χ (12 * k) 0 0 0).1 / 12
  | 0 => ⟨rfl, rfl⟩
  | k + 1 => by
    obtain ⟨i1, i2⟩ := mbF_row h k
    rw [show 12 * (k + 1) = 12 * k + 12 by omega, mbF_add, mbF_add, Nat.zero_add]
    revert i1 i2
    generalize (mbF ψ (12 * k) 0 0 0).1 = b
    generalize (mbF ψ (12 * k) 0 0 0).2 = M
    generalize (mbF χ (12 * k) 0 0 0).1 = b'
    generalize (mbF χ (12 * k) 0 0 0).2 = M'
    intro i1 i2
    subst i1
    obtain ⟨p1, p2, p3⟩ := mbF_is ψ 12 (12 * k) b M
    obtain ⟨q1, q2, q3⟩ := mbF_is χ 12 (12 * k) b' M
    revert p1 p2 p3 q1 q2 q3
    generalize (mbF ψ 12 (12 * k) b M).1 = x
    generalize (mbF ψ 12 (12 * k) b M).2 = X
    generalize (mbF χ 12 (12 * k) b' M).1 = y
    generalize (mbF χ 12 (12 * k) b' M).2 = Y
    intro p1 p2 p3 q1 q2 q3
    have le1 : X ≤ Y := by
      rcases p3 with ⟨a, d⟩ | ⟨a, d, g, z⟩
      · omega
      · have e := h k (x - 12 * k) (by omega)
        rw [show 12 * k + (x - 12 * k) = x by omega, z] at e
        rw [← e]
        exact q2 _ (by omega) (by omega)
    have le2 : Y ≤ X := by
      rcases q3 with ⟨a, d⟩ | ⟨a, d, g, z⟩
      · omega
      · have e := h k (11 - (y - 12 * k)) (by omega)
        rw [show 12 * k + (11 - (11 - (y - 12 * k))) = y by omega, z] at e
        rw [e]
        exact p2 _ (by omega) (by omega)
    refine ⟨by omega, ?_⟩
    rcases p3 with ⟨a, d⟩ | ⟨a, d, g, z⟩
    · rcases q3 with ⟨a', d'⟩ | ⟨a', d', g', z'⟩
      · rw [d, d']; exact i2
      · omega
    · rcases q3 with ⟨a', d'⟩ | ⟨a', d', g', z'⟩
      · omega
      · omega
theorem mx_best {B E : Nat → Nat} (h : mX L M) (h2 : mX C D) (hB : ∀ k, k < 12 → E k = B (11 - k)) : (mbF (mbp s B L C) 96 0 0 0).2 = (mbF (mbp s E M D) 96 0 0 0).2 ∧ (mbF (mbp s B L C) 96 0 0 0).1 / 12 = (mbF (mbp s E M D) 96 0 0 0).1 / 12 := mbF_row (fun r c hc => mx_bp h h2 hB hc) 8
theorem ma_all_0 (L : Nat → Nat → Bool) : ∀ n, ma_all L n = 0 ↔ ∀ c, c < n → ma_sd L 0 c = 0
  | 0 => ⟨fun _ c hc => absurd hc (Nat.not_lt_zero c), fun _ => rfl⟩
  | n + 1 => by
    have ih := ma_all_0 L n
    rw [ma_all]
    constructor
    · intro z c hc
      by_cases e : c = n
      · subst e; omega
      · exact ih.mp (by omega) c (by omega)
    · intro z
      rw [ih.mpr (fun c hc => z c (by omega)), z n (by omega)]
theorem mb_none (B : Nat → Nat) (L C : Nat → Nat → Bool) : (mbF (mbp s B L C) 96 0 0 0).2 = 0 ↔ ma_all L 12 = 0 := by
  obtain ⟨p1, p2, p3⟩ := mbF_is (mbp s B L C) 96 0 0 0
  rw [ma_all_0]
  constructor
  · intro z c hc
    unfold ma_sd
    rw [ma_u_zero]
    intro k _ hk
    have e := p2 (12 * k + c) (by omega) (by omega)
    rw [z] at e
    unfold mbp at e
    rw [show (12 * k + c) / 12 = k by omega, show (12 * k + c) % 12 = c by omega] at e
    cases hL : L k c with
    | false => rfl
    | true => rw [hL, if_pos rfl] at e; omega
  · intro z
    rcases p3 with ⟨a, d⟩ | ⟨a, d, g, y⟩
    · exact a
    · exfalso
      have hz := z ((mbF (mbp s B L C) 96 0 0 0).1 % 12) (by omega)
      unfold ma_sd at hz
      rw [ma_u_zero] at hz
      have hq := hz ((mbF (mbp s B L C) 96 0 0 0).1 / 12) (by omega) (by omega)
      revert a d g y hq
      generalize (mbF (mbp s B L C) 96 0 0 0).1 = b
      generalize (mbF (mbp s B L C) 96 0 0 0).2 = X
      intro a d g y hq
      unfold mbp at y
      rw [show L (b / 12) (b % 12) = false from hq, if_neg (by decide)] at y
      omega
theorem mb_leaf (B : Nat → Nat) (L C : Nat → Nat → Bool) (h : ¬ (mbF (mbp s B L C) 96 0 0 0).2 = 0) : (mbF (mbp s B L C) 96 0 0 0).1 < 96 ∧ L ((mbF (mbp s B L C) 96 0 0 0).1 / 12) ((mbF (mbp s B L C) 96 0 0 0).1 % 12) = true := by
  obtain ⟨p1, p2, p3⟩ := mbF_is (mbp s B L C) 96 0 0 0
  rcases p3 with ⟨a, d⟩ | ⟨a, d, g, y⟩
  · exact absurd a h
  · refine ⟨by omega, ?_⟩
    revert a y g d
    generalize (mbF (mbp s B L C) 96 0 0 0).1 = b
    generalize (mbF (mbp s B L C) 96 0 0 0).2 = X
    intro a d g y
    unfold mbp at y
    cases hL : L (b / 12) (b % 12) with
    | true => rfl
    | false => rw [hL, if_neg (by decide)] at y; omega
end MXW
-- no column has more leaves than its trellis bears
theorem ma_t_ge : ∀ (n k : Nat) (p : Nat → Bool) (r : Nat), n ≤ r → ma_t n k p r = p r
  | 0, _, _, _, _ => rfl
  | n + 1, k, p, r, h => by
    rw [ma_t]
    by_cases e : k = 0
    · rw [if_pos e]
    · rw [if_neg e]
      cases hp : p n with
      | true => rw [if_pos rfl, ma_t_ge n (k - 1) _ r (by omega), if_neg (by omega)]
      | false => rw [if_neg (by decide), ma_t_ge n k p r (by omega)]
theorem ma_t_ct : ∀ (n k : Nat) (p : Nat → Bool), ma_ct (ma_t n k p) n = ma_ct p n - k
  | 0, k, p => by rw [ma_ct, ma_ct, Nat.zero_sub]
  | n + 1, k, p => by
    rw [ma_t]
    by_cases e : k = 0
    · rw [if_pos e, e, Nat.sub_zero]
    · rw [if_neg e]
      cases hp : p n with
      | true =>
        have e1 : ma_ct (fun r => if r = n then false else p r) n = ma_ct p n := ma_ct_cong (fun j hj => if_neg (by omega))
        rw [if_pos rfl, ma_ct, ma_t_ct n (k - 1), ma_t_ge n (k - 1) _ n (Nat.le_refl n), if_pos rfl, e1, ma_ct, hp]
        show ma_ct p n - (k - 1) + 0 = ma_ct p n + 1 - k
        omega
      | false =>
        rw [if_neg (by decide), ma_ct, ma_t_ct n k p, ma_t_ge n k p n (Nat.le_refl n), ma_ct, hp]
        rfl
theorem ma_u_ct (p : Nat → Bool) : ∀ n i, ma_u p n i + ma_ct p i = ma_ct p (i + n)
  | 0, i => by rw [ma_u, Nat.zero_add]; rfl
  | n + 1, i => by
    have ih := ma_u_ct p n (i + 1)
    rw [ma_ct] at ih
    rw [ma_u, show i + (n + 1) = i + 1 + n by omega, ← ih]
    omega
theorem ma_sd_ct (L : Nat → Nat → Bool) (c : Nat) : ma_sd L 0 c = ma_ct (fun q => L q c) 8 := by
  have h := ma_u_ct (fun q => L q c) 8 0
  rw [Nat.zero_add] at h
  exact h
theorem ma_bears (B : Nat → Nat) (L : Nat → Nat → Bool) {c : Nat} (hc : c < 12) : ma_sd (ma_gr B L 12) 0 c ≤ B c := by
  have e : (fun q => ma_gr B L 12 q c) = ma_t 8 (ma_sd L 0 c - B c) (fun r => L r c) := by
    funext q
    unfold ma_gr
    rw [if_pos hc]
  rw [ma_sd_ct, e, ma_t_ct, ← ma_sd_ct]
  omega
theorem ma_sd_s (L : Nat → Nat → Bool) {w : Nat} (hw : w < 8) (c : Nat) : ma_sd L w c = (L w c).toNat + ma_sd L (w + 1) c := by
  unfold ma_sd
  rw [show 8 - w = 8 - (w + 1) + 1 by omega, ma_u]
theorem ma_ho_ne (s : Int32) (L : Nat → Nat → Bool) (r c : Nat) : ma_ho s L r c ≤ ma_ne s L r c := by
  unfold ma_ho ma_ne
  omega
theorem ma_ho_le (s : Int32) (L : Nat → Nat → Bool) (r c : Nat) : ma_ho s L r c ≤ 3 := ma_3_le _ _
theorem ma_gn_le (B : Nat → Nat) (L : Nat → Nat → Bool) : ∀ n, ma_gn B L n ≤ 8 * n
  | 0 => Nat.le_refl 0
  | n + 1 => by
    have h1 := ma_gn_le B L n
    have h2 : ∀ (m k : Nat) (p : Nat → Bool), ma_tn m k p ≤ m := by
      intro m
      induction m with
      | zero => intro k p; exact Nat.le_refl 0
      | succ m ih =>
        intro k p
        rw [ma_tn]
        by_cases e : k = 0
        · rw [if_pos e]; omega
        · rw [if_neg e]
          cases p m with
          | true => rw [if_pos rfl]; have := ih (k - 1) (fun r => if r = m then false else p r); omega
          | false => rw [if_neg (by decide)]; have := ih k p; omega
    have h3 := h2 8 (ma_sd L 0 n - B n) (fun r => L r n)
    rw [ma_gn]
    omega
end
