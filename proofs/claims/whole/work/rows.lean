section
-- ===== PART A: goes FIRST, ahead of the names: the tables' words, and 'selects' of the private methods out of them =====
/-- a private method of a class that the tables say can be made, by its rows of tables_1 -/
def lw_okq (q : MethodName × Nat) : Prop := (q.1.cls ≠ "java/lang/invoke/MethodHandle" ∧ q.1.cls ≠ "java/lang/invoke/VarHandle") ∧ Cond.instantiable q.1.cls q.2 ∈ tables_1 ∧ Cond.privateMethod q.1 ∈ tables_1 ∧ Cond.instanceMethod q.1 ∈ tables_1
theorem lw_p0 : lw_okq (⟨"VineWall$Wall", "leafRowNext", "(II)I"⟩, 2) := ⟨⟨by decide +kernel, by decide +kernel⟩, List.mem_of_getElem? (i := 20) (by decide +kernel), List.mem_of_getElem? (i := 111) (by decide +kernel), List.mem_of_getElem? (i := 112) (by decide +kernel)⟩
theorem lw_p1 : lw_okq (⟨"VineWall$Wall", "leafRow", "(I)I"⟩, 2) := ⟨⟨by decide +kernel, by decide +kernel⟩, List.mem_of_getElem? (i := 20) (by decide +kernel), List.mem_of_getElem? (i := 115) (by decide +kernel), List.mem_of_getElem? (i := 116) (by decide +kernel)⟩
theorem lw_p2 : lw_okq (⟨"VineWall$Wall", "leafRowAsSeen", "(II)I"⟩, 2) := ⟨⟨by decide +kernel, by decide +kernel⟩, List.mem_of_getElem? (i := 20) (by decide +kernel), List.mem_of_getElem? (i := 119) (by decide +kernel), List.mem_of_getElem? (i := 120) (by decide +kernel)⟩
theorem lw_p3 : lw_okq (⟨"VineWall$Wall", "bearsLeafNext", "(IIII)Z"⟩, 2) := ⟨⟨by decide +kernel, by decide +kernel⟩, List.mem_of_getElem? (i := 20) (by decide +kernel), List.mem_of_getElem? (i := 129) (by decide +kernel), List.mem_of_getElem? (i := 130) (by decide +kernel)⟩
theorem lw_p4 : lw_okq (⟨"VineWall$Wall", "hasCutAt", "(II)Z"⟩, 2) := ⟨⟨by decide +kernel, by decide +kernel⟩, List.mem_of_getElem? (i := 20) (by decide +kernel), List.mem_of_getElem? (i := 133) (by decide +kernel), List.mem_of_getElem? (i := 134) (by decide +kernel)⟩
theorem lw_p5 : lw_okq (⟨"VineWall$Wall", "takeTopmost", "(II)I"⟩, 2) := ⟨⟨by decide +kernel, by decide +kernel⟩, List.mem_of_getElem? (i := 20) (by decide +kernel), List.mem_of_getElem? (i := 149) (by decide +kernel), List.mem_of_getElem? (i := 150) (by decide +kernel)⟩
theorem lw_p6 : lw_okq (⟨"VineWall$Wall", "takeLeaf", "(II)V"⟩, 2) := ⟨⟨by decide +kernel, by decide +kernel⟩, List.mem_of_getElem? (i := 20) (by decide +kernel), List.mem_of_getElem? (i := 153) (by decide +kernel), List.mem_of_getElem? (i := 154) (by decide +kernel)⟩
theorem lw_p7 : lw_okq (⟨"VineWall", "remember", "(I)V"⟩, 11) := ⟨⟨by decide +kernel, by decide +kernel⟩, List.mem_of_getElem? (i := 12) (by decide +kernel), List.mem_of_getElem? (i := 172) (by decide +kernel), List.mem_of_getElem? (i := 173) (by decide +kernel)⟩
theorem lw_p8 : lw_okq (⟨"VineWall", "looksAsBefore", "(II)Z"⟩, 11) := ⟨⟨by decide +kernel, by decide +kernel⟩, List.mem_of_getElem? (i := 12) (by decide +kernel), List.mem_of_getElem? (i := 180) (by decide +kernel), List.mem_of_getElem? (i := 181) (by decide +kernel)⟩
theorem lw_p9 : lw_okq (⟨"VineWall", "litBehindCut", "(II)I"⟩, 11) := ⟨⟨by decide +kernel, by decide +kernel⟩, List.mem_of_getElem? (i := 12) (by decide +kernel), List.mem_of_getElem? (i := 189) (by decide +kernel), List.mem_of_getElem? (i := 190) (by decide +kernel)⟩
theorem lw_p10 : lw_okq (⟨"java/lang/Throwable", "fillInStackTrace", "(I)Ljava/lang/Throwable;"⟩, 6) := ⟨⟨by decide +kernel, by decide +kernel⟩, List.mem_of_getElem? (i := 252) (by decide +kernel), List.mem_of_getElem? (i := 250) (by decide +kernel), List.mem_of_getElem? (i := 251) (by decide +kernel)⟩
theorem lw_p11 : lw_okq (⟨"VineWallModel", "allLeaves", "(I)I"⟩, 8) := ⟨⟨by decide +kernel, by decide +kernel⟩, List.mem_of_getElem? (i := 412) (by decide +kernel), List.mem_of_getElem? (i := 473) (by decide +kernel), List.mem_of_getElem? (i := 474) (by decide +kernel)⟩
theorem lw_p12 : lw_okq (⟨"VineWallModel", "inColumn", "(II)I"⟩, 8) := ⟨⟨by decide +kernel, by decide +kernel⟩, List.mem_of_getElem? (i := 412) (by decide +kernel), List.mem_of_getElem? (i := 477) (by decide +kernel), List.mem_of_getElem? (i := 478) (by decide +kernel)⟩
theorem lw_p13 : lw_okq (⟨"VineWallModel", "leafAt", "(III)I"⟩, 8) := ⟨⟨by decide +kernel, by decide +kernel⟩, List.mem_of_getElem? (i := 412) (by decide +kernel), List.mem_of_getElem? (i := 481) (by decide +kernel), List.mem_of_getElem? (i := 482) (by decide +kernel)⟩
theorem lw_p14 : lw_okq (⟨"VineWallModel", "shade", "(III)I"⟩, 8) := ⟨⟨by decide +kernel, by decide +kernel⟩, List.mem_of_getElem? (i := 412) (by decide +kernel), List.mem_of_getElem? (i := 485) (by decide +kernel), List.mem_of_getElem? (i := 486) (by decide +kernel)⟩
theorem lw_p15 : lw_okq (⟨"VineWallModel", "grows", "(II)I"⟩, 8) := ⟨⟨by decide +kernel, by decide +kernel⟩, List.mem_of_getElem? (i := 412) (by decide +kernel), List.mem_of_getElem? (i := 489) (by decide +kernel), List.mem_of_getElem? (i := 490) (by decide +kernel)⟩
def lw_privs_1 : List (MethodName × Nat) := [(⟨"VineWall$Wall", "leafRowNext", "(II)I"⟩, 2), (⟨"VineWall$Wall", "leafRow", "(I)I"⟩, 2), (⟨"VineWall$Wall", "leafRowAsSeen", "(II)I"⟩, 2), (⟨"VineWall$Wall", "bearsLeafNext", "(IIII)Z"⟩, 2), (⟨"VineWall$Wall", "hasCutAt", "(II)Z"⟩, 2), (⟨"VineWall$Wall", "takeTopmost", "(II)I"⟩, 2), (⟨"VineWall$Wall", "takeLeaf", "(II)V"⟩, 2), (⟨"VineWall", "remember", "(I)V"⟩, 11), (⟨"VineWall", "looksAsBefore", "(II)Z"⟩, 11), (⟨"VineWall", "litBehindCut", "(II)I"⟩, 11), (⟨"java/lang/Throwable", "fillInStackTrace", "(I)Ljava/lang/Throwable;"⟩, 6), (⟨"VineWallModel", "allLeaves", "(I)I"⟩, 8), (⟨"VineWallModel", "inColumn", "(II)I"⟩, 8), (⟨"VineWallModel", "leafAt", "(III)I"⟩, 8), (⟨"VineWallModel", "shade", "(III)I"⟩, 8), (⟨"VineWallModel", "grows", "(II)I"⟩, 8)]
theorem lw_r1 : ∀ q ∈ lw_privs_1, lw_okq q := List.forall_mem_cons.mpr ⟨lw_p0, List.forall_mem_cons.mpr ⟨lw_p1, List.forall_mem_cons.mpr ⟨lw_p2, List.forall_mem_cons.mpr ⟨lw_p3, List.forall_mem_cons.mpr ⟨lw_p4, List.forall_mem_cons.mpr ⟨lw_p5, List.forall_mem_cons.mpr ⟨lw_p6, List.forall_mem_cons.mpr ⟨lw_p7, List.forall_mem_cons.mpr ⟨lw_p8, List.forall_mem_cons.mpr ⟨lw_p9, List.forall_mem_cons.mpr ⟨lw_p10, List.forall_mem_cons.mpr ⟨lw_p11, List.forall_mem_cons.mpr ⟨lw_p12, List.forall_mem_cons.mpr ⟨lw_p13, List.forall_mem_cons.mpr ⟨lw_p14, List.forall_mem_cons.mpr ⟨lw_p15, fun _ h => absurd h List.not_mem_nil⟩⟩⟩⟩⟩⟩⟩⟩⟩⟩⟩⟩⟩⟩⟩⟩
theorem lw_p16 : lw_okq (⟨"VineWallModel", "becomes", "(III)I"⟩, 8) := ⟨⟨by decide +kernel, by decide +kernel⟩, List.mem_of_getElem? (i := 412) (by decide +kernel), List.mem_of_getElem? (i := 493) (by decide +kernel), List.mem_of_getElem? (i := 494) (by decide +kernel)⟩
theorem lw_p17 : lw_okq (⟨"VineWallModel", "holders", "(III)I"⟩, 8) := ⟨⟨by decide +kernel, by decide +kernel⟩, List.mem_of_getElem? (i := 412) (by decide +kernel), List.mem_of_getElem? (i := 497) (by decide +kernel), List.mem_of_getElem? (i := 498) (by decide +kernel)⟩
theorem lw_p18 : lw_okq (⟨"VineWallModel", "threeIn", "(III)I"⟩, 8) := ⟨⟨by decide +kernel, by decide +kernel⟩, List.mem_of_getElem? (i := 412) (by decide +kernel), List.mem_of_getElem? (i := 501) (by decide +kernel), List.mem_of_getElem? (i := 502) (by decide +kernel)⟩
theorem lw_p19 : lw_okq (⟨"VineWallModel", "neighbours", "(III)I"⟩, 8) := ⟨⟨by decide +kernel, by decide +kernel⟩, List.mem_of_getElem? (i := 412) (by decide +kernel), List.mem_of_getElem? (i := 505) (by decide +kernel), List.mem_of_getElem? (i := 506) (by decide +kernel)⟩
theorem lw_p20 : lw_okq (⟨"VineWallModel", "breaks", "(I)I"⟩, 8) := ⟨⟨by decide +kernel, by decide +kernel⟩, List.mem_of_getElem? (i := 412) (by decide +kernel), List.mem_of_getElem? (i := 509) (by decide +kernel), List.mem_of_getElem? (i := 510) (by decide +kernel)⟩
theorem lw_p21 : lw_okq (⟨"VineWallModel", "copies", "(II)V"⟩, 8) := ⟨⟨by decide +kernel, by decide +kernel⟩, List.mem_of_getElem? (i := 412) (by decide +kernel), List.mem_of_getElem? (i := 513) (by decide +kernel), List.mem_of_getElem? (i := 514) (by decide +kernel)⟩
theorem lw_p22 : lw_okq (⟨"VineWallModel", "allLit", "(I)I"⟩, 8) := ⟨⟨by decide +kernel, by decide +kernel⟩, List.mem_of_getElem? (i := 412) (by decide +kernel), List.mem_of_getElem? (i := 549) (by decide +kernel), List.mem_of_getElem? (i := 550) (by decide +kernel)⟩
theorem lw_p23 : lw_okq (⟨"VineWallModel", "areAlike", "(II)Z"⟩, 8) := ⟨⟨by decide +kernel, by decide +kernel⟩, List.mem_of_getElem? (i := 412) (by decide +kernel), List.mem_of_getElem? (i := 573) (by decide +kernel), List.mem_of_getElem? (i := 574) (by decide +kernel)⟩
def lw_privs_2 : List (MethodName × Nat) := [(⟨"VineWallModel", "becomes", "(III)I"⟩, 8), (⟨"VineWallModel", "holders", "(III)I"⟩, 8), (⟨"VineWallModel", "threeIn", "(III)I"⟩, 8), (⟨"VineWallModel", "neighbours", "(III)I"⟩, 8), (⟨"VineWallModel", "breaks", "(I)I"⟩, 8), (⟨"VineWallModel", "copies", "(II)V"⟩, 8), (⟨"VineWallModel", "allLit", "(I)I"⟩, 8), (⟨"VineWallModel", "areAlike", "(II)Z"⟩, 8)]
theorem lw_r2 : ∀ q ∈ lw_privs_2, lw_okq q := List.forall_mem_cons.mpr ⟨lw_p16, List.forall_mem_cons.mpr ⟨lw_p17, List.forall_mem_cons.mpr ⟨lw_p18, List.forall_mem_cons.mpr ⟨lw_p19, List.forall_mem_cons.mpr ⟨lw_p20, List.forall_mem_cons.mpr ⟨lw_p21, List.forall_mem_cons.mpr ⟨lw_p22, List.forall_mem_cons.mpr ⟨lw_p23, fun _ h => absurd h List.not_mem_nil⟩⟩⟩⟩⟩⟩⟩⟩
def lw_privs : List (MethodName × Nat) := lw_privs_1 ++ (lw_privs_2)
def lw_tbl : List Cond := k2_sels lw_privs ++ tables_1
theorem lw_privs_ok : ∀ q ∈ lw_privs, lw_okq q := by
  show ∀ q ∈ lw_privs_1 ++ (lw_privs_2), lw_okq q
  exact List.forall_mem_append.mpr ⟨lw_r1, lw_r2⟩
-- ===== end of PART A; then your names; then what follows =====
end
section
/-! ===== BEGIN words of one list among another's, by their places ===== -/
theorem goodIn_r {big : List Cond} (ws : List Cond) (ps : List Nat) (hp : ws = ps.filterMap (fun i => big[i]?)) (h : ws.all goodWord = true) : GoodIn big ws := by
  intro w hw
  have h1 := List.all_eq_true.mp h w hw
  rw [hp] at hw
  obtain ⟨i, -, hi⟩ := List.mem_filterMap.mp hw
  have hm : w ∈ big := by first | exact List.mem_of_getElem? hi | exact List.getElem?_mem hi
  exact ⟨hm, good_of_word h1⟩
theorem goodIn_app {big a b : List Cond} (ha : GoodIn big a) (hb : GoodIn big b) : GoodIn big (a ++ b) := fun w h => (List.mem_append.mp h).elim (ha w) (hb w)
theorem goodIn_ca {big a b : List Cond} {c : Cond} (ha : GoodIn big (c :: a)) (hb : GoodIn big b) : GoodIn big (c :: (a ++ b)) := fun w h => (List.mem_cons.mp h).elim (fun e => ha w (List.mem_cons.mpr (Or.inl e))) (fun h => (List.mem_append.mp h).elim (fun h => ha w (List.mem_cons.mpr (Or.inr h))) (hb w))
theorem goodIn_sub {big ws : List Cond} (hm : ∀ w ∈ ws, w ∈ big) (h : ws.all goodWord = true) : GoodIn big ws := fun w hw => ⟨hm w hw, good_of_word (List.all_eq_true.mp h w hw)⟩
/-! ===== END ===== -/

/-! ===== BEGIN exceptions that leave a method, and their catching by the caller (launches without stack traces) ===== -/
section VXA
/-! The laws vx_back, vx_callV, vx_callS, vx_callSW, vx_throw0, vx_throwS follow proofs of the library, with one case more: JvmDerived/Free/Laws.lean (Back.of_free), Shelf42/LK1.lean (callV, callS), Shelf/KitTraced.lean (throwNew0V, throwNewS). -/
/-- where a method has thrown q: the class by its name, the cell, what was written, the world -/
def vx_T (XC : String → State → State → Prop) (st : State) (q : Addr) (t : State) (mc ms : Nat) (free : Addr → Prop) : Prop :=
  ∃ (E : String) (ce : Cell) (L : List Loc), XC E st t ∧ t.heap[q]? = some ce ∧ ce.vm = .none ∧ st.vm.findClass E = some ce.cls ∧ st.WarmedH t.vm ∧ st.sameButNew ({ t with vm := st.vm } : State) L mc ms ∧ ∀ z ∈ L, free z.base
def vx_Q (Qc : Array Value → State → Outcome → State → Prop) (XC : String → State → State → Prop) (mc ms : Nat) (free : Addr → Prop) : Array Value → State → Outcome → State → Prop := fun a st o t =>
  (Qc a st o t ∧ ∃ L, FrameEnd st o t L mc ms ∧ ∀ q ∈ L, free q.base) ∨ ∃ q, o = .threw q ∧ vx_T XC st q t mc ms free
/-- a callee that returns or throws -/
def vx_Met (l : Launch) (y : MethodName) (ws : List Cond) (rm : Room) (Pc : Array Value → State → Prop) (Qc : Array Value → State → Outcome → State → Prop) (XC : String → State → State → Prop) (mc ms : Nat) (free : Addr → Prop) : Prop :=
  MetFree l y (headSpec ws rm) Pc (fun _ _ _ _ _ => True) (vx_Q Qc XC mc ms free)
def vx_Post (XC : String → State → State → Prop) (mc ms : Nat) (free : Addr → Prop) : Pt → Array Value → Addr → Pt → Prop := fun A a q B =>
  ∃ (g : JFrame) (mk : MethodId) (t : State) (L : List Loc) (E : String) (ce : Cell), B.U.heap = t.heap ∧ B.U.vm = t.vm ∧ XC E (A.U.calling g mk a) t ∧ t.heap[q]? = some ce ∧ ce.vm = .none ∧ A.U.vm.findClass E = some ce.cls ∧ B.locs = A.locs ++ L ∧ (∀ z ∈ L, free z.base) ∧ B.cells = A.cells + mc ∧ B.slots = A.slots + ms
def vx_Back (l : Launch) (R : Room) (p : Program) (e : Env) (below : List Frame) (s : State) (sargs : Array Value) (y : MethodName) (len W9 : Nat)
    (Pre : Pt → Array Value → Prop) (Post : Pt → Array Value → Option Value → Pt → Prop) (PostX : Pt → Array Value → Addr → Pt → Prop) : Prop :=
  ∀ (m : MethodId) (meth : Method) (c : Code) (A : Pt) (g : JFrame) (ig : Instr) (mk : MethodId) (a : Array Value),
    Stand p l e R s m sargs below meth c A.U A.locs A.cells A.slots → g.method = m → g.locals.size = c.maxLocals → decode c.code g.pc = .ok (ig, len) →
    2 * g.monitorRoom + (g.stack.map fun v => v.category).sum ≤ W9 → A.U.methodNamed? y = some mk → Pre A a →
    (∃ (v : Option Value) (B : Pt), Stand p l e R s m sargs below meth c B.U B.locs B.cells B.slots ∧ Post A a v B ∧
      Steps p.tables e below (doInvoke e (A.U.setTop g) [] mk a).1 (B.U.setTop { g with pc := g.pc + len, stack := v.toList ++ g.stack })) ∨
    (∃ (q : Addr) (B : Pt), Stand p l e R s m sargs below meth c B.U B.locs B.cells B.slots ∧ PostX A a q B ∧
      Steps p.tables e below (doInvoke e (A.U.setTop g) [] mk a).1 ((B.U.setTop g).pushFrame (.throwing q)))
section Payer
variable {l : Launch} {R : Room} {p : Program} {e : Env} {below : List Frame} {s : State} {sargs : Array Value} {y : MethodName} {len W9 : Nat}
theorem vx_back {ws : List Cond} {rm : Room} {Pc : Array Value → State → Prop} {Qc : Array Value → State → Outcome → State → Prop} {XC : String → State → State → Prop} {mc ms : Nat} {free : Addr → Prop} {bytes : ByteArray} {maxL : Nat} {ret : Option FieldType}
    (hM : vx_Met l y ws rm Pc Qc XC mc ms free) (hblind : FrameBlind Pc) (hrc : rm.cells = mc) (hrs : rm.slots = ms)
    (hframes : rm.frames + 1 ≤ R.frames) (hlocals : W9 + (maxL + 11) + rm.locals ≤ R.locals)
    (hws : ∀ w ∈ ws, ∀ a' U, s.WarmedH U.vm → w.before a' U = true) (hcode : Cond.code y bytes maxL ret ∈ ws) (hinit : ∀ a' U, s.WarmedH U.vm → (Cond.initialized y.cls).before a' U = true) :
    vx_Back l R p e below s sargs y len W9 (PreOf R mc ms Pc) (PostOf Qc mc ms free) (vx_Post XC mc ms free) := by
  intro m meth c A g ig mk a X hg hsize hdg hW hn hp
  have h1 : (headSpec ws rm).pre.before a A.U = true := atoms_intro fun w hw => hws w hw _ _ X.warmed
  have h2 : (Cond.code y bytes maxL ret).before a A.U = true := hws _ hcode _ _ X.warmed
  have h3 : (Cond.initialized y.cls).before a A.U = true := hinit _ _ X.warmed
  have h4 : A.cells + (headSpec ws rm).room.cells ≤ R.cells := by rw [show (headSpec ws rm).room.cells = mc from hrc]; exact hp.1
  have h5 : A.slots + (headSpec ws rm).room.slots ≤ R.slots := by rw [show (headSpec ws rm).room.slots = ms from hrs]; exact hp.2.1
  have hPc : Pc a (A.U.calling g mk a) := hblind _ _ _ _ hp.2.2
  obtain ⟨U, Ls, c0, s0⟩ := A
  dsimp only [Pt.U, Pt.locs, Pt.cells, Pt.slots] at h1 h2 h3 h4 h5 X hn hPc ⊢
  obtain ⟨methY, cY, hmY, hcY, -, hlY, -, -, -, -⟩ := Cond.code_spec hn h2
  obtain ⟨kY, hkY, -⟩ := className_of_methodNamed hn
  have hinitY : kY.init = .initialized := Cond.initialized_spec (findClass_of_methodNamed hn) hkY h3
  have h : At U g.method c below := by rw [hg]; exact X.here
  have hlocals9 : W9 + (maxL + 11) + (headSpec ws rm).room.locals ≤ R.locals := hlocals
  have happ : (headSpec ws rm).appliesLoose y e.platform (U.calling g mk a) = true :=
    Spec.appliesLoose_calling (g := g) h hdg hn hkY hinitY
      (X.room_calling (g := g) (R' := (headSpec ws rm).room) hsize hmY hcY hframes (by rw [hlY]; omega) h4 h5) h1
  obtain ⟨mid, hmid⟩ := h.above
  have hfr : (U.setTop g).frames = (.java g :: mid) ++ below := by rw [State.frames_setTop' g h.top, hmid]; rfl
  obtain ⟨o, s₂, hsteps, -, hend, hq⟩ := Steps.callFree hM p X.admits X.cas X.clock (acts := []) hfr happ hPc trivial
  have hq' : vx_Q Qc XC mc ms free a (U.calling g mk a) o s₂ := hq
  rw [State.frames_setTop' g h.top] at hend
  obtain ⟨g₀, hg0⟩ := Option.isSome_iff_exists.mp h.top
  obtain ⟨r, hr⟩ := State.topJava?_eq_some.mp hg0
  have hr' : (({ U with heap := s₂.heap, slotsUsed := s₂.slotsUsed } : State).setVm s₂.vm).frames = .java g₀ :: r := hr
  rcases hq' with ⟨hqc, L, hfe, hL⟩ | ⟨q, rfl, E, ce, L, hx, hce, hcv, hcl, hW₂, hsm, hL⟩
  · obtain ⟨⟨v, rfl⟩, hW₂, e2, q2, q3, q4, q5, q6⟩ := id hfe
    have e3 : s₂ = ({ (U.calling g mk a).setFrames s₂.frames with heap := s₂.heap, slotsUsed := s₂.slotsUsed } : State).setVm s₂.vm := by
      have : s₂ = ({ s₂ with vm := (U.calling g mk a).vm } : State).setVm s₂.vm := rfl
      rw [e2] at this
      exact this
    obtain ⟨c₂, i₂, len₂, hc₂, hd₂, hf₂⟩ := hend
    have hW' : U.WarmedH s₂.vm := hW₂
    have hcc : c₂ = c := by
      have h1 : s₂.code? g.method = U.code? g.method := by
        rw [State.code?_eq, State.code?_eq, hW'.alike.method?]
      exact Option.some.inj (hc₂.symm.trans (h1.trans h.code))
    subst hcc
    have hlen : len₂ = len := by rw [hdg] at hd₂; cases hd₂; rfl
    subst hlen
    have hs₂ : s₂ = (({ U with heap := s₂.heap, slotsUsed := s₂.slotsUsed } : State).setVm s₂.vm).setTop { g with pc := g.pc + len₂, stack := v.toList ++ g.stack } := by
      refine e3.trans ?_
      rw [hf₂, State.calling_eq h.top, State.setFrames_setFrames, State.setTop_of_frames _ hr', hr]
      rfl
    have hsame : U.sameButNew ({ U with heap := s₂.heap, slotsUsed := s₂.slotsUsed } : State) L mc ms := by
      refine ⟨?_, q2, q3, q4, q5, q6⟩
      obtain ⟨t, ht, -⟩ := State.frames_cons hr
      show ({ U with heap := s₂.heap, slotsUsed := s₂.slotsUsed } : State) = { U.setFrames U.frames with heap := s₂.heap, slotsUsed := s₂.slotsUsed }
      rw [State.setFrames_self ht]
    subst hg
    refine Or.inl ⟨v, ⟨(({ U with heap := s₂.heap, slotsUsed := s₂.slotsUsed } : State).setVm s₂.vm), Ls ++ L, c0 + mc, s0 + ms⟩,
      ⟨X.admits, X.cas, X.clock, X.frames, X.room, X.hears, X.method, X.code, (X.here.setHeapUsed s₂.heap s₂.slotsUsed).setVm hW'.alike, X.tail, State.WarmedH.trans X.warmed hW', X.limits, X.bytes, X.same.trans (hsame.setVm s.vm)⟩,
      ⟨g, mk, s₂, L, rfl, rfl, hqc, rfl, hL, rfl, rfl⟩, ?_⟩
    show Steps p.tables e below _ ((({ U with heap := s₂.heap, slotsUsed := s₂.slotsUsed } : State).setVm s₂.vm).setTop { g with pc := g.pc + len₂, stack := v.toList ++ g.stack })
    rw [← hs₂]
    exact hsteps
  · obtain ⟨e2, q2, q3, q4, q5, q6⟩ := id hsm
    have e3 : s₂ = ({ (U.calling g mk a).setFrames s₂.frames with heap := s₂.heap, slotsUsed := s₂.slotsUsed } : State).setVm s₂.vm := by
      have : s₂ = ({ s₂ with vm := (U.calling g mk a).vm } : State).setVm s₂.vm := rfl
      rw [e2] at this
      exact this
    have hf₂ : s₂.frames = .throwing q :: .java g :: U.frames.tail := hend
    have hW' : U.WarmedH s₂.vm := hW₂
    have hs₂ : s₂ = ((({ U with heap := s₂.heap, slotsUsed := s₂.slotsUsed } : State).setVm s₂.vm).setTop g).pushFrame (.throwing q) := by
      refine e3.trans ?_
      rw [hf₂, State.calling_eq h.top, State.setFrames_setFrames, State.pushFrame, State.frames_setTop _ hr', State.setTop_of_frames _ hr', State.setFrames_setFrames, hr]
      rfl
    have hsame : U.sameButNew ({ U with heap := s₂.heap, slotsUsed := s₂.slotsUsed } : State) L mc ms := by
      refine ⟨?_, q2, q3, q4, q5, q6⟩
      obtain ⟨t, ht, -⟩ := State.frames_cons hr
      show ({ U with heap := s₂.heap, slotsUsed := s₂.slotsUsed } : State) = { U.setFrames U.frames with heap := s₂.heap, slotsUsed := s₂.slotsUsed }
      rw [State.setFrames_self ht]
    subst hg
    refine Or.inr ⟨q, ⟨(({ U with heap := s₂.heap, slotsUsed := s₂.slotsUsed } : State).setVm s₂.vm), Ls ++ L, c0 + mc, s0 + ms⟩,
      ⟨X.admits, X.cas, X.clock, X.frames, X.room, X.hears, X.method, X.code, (X.here.setHeapUsed s₂.heap s₂.slotsUsed).setVm hW'.alike, X.tail, State.WarmedH.trans X.warmed hW', X.limits, X.bytes, X.same.trans (hsame.setVm s.vm)⟩,
      ⟨g, mk, s₂, L, E, ce, rfl, rfl, hx, hce, hcv, hcl, rfl, hL, rfl, rfl⟩, ?_⟩
    show Steps p.tables e below _ (((({ U with heap := s₂.heap, slotsUsed := s₂.slotsUsed } : State).setVm s₂.vm).setTop g).pushFrame (.throwing q))
    rw [← hs₂]
    exact hsteps
end Payer
section Calls
variable {p : Program} {l : Launch} {e : Env} {R : Room} {s : State} {m : MethodId} {args : Array Value} {below : List Frame} {meth : Method} {c : Code} {T : State} {locs : List Loc} {cells slots : Nat}
theorem vx_callV (X : Stand p l e R s m args below meth c T locs cells slots) (hexec : p.tables.exec = Jvm.exec) {own C : String} {index : Nat} {y : MethodName} {bytes : ByteArray} {maxL : Nat} {ret : Option FieldType}
    (hown : s.vm.findClass own = some m.cls) (hlink : (Cond.methodLink own index y).before args s = true) (hinst : (Cond.instanceMethod y).before args s = true) (hsel : (Cond.selects C y y).before args s = true)
    (hcode : (Cond.code y bytes maxL ret).before args s = true) (hy : y.cls ≠ "java/lang/invoke/MethodHandle" ∧ y.cls ≠ "java/lang/invoke/VarHandle")
    {W9 : Nat} {Pre : Pt → Array Value → Prop} {Post : Pt → Array Value → Option Value → Pt → Prop} {PostX : Pt → Array Value → Addr → Pt → Prop} (hK : vx_Back l R p e below s args y 3 W9 Pre Post PostX)
    {b : Addr} {cellB : Cell} (hcell : T.heap[b]? = some cellB) (hobj : cellB.vm.isStatics = false) (hcls : s.vm.findClass C = some cellB.cls)
    {g : JFrame} (hg : g.method = m) (hsize : g.locals.size = c.maxLocals) {argsL rest : List Value} (hlen : ∀ sig, parseMethodDescriptor y.desc = some sig → argsL.length = sig.parameters.length)
    (hstack : g.stack = argsL.reverse ++ .ref b :: rest) (hW : 2 * g.monitorRoom + (rest.map fun v => v.category).sum ≤ W9) (hdg : decode c.code g.pc = .ok (.invokevirtual index, 3))
    (hpre : ∀ vm₁, s.WarmedH vm₁ → Pre ⟨T.setVm vm₁, locs, cells, slots⟩ (Value.ref b :: argsL).toArray) :
    (∃ (v : Option Value) (vm₁ : Vm) (B : Pt), s.WarmedH vm₁ ∧ Stand p l e R s m args below meth c B.U B.locs B.cells B.slots ∧ Post ⟨T.setVm vm₁, locs, cells, slots⟩ (Value.ref b :: argsL).toArray v B ∧
      ∀ target, Steps p.tables e below (B.U.setTop { g with pc := g.pc + 3, stack := v.toList ++ rest }) target → Steps p.tables e below (T.setTop g) target) ∨
    (∃ (q : Addr) (vm₁ : Vm) (B : Pt), s.WarmedH vm₁ ∧ Stand p l e R s m args below meth c B.U B.locs B.cells B.slots ∧ PostX ⟨T.setVm vm₁, locs, cells, slots⟩ (Value.ref b :: argsL).toArray q B ∧
      Steps p.tables e below (T.setTop g) ((B.U.setTop { g with stack := rest }).pushFrame (.throwing q))) := by
  obtain ⟨mk, methM, hnamed, hmethM, hstM, habM⟩ := Cond.instanceMethod_spec hinst
  obtain ⟨methM', cM, hmethM', -, -, -, -, -, -, hsigM⟩ := Cond.code_spec hnamed hcode
  cases hmethM.symm.trans hmethM'
  obtain ⟨c2, r2, m2, q1, q2, q3, q4, kP, hkP, hkPi⟩ := Cond.selects_spec hsel
  cases hcls.symm.trans q1
  cases (State.methodFound?_of_named hnamed hy).symm.trans q2
  cases hnamed.symm.trans q3
  have hselP : selectMethod e.platform s.vm cellB.cls mk = .method mk := by rw [Launch.admits_selectMethod X.admits]; exact q4
  obtain ⟨vm₁, X₁, hstep₁⟩ := X.invokevirtual hexec hown hlink hnamed hmethM hstM hkP hkPi hy (a := b) (cell := cellB) hcell
    (fun z h => by rw [h] at hobj; cases hobj) hselP hmethM habM hkP hkPi (g := g) hg (argsL := argsL) (rest := rest) (hlen _ hsigM) hstack hdg
  rcases hK m meth c ⟨T.setVm vm₁, locs, cells, slots⟩ { g with stack := rest } (.invokevirtual index) mk (Value.ref b :: argsL).toArray X₁ hg hsize hdg hW (X₁.named hnamed) (hpre vm₁ X₁.warmed) with ⟨v, B, X', hpost, hsteps⟩ | ⟨q, B, X', hpost, hsteps⟩
  · exact Or.inl ⟨v, vm₁, B, X₁.warmed, X', hpost, fun target h => hstep₁ _ fun acts => by rw [doInvoke_state]; exact hsteps.trans h⟩
  · exact Or.inr ⟨q, vm₁, B, X₁.warmed, X', hpost, hstep₁ _ fun acts => by rw [doInvoke_state]; exact hsteps⟩
theorem vx_callS (X : Stand p l e R s m args below meth c T locs cells slots) (hexec : p.tables.exec = Jvm.exec) {own : String} {index : Nat} {y : MethodName} {bytes : ByteArray} {maxL : Nat} {ret : Option FieldType}
    (hown : s.vm.findClass own = some m.cls) (hlink : (Cond.methodLink own index y).before args s = true) (hstat : (Cond.static y).before args s = true) (hinit : (Cond.initialized y.cls).before args s = true)
    (hcode : (Cond.code y bytes maxL ret).before args s = true) (hy : y.cls ≠ "java/lang/invoke/MethodHandle" ∧ y.cls ≠ "java/lang/invoke/VarHandle")
    {W9 : Nat} {Pre : Pt → Array Value → Prop} {Post : Pt → Array Value → Option Value → Pt → Prop} {PostX : Pt → Array Value → Addr → Pt → Prop} (hK : vx_Back l R p e below s args y 3 W9 Pre Post PostX)
    {g : JFrame} (hg : g.method = m) (hsize : g.locals.size = c.maxLocals) {argsL rest : List Value} (hlen : ∀ sig, parseMethodDescriptor y.desc = some sig → argsL.length = sig.parameters.length)
    (hstack : g.stack = argsL.reverse ++ rest) (hW : 2 * g.monitorRoom + (rest.map fun v => v.category).sum ≤ W9) (hdg : decode c.code g.pc = .ok (.invokestatic index, 3))
    (hpre : ∀ vm₁, s.WarmedH vm₁ → Pre ⟨T.setVm vm₁, locs, cells, slots⟩ argsL.toArray) :
    (∃ (v : Option Value) (vm₁ : Vm) (B : Pt), s.WarmedH vm₁ ∧ Stand p l e R s m args below meth c B.U B.locs B.cells B.slots ∧ Post ⟨T.setVm vm₁, locs, cells, slots⟩ argsL.toArray v B ∧
      ∀ target, Steps p.tables e below (B.U.setTop { g with pc := g.pc + 3, stack := v.toList ++ rest }) target → Steps p.tables e below (T.setTop g) target) ∨
    (∃ (q : Addr) (vm₁ : Vm) (B : Pt), s.WarmedH vm₁ ∧ Stand p l e R s m args below meth c B.U B.locs B.cells B.slots ∧ PostX ⟨T.setVm vm₁, locs, cells, slots⟩ argsL.toArray q B ∧
      Steps p.tables e below (T.setTop g) ((B.U.setTop { g with stack := rest }).pushFrame (.throwing q))) := by
  obtain ⟨mk, hnamed⟩ := Cond.code_named hcode
  obtain ⟨methM, cM, hmethM, -, -, -, -, -, -, hsigM⟩ := Cond.code_spec hnamed hcode
  have hstatic : methM.isStatic = true := Cond.static_spec hnamed hmethM hstat
  obtain ⟨kP, hkP, -⟩ := className_of_methodNamed hnamed
  have hinitP : kP.init = .initialized := Cond.initialized_spec (findClass_of_methodNamed hnamed) hkP hinit
  obtain ⟨vm₁, X₁, hstep₁⟩ := X.invokestatic hexec hown hlink hnamed hmethM hstatic hkP hinitP hy (g := g) hg (argsL := argsL) (rest := rest) (hlen _ hsigM) hstack hdg
  rcases hK m meth c ⟨T.setVm vm₁, locs, cells, slots⟩ { g with stack := rest } (.invokestatic index) mk argsL.toArray X₁ hg hsize hdg hW (X₁.named hnamed) (hpre vm₁ X₁.warmed) with ⟨v, B, X', hpost, hsteps⟩ | ⟨q, B, X', hpost, hsteps⟩
  · exact Or.inl ⟨v, vm₁, B, X₁.warmed, X', hpost, fun target h => hstep₁ _ fun acts => by rw [doInvoke_state]; exact hsteps.trans h⟩
  · exact Or.inr ⟨q, vm₁, B, X₁.warmed, X', hpost, hstep₁ _ fun acts => by rw [doInvoke_state]; exact hsteps⟩
end Calls
theorem vx_cls {s : State} {T : State} {vm₁ : Vm} {E : String} {k : ClassId} (hW : s.WarmedH vm₁) (h : (T.setVm vm₁).vm.findClass E = some k) : s.vm.findClass E = some k := by
  have h1 : vm₁.findClass E = some k := h
  rw [hW.alike.findClass] at h1
  exact h1
/-- the method's frame g, with q thrown over it -/
def vx_W (p : Program) (l : Launch) (e : Env) (R : Room) (s : State) (m : MethodId) (args : Array Value) (below : List Frame) (meth : Method) (c : Code) (H : Heap) (locs : List Loc) (cells slots : Nat) (Q : State → Prop) (g : JFrame) (q : Addr) : Prop :=
  ∀ T : State, T.heap = H → Stand p l e R s m args below meth c T locs cells slots → ∃ t, Steps p.tables e below ((T.setTop g).pushFrame (.throwing q)) t ∧ Q t
def vx_Run (p : Program) (l : Launch) (e : Env) (R : Room) (s : State) (m : MethodId) (args : Array Value) (below : List Frame) (meth : Method) (c : Code) (H : Heap) (locs : List Loc) (cells slots mc ms : Nat) (g : JFrame) (rest : List Value) (Qa : State → Outcome → State → Prop) (XC : String → State → State → Prop) (free : Addr → Prop) : Prop :=
  ∀ T : State, T.heap = H → Stand p l e R s m args below meth c T locs cells slots →
    (∃ (v : Option Value) (st₀ t T' : State) (L : List Loc), st₀.heap = H ∧ Stand p l e R s m args below meth c T' (locs ++ L) (cells + mc) (slots + ms) ∧ (∀ q ∈ L, free q.base) ∧ T'.heap = t.heap ∧ T'.vm = t.vm ∧ Qa st₀ (.returned v) t ∧
      Goes p e below T g T' { g with pc := g.pc + 3, stack := v.toList ++ rest }) ∨
    (∃ (q : Addr) (st₀ t T' : State) (L : List Loc) (E : String) (ce : Cell), st₀.heap = H ∧ Stand p l e R s m args below meth c T' (locs ++ L) (cells + mc) (slots + ms) ∧ (∀ z ∈ L, free z.base) ∧ T'.heap = t.heap ∧ T'.vm = t.vm ∧ XC E st₀ t ∧ t.heap[q]? = some ce ∧ ce.vm = .none ∧ s.vm.findClass E = some ce.cls ∧
      Steps p.tables e below (T.setTop g) ((T'.setTop { g with stack := rest }).pushFrame (.throwing q)))
def vx_X {S : Type} (px : S → Prop) (B : String → S → State → Prop) (A : Nat → Prop) : String → State → State → Prop := fun E st t => ∃ u : S, px u ∧ B E u t ∧ va_F A st t
section Runs
variable {p : Program} {l : Launch} {e : Env} {R : Room} {s : State} {m : MethodId} {args : Array Value} {below : List Frame} {meth : Method} {c : Code} {H : Heap} {locs : List Loc} {cells slots : Nat}
variable {y : MethodName} {bytes cc : ByteArray} {maxL nL mc ms n index : Nat} {ret : Option FieldType} {ws : List Cond} {rm : Room} {Pc : Array Value → State → Prop} {Qc : Array Value → State → Outcome → State → Prop} {XC : String → State → State → Prop} {free : Addr → Prop} {Ts : List Cond} {own C : String} {b : Addr} {As rest : List Value} {g : JFrame}
theorem vx_callBack (cb : CallB R s args own index y bytes maxL ret ws rm mc ms n) (hM : vx_Met l y ws rm Pc Qc XC mc ms free) (hbl : FrameBlind Pc) : vx_Back l R p e below s args y 3 8 (PreOf R mc ms Pc) (PostOf Qc mc ms free) (vx_Post XC mc ms free) := by
  obtain ⟨hrc, hrs, hfr, hlo, hws, hcw, -, hini, -⟩ := cb
  exact vx_back (bytes := bytes) (maxL := maxL) (ret := ret) hM hbl hrc hrs hfr hlo hws hcw (fun a' U hW => word_at hW (Or.inl (by first | rfl | simp [Cond.onTables, Cond.keeps, Cond.steady])) hini)
theorem vx_runV (S : CallFix p m c cc nL s args Ts own) (hM : vx_Met l y ws rm Pc Qc XC mc ms free) (cw : CallW R s args own C index y bytes maxL ret ws rm mc ms n) (hp : PreV s H C b Pc As)
    (hg : g.method = m) (hn : As.length = n) (hsize : g.locals.size = nL) (hstack : g.stack = As.reverse ++ .ref b :: rest) (hW : 2 * g.monitorRoom + (rest.map fun v => v.category).sum ≤ 8) (hdg : decode cc g.pc = .ok (.invokevirtual index, 3)) (hf : cells + mc ≤ R.cells ∧ slots + ms ≤ R.slots) :
    vx_Run p l e R s m args below meth c H locs cells slots mc ms g rest (Qc (Value.ref b :: As).toArray) XC free := by
  have hK : vx_Back l R p e below s args y 3 8 (PreOf R mc ms Pc) (PostOf Qc mc ms free) (vx_Post XC mc ms free) := vx_callBack cw.1 hM hp.1
  obtain ⟨⟨-, -, -, -, -, -, hcode, -, hy, hlen, hl⟩, hin, hse⟩ := cw
  obtain ⟨hx, hb, hml, ho, -⟩ := S
  obtain ⟨-, ⟨cellB, hcB, hoB, hclB⟩, hPc⟩ := hp
  intro T hT X
  rcases vx_callV X hx (C := C) (bytes := bytes) (maxL := maxL) (ret := ret) ho hl hin hse hcode hy hK (by rw [hT]; exact hcB) hoB hclB hg (hsize.trans hml.symm) (argsL := As) (rest := rest) (fun sig h => hn.trans (hlen sig h)) hstack hW (by rw [hb]; exact hdg)
    (fun vm₁ hW₁ => ⟨hf.1, hf.2, hPc (T.setVm vm₁) hT hW₁⟩) with ⟨v, vm₁, ⟨U', l2, c2, s2⟩, hW₁, X', ⟨g', mk, t, L, e1, e2, hq, h1, hL, h2, h3⟩, st⟩ | ⟨q, vm₁, ⟨U', l2, c2, s2⟩, hW₁, X', ⟨g', mk, t, L, E, ce, e1, e2, hq, hce, hcv, hcl, h1, hL, h2, h3⟩, st⟩
  · dsimp only [Pt.U, Pt.locs, Pt.cells, Pt.slots] at X' e1 e2 h1 h2 h3 st
    subst h1; subst h2; subst h3
    exact Or.inl ⟨v, (T.setVm vm₁).calling g' mk (Value.ref b :: As).toArray, t, U', L, hT, X', hL, e1, e2, hq, st⟩
  · dsimp only [Pt.U, Pt.locs, Pt.cells, Pt.slots] at X' e1 e2 h1 h2 h3 st hcl
    subst h1; subst h2; subst h3
    exact Or.inr ⟨q, (T.setVm vm₁).calling g' mk (Value.ref b :: As).toArray, t, U', L, E, ce, hT, X', hL, e1, e2, hq, hce, hcv, vx_cls hW₁ hcl, st⟩
theorem vx_runS (S : CallFix p m c cc nL s args Ts own) (hM : vx_Met l y ws rm Pc Qc XC mc ms free) (cw : CallB R s args own index y bytes maxL ret ws rm mc ms n ∧ (Cond.static y).before args s = true) (hp : PreS s H Pc As)
    (hg : g.method = m) (hn : As.length = n) (hsize : g.locals.size = nL) (hstack : g.stack = As.reverse ++ rest) (hW : 2 * g.monitorRoom + (rest.map fun v => v.category).sum ≤ 8) (hdg : decode cc g.pc = .ok (.invokestatic index, 3)) (hf : cells + mc ≤ R.cells ∧ slots + ms ≤ R.slots) :
    vx_Run p l e R s m args below meth c H locs cells slots mc ms g rest (Qc As.toArray) XC free := by
  have hK : vx_Back l R p e below s args y 3 8 (PreOf R mc ms Pc) (PostOf Qc mc ms free) (vx_Post XC mc ms free) := vx_callBack cw.1 hM hp.1
  obtain ⟨⟨-, -, -, -, -, -, hcode, hini, hy, hlen, hl⟩, hstt⟩ := cw
  obtain ⟨hx, hb, hml, ho, -⟩ := S
  intro T hT X
  rcases vx_callS X hx (bytes := bytes) (maxL := maxL) (ret := ret) ho hl hstt hini hcode hy hK hg (hsize.trans hml.symm) (argsL := As) (rest := rest) (fun sig h => hn.trans (hlen sig h)) hstack hW (by rw [hb]; exact hdg)
    (fun vm₁ hW₁ => ⟨hf.1, hf.2, hp.2 (T.setVm vm₁) hT hW₁⟩) with ⟨v, vm₁, ⟨U', l2, c2, s2⟩, hW₁, X', ⟨g', mk, t, L, e1, e2, hq, h1, hL, h2, h3⟩, st⟩ | ⟨q, vm₁, ⟨U', l2, c2, s2⟩, hW₁, X', ⟨g', mk, t, L, E, ce, e1, e2, hq, hce, hcv, hcl, h1, hL, h2, h3⟩, st⟩
  · dsimp only [Pt.U, Pt.locs, Pt.cells, Pt.slots] at X' e1 e2 h1 h2 h3 st
    subst h1; subst h2; subst h3
    exact Or.inl ⟨v, (T.setVm vm₁).calling g' mk As.toArray, t, U', L, hT, X', hL, e1, e2, hq, st⟩
  · dsimp only [Pt.U, Pt.locs, Pt.cells, Pt.slots] at X' e1 e2 h1 h2 h3 st hcl
    subst h1; subst h2; subst h3
    exact Or.inr ⟨q, (T.setVm vm₁).calling g' mk As.toArray, t, U', L, E, ce, hT, X', hL, e1, e2, hq, hce, hcv, vx_cls hW₁ hcl, st⟩
end Runs
section Rows
variable {p : Program} {l : Launch} {e : Env} {R : Room} {s : State} {m : MethodId} {args : Array Value} {below : List Frame} {meth : Method} {c : Code} {H : Heap} {locs : List Loc} {cells slots : Nat} {Q : State → Prop}
variable {mc ms : Nat} {free : Addr → Prop} {A0 A1 : Nat → Prop} {H0 : Heap} {a : Array Value} {pc : Nat} {ls : Array Slot} {st0 rest : List Value}
theorem vx_keep {st₀ t T' : State} {L : List Loc} (h0 : st₀.heap = H) (e1 : T'.heap = t.heap) (hS : va_S A0 H0 H locs) (hA : ∀ q, q < H.size → A1 q → A0 q) (hf : ∀ q, free q → A0 q) (hL : ∀ q ∈ L, free q.base) (hF : va_F A1 st₀ t) :
    H.size ≤ T'.heap.size ∧ (∀ q : Nat, q < H.size → ¬ A1 q → T'.heap[q]? = H[q]?) ∧ va_S A0 H0 T'.heap (locs ++ L) := by
  obtain ⟨hz, hk⟩ := hF
  rw [h0] at hz hk
  exact ⟨by rw [e1]; exact hz, fun q h1 h2 => by rw [e1]; exact hk q h1 h2,
    ⟨Nat.le_trans hS.1 (by rw [e1]; exact hz), fun q h1 h2 => by rw [e1, hk q (Nat.lt_of_lt_of_le h1 hS.1) (fun z => h2 (hA q (Nat.lt_of_lt_of_le h1 hS.1) z))]; exact hS.2.1 q h1 h2, fun q hq => by
      rcases List.mem_append.mp hq with h | h
      · exact hS.2.2 q h
      · exact hf _ (hL q h)⟩⟩
theorem vx_calli {S SX : Type} {post : Int32 → S → Prop} {px : SX → Prop} {B : S → State → Prop} {BX : String → SX → State → Prop} {AX : Nat → Prop} (hr : vx_Run p l e R s m args below meth c H locs cells slots mc ms (F0 m pc ls st0) rest (va_Qi post B A1 a) (vx_X px BX AX) free) (hS : va_S A0 H0 H locs) (hA : ∀ q, q < H.size → A1 q → A0 q) (hf : ∀ q, free q → A0 q) (hAX : ∀ q, q < H.size → AX q → A0 q)
    (kx : ∀ (E : String) (ce : Cell) (q9 : Addr) (u : SX) (t : State) (H1 : Heap) (locs1 : List Loc), t.heap = H1 → s.vm.Alike t.vm → px u → BX E u t → H.size ≤ H1.size → (∀ q : Nat, q < H.size → ¬ AX q → H1[q]? = H[q]?) → va_S A0 H0 H1 locs1 → H1[q9]? = some ce → ce.vm = .none → s.vm.findClass E = some ce.cls → vx_W p l e R s m args below meth c H1 locs1 (cells + mc) (slots + ms) Q (F0 m pc ls rest) q9)
    (kk : ∀ (r : Int32) (u : S) (t : State) (H1 : Heap) (locs1 : List Loc), t.heap = H1 → s.vm.Alike t.vm → post r u → B u t → H.size ≤ H1.size → (∀ q : Nat, q < H.size → ¬ A1 q → H1[q]? = H[q]?) → va_S A0 H0 H1 locs1 → W p l e R s m args below meth c H1 locs1 (cells + mc) (slots + ms) Q (F0 m (pc + 3) ls (.int r :: rest))) : W p l e R s m args below meth c H locs cells slots Q (F0 m pc ls st0) := by
  intro T hT X
  rcases hr T hT X with ⟨v, st₀, t, T', L, h0, X', hL, e1, e2, ⟨⟨r, u, hv, hp, hb⟩, hF⟩, st⟩ | ⟨q, st₀, t, T', L, E, ce, h0, X', hL, e1, e2, ⟨u, hp, hb, hF⟩, hce, hcv, hcl, st⟩
  · cases hv
    obtain ⟨k1, k2, k3⟩ := vx_keep h0 e1 hS hA hf hL hF
    obtain ⟨t2, a1, b1⟩ := kk r u t T'.heap (locs ++ L) e1.symm (by rw [← e2]; exact X'.warmed.alike) hp hb k1 k2 k3 T' rfl X'
    exact ⟨t2, st t2 a1, b1⟩
  · obtain ⟨k1, k2, k3⟩ := vx_keep h0 e1 hS hAX hf hL hF
    obtain ⟨t2, a1, b1⟩ := kx E ce q u t T'.heap (locs ++ L) e1.symm (by rw [← e2]; exact X'.warmed.alike) hp hb k1 k2 k3 (by rw [e1]; exact hce) hcv hcl T' rfl X'
    exact ⟨t2, st.trans a1, b1⟩
theorem vx_calll {S SX : Type} {post : Int64 → S → Prop} {px : SX → Prop} {B : S → State → Prop} {BX : String → SX → State → Prop} {AX : Nat → Prop} (hr : vx_Run p l e R s m args below meth c H locs cells slots mc ms (F0 m pc ls st0) rest (va_Ql post B A1 a) (vx_X px BX AX) free) (hS : va_S A0 H0 H locs) (hA : ∀ q, q < H.size → A1 q → A0 q) (hf : ∀ q, free q → A0 q) (hAX : ∀ q, q < H.size → AX q → A0 q)
    (kx : ∀ (E : String) (ce : Cell) (q9 : Addr) (u : SX) (t : State) (H1 : Heap) (locs1 : List Loc), t.heap = H1 → s.vm.Alike t.vm → px u → BX E u t → H.size ≤ H1.size → (∀ q : Nat, q < H.size → ¬ AX q → H1[q]? = H[q]?) → va_S A0 H0 H1 locs1 → H1[q9]? = some ce → ce.vm = .none → s.vm.findClass E = some ce.cls → vx_W p l e R s m args below meth c H1 locs1 (cells + mc) (slots + ms) Q (F0 m pc ls rest) q9)
    (kk : ∀ (r : Int64) (u : S) (t : State) (H1 : Heap) (locs1 : List Loc), t.heap = H1 → s.vm.Alike t.vm → post r u → B u t → H.size ≤ H1.size → (∀ q : Nat, q < H.size → ¬ A1 q → H1[q]? = H[q]?) → va_S A0 H0 H1 locs1 → W p l e R s m args below meth c H1 locs1 (cells + mc) (slots + ms) Q (F0 m (pc + 3) ls (.long r :: rest))) : W p l e R s m args below meth c H locs cells slots Q (F0 m pc ls st0) := by
  intro T hT X
  rcases hr T hT X with ⟨v, st₀, t, T', L, h0, X', hL, e1, e2, ⟨⟨r, u, hv, hp, hb⟩, hF⟩, st⟩ | ⟨q, st₀, t, T', L, E, ce, h0, X', hL, e1, e2, ⟨u, hp, hb, hF⟩, hce, hcv, hcl, st⟩
  · cases hv
    obtain ⟨k1, k2, k3⟩ := vx_keep h0 e1 hS hA hf hL hF
    obtain ⟨t2, a1, b1⟩ := kk r u t T'.heap (locs ++ L) e1.symm (by rw [← e2]; exact X'.warmed.alike) hp hb k1 k2 k3 T' rfl X'
    exact ⟨t2, st t2 a1, b1⟩
  · obtain ⟨k1, k2, k3⟩ := vx_keep h0 e1 hS hAX hf hL hF
    obtain ⟨t2, a1, b1⟩ := kx E ce q u t T'.heap (locs ++ L) e1.symm (by rw [← e2]; exact X'.warmed.alike) hp hb k1 k2 k3 (by rw [e1]; exact hce) hcv hcl T' rfl X'
    exact ⟨t2, st.trans a1, b1⟩
theorem vx_callf {S SX : Type} {post : UInt32 → S → Prop} {px : SX → Prop} {B : S → State → Prop} {BX : String → SX → State → Prop} {AX : Nat → Prop} (hr : vx_Run p l e R s m args below meth c H locs cells slots mc ms (F0 m pc ls st0) rest (va_Qf post B A1 a) (vx_X px BX AX) free) (hS : va_S A0 H0 H locs) (hA : ∀ q, q < H.size → A1 q → A0 q) (hf : ∀ q, free q → A0 q) (hAX : ∀ q, q < H.size → AX q → A0 q)
    (kx : ∀ (E : String) (ce : Cell) (q9 : Addr) (u : SX) (t : State) (H1 : Heap) (locs1 : List Loc), t.heap = H1 → s.vm.Alike t.vm → px u → BX E u t → H.size ≤ H1.size → (∀ q : Nat, q < H.size → ¬ AX q → H1[q]? = H[q]?) → va_S A0 H0 H1 locs1 → H1[q9]? = some ce → ce.vm = .none → s.vm.findClass E = some ce.cls → vx_W p l e R s m args below meth c H1 locs1 (cells + mc) (slots + ms) Q (F0 m pc ls rest) q9)
    (kk : ∀ (r : UInt32) (u : S) (t : State) (H1 : Heap) (locs1 : List Loc), t.heap = H1 → s.vm.Alike t.vm → post r u → B u t → H.size ≤ H1.size → (∀ q : Nat, q < H.size → ¬ A1 q → H1[q]? = H[q]?) → va_S A0 H0 H1 locs1 → W p l e R s m args below meth c H1 locs1 (cells + mc) (slots + ms) Q (F0 m (pc + 3) ls (.float r :: rest))) : W p l e R s m args below meth c H locs cells slots Q (F0 m pc ls st0) := by
  intro T hT X
  rcases hr T hT X with ⟨v, st₀, t, T', L, h0, X', hL, e1, e2, ⟨⟨r, u, hv, hp, hb⟩, hF⟩, st⟩ | ⟨q, st₀, t, T', L, E, ce, h0, X', hL, e1, e2, ⟨u, hp, hb, hF⟩, hce, hcv, hcl, st⟩
  · cases hv
    obtain ⟨k1, k2, k3⟩ := vx_keep h0 e1 hS hA hf hL hF
    obtain ⟨t2, a1, b1⟩ := kk r u t T'.heap (locs ++ L) e1.symm (by rw [← e2]; exact X'.warmed.alike) hp hb k1 k2 k3 T' rfl X'
    exact ⟨t2, st t2 a1, b1⟩
  · obtain ⟨k1, k2, k3⟩ := vx_keep h0 e1 hS hAX hf hL hF
    obtain ⟨t2, a1, b1⟩ := kx E ce q u t T'.heap (locs ++ L) e1.symm (by rw [← e2]; exact X'.warmed.alike) hp hb k1 k2 k3 (by rw [e1]; exact hce) hcv hcl T' rfl X'
    exact ⟨t2, st.trans a1, b1⟩
theorem vx_calld {S SX : Type} {post : UInt64 → S → Prop} {px : SX → Prop} {B : S → State → Prop} {BX : String → SX → State → Prop} {AX : Nat → Prop} (hr : vx_Run p l e R s m args below meth c H locs cells slots mc ms (F0 m pc ls st0) rest (va_Qd post B A1 a) (vx_X px BX AX) free) (hS : va_S A0 H0 H locs) (hA : ∀ q, q < H.size → A1 q → A0 q) (hf : ∀ q, free q → A0 q) (hAX : ∀ q, q < H.size → AX q → A0 q)
    (kx : ∀ (E : String) (ce : Cell) (q9 : Addr) (u : SX) (t : State) (H1 : Heap) (locs1 : List Loc), t.heap = H1 → s.vm.Alike t.vm → px u → BX E u t → H.size ≤ H1.size → (∀ q : Nat, q < H.size → ¬ AX q → H1[q]? = H[q]?) → va_S A0 H0 H1 locs1 → H1[q9]? = some ce → ce.vm = .none → s.vm.findClass E = some ce.cls → vx_W p l e R s m args below meth c H1 locs1 (cells + mc) (slots + ms) Q (F0 m pc ls rest) q9)
    (kk : ∀ (r : UInt64) (u : S) (t : State) (H1 : Heap) (locs1 : List Loc), t.heap = H1 → s.vm.Alike t.vm → post r u → B u t → H.size ≤ H1.size → (∀ q : Nat, q < H.size → ¬ A1 q → H1[q]? = H[q]?) → va_S A0 H0 H1 locs1 → W p l e R s m args below meth c H1 locs1 (cells + mc) (slots + ms) Q (F0 m (pc + 3) ls (.double r :: rest))) : W p l e R s m args below meth c H locs cells slots Q (F0 m pc ls st0) := by
  intro T hT X
  rcases hr T hT X with ⟨v, st₀, t, T', L, h0, X', hL, e1, e2, ⟨⟨r, u, hv, hp, hb⟩, hF⟩, st⟩ | ⟨q, st₀, t, T', L, E, ce, h0, X', hL, e1, e2, ⟨u, hp, hb, hF⟩, hce, hcv, hcl, st⟩
  · cases hv
    obtain ⟨k1, k2, k3⟩ := vx_keep h0 e1 hS hA hf hL hF
    obtain ⟨t2, a1, b1⟩ := kk r u t T'.heap (locs ++ L) e1.symm (by rw [← e2]; exact X'.warmed.alike) hp hb k1 k2 k3 T' rfl X'
    exact ⟨t2, st t2 a1, b1⟩
  · obtain ⟨k1, k2, k3⟩ := vx_keep h0 e1 hS hAX hf hL hF
    obtain ⟨t2, a1, b1⟩ := kx E ce q u t T'.heap (locs ++ L) e1.symm (by rw [← e2]; exact X'.warmed.alike) hp hb k1 k2 k3 (by rw [e1]; exact hce) hcv hcl T' rfl X'
    exact ⟨t2, st.trans a1, b1⟩
theorem vx_callv {S SX : Type} {post : S → Prop} {px : SX → Prop} {B : S → State → Prop} {BX : String → SX → State → Prop} {AX : Nat → Prop} (hr : vx_Run p l e R s m args below meth c H locs cells slots mc ms (F0 m pc ls st0) rest (va_Qv post B A1 a) (vx_X px BX AX) free) (hS : va_S A0 H0 H locs) (hA : ∀ q, q < H.size → A1 q → A0 q) (hf : ∀ q, free q → A0 q) (hAX : ∀ q, q < H.size → AX q → A0 q)
    (kx : ∀ (E : String) (ce : Cell) (q9 : Addr) (u : SX) (t : State) (H1 : Heap) (locs1 : List Loc), t.heap = H1 → s.vm.Alike t.vm → px u → BX E u t → H.size ≤ H1.size → (∀ q : Nat, q < H.size → ¬ AX q → H1[q]? = H[q]?) → va_S A0 H0 H1 locs1 → H1[q9]? = some ce → ce.vm = .none → s.vm.findClass E = some ce.cls → vx_W p l e R s m args below meth c H1 locs1 (cells + mc) (slots + ms) Q (F0 m pc ls rest) q9)
    (kk : ∀ (u : S) (t : State) (H1 : Heap) (locs1 : List Loc), t.heap = H1 → s.vm.Alike t.vm → post u → B u t → H.size ≤ H1.size → (∀ q : Nat, q < H.size → ¬ A1 q → H1[q]? = H[q]?) → va_S A0 H0 H1 locs1 → W p l e R s m args below meth c H1 locs1 (cells + mc) (slots + ms) Q (F0 m (pc + 3) ls (rest))) : W p l e R s m args below meth c H locs cells slots Q (F0 m pc ls st0) := by
  intro T hT X
  rcases hr T hT X with ⟨v, st₀, t, T', L, h0, X', hL, e1, e2, ⟨⟨u, hv, hp, hb⟩, hF⟩, st⟩ | ⟨q, st₀, t, T', L, E, ce, h0, X', hL, e1, e2, ⟨u, hp, hb, hF⟩, hce, hcv, hcl, st⟩
  · cases hv
    obtain ⟨k1, k2, k3⟩ := vx_keep h0 e1 hS hA hf hL hF
    obtain ⟨t2, a1, b1⟩ := kk u t T'.heap (locs ++ L) e1.symm (by rw [← e2]; exact X'.warmed.alike) hp hb k1 k2 k3 T' rfl X'
    exact ⟨t2, st t2 a1, b1⟩
  · obtain ⟨k1, k2, k3⟩ := vx_keep h0 e1 hS hAX hf hL hF
    obtain ⟨t2, a1, b1⟩ := kx E ce q u t T'.heap (locs ++ L) e1.symm (by rw [← e2]; exact X'.warmed.alike) hp hb k1 k2 k3 (by rw [e1]; exact hce) hcv hcl T' rfl X'
    exact ⟨t2, st.trans a1, b1⟩
/-- caught by the row x of this method's table; the rows ahead don't take it -/
theorem vx_catch {own name : String} {E : String} {ce : Cell} {q : Addr} (hown : s.vm.findClass own = some m.cls) (pre : List ExceptionTableEntry) (x : ExceptionTableEntry) (suf : List ExceptionTableEntry) (hsplit : c.exceptionTable.toList = pre ++ x :: suf)
    (hpass : ∀ z ∈ pre, covers z pc = false ∨ (z.catchType ≠ 0 ∧ ∃ nm : String, (Cond.classLink own z.catchType nm).before args s = true ∧ va_Nc E nm s)) (hx : covers x pc = true) (h0 : x.catchType ≠ 0)
    (hlink : (Cond.classLink own x.catchType name).before args s = true) (hcast : (Cond.castable E name).before args s = true) (hcell : H[q]? = some ce) (hv : ce.vm = .none) (hcl : s.vm.findClass E = some ce.cls)
    (kk : W p l e R s m args below meth c H locs cells slots Q (F0 m x.handlerPc ls [.ref q])) : vx_W p l e R s m args below meth c H locs cells slots Q (F0 m pc ls rest) q := by
  intro T hT X
  have hpl : e.platform.magicAccessors = ({} : Platform).magicAccessors := by rw [X.admits.platform]
  obtain ⟨c3, c4, hc3, hc4, hasg⟩ := Cond.castable_spec hcast
  cases Option.some.inj (hc3.symm.trans hcl)
  obtain ⟨c5, hc5, hcl5⟩ := Cond.classLink_spec hown hlink e.platform hpl
  cases Option.some.inj (hc4.symm.trans hc5)
  obtain ⟨vm', X', st⟩ := X.thenCaughtThrough q (g := F0 m pc ls rest) rfl (Steps.refl _) (by rw [hT]; exact hcell) (by rw [hv]; rfl) (by obtain ⟨k9, h9, -⟩ := Vm.findClass_spec hcl; exact ⟨k9, h9⟩) pre x suf hsplit
    (fun z hz => by
      rcases hpass z hz with h | ⟨hz0, nm, hl1, hn1⟩
      · exact Or.inl h
      · obtain ⟨c6, hc6, hcl6⟩ := Cond.classLink_spec hown hl1 e.platform hpl
        obtain ⟨a8, b8, h1, h2, h3⟩ := hn1
        cases Option.some.inj (h1.symm.trans hcl)
        cases Option.some.inj (h2.symm.trans hc6)
        exact Or.inr ⟨hz0, _, hcl6, h3⟩) hx (Or.inr ⟨h0, c4, hcl5, hasg⟩)
  obtain ⟨t, a1, b1⟩ := kk (T.setVm vm') hT X'
  exact ⟨t, st.trans a1, b1⟩
end Rows
section Ends
variable {p : Program} {l : Launch} {e : Env} {R : Room} {s : State} {m : MethodId} {args : Array Value} {below : List Frame} {meth : Method} {c : Code} {H : Heap} {locs : List Loc} {cells slots : Nat} {Q : State → Prop}
variable {mc ms : Nat} {free : Addr → Prop} {A0 A1 : Nat → Prop} {H0 : Heap} {a : Array Value} {ls : Array Slot} {st0 rest : List Value}
variable {Qc : Array Value → State → Outcome → State → Prop} {XC : String → State → State → Prop}
/-- what a body that may throw owes at its end -/
def vx_MQ (below : List Frame) (Qc : Array Value → State → Outcome → State → Prop) (XC : String → State → State → Prop) (a : Array Value) (s : State) (mc ms : Nat) (free : Addr → Prop) : State → Prop := fun t =>
  ∃ o, t.status = .running ∧ Ended t below o ∧ vx_Q Qc XC mc ms free a s o t
theorem vx_ret {g : JFrame} {mc ms : Nat} (k : W p l e R s m args below meth c H locs cells slots (MQ below Qc args s mc ms free) g) : W p l e R s m args below meth c H locs cells slots (vx_MQ below Qc XC args s mc ms free) g := by
  intro T hT X
  obtain ⟨t, a1, o, b1, b2, b3, b4⟩ := k T hT X
  exact ⟨t, a1, o, b1, b2, Or.inl ⟨b3, b4⟩⟩
/-- not caught here: it goes on to the caller -/
theorem vx_widen {g : JFrame} {q : Addr} {k n : Nat} (h1 : cells ≤ k) (h2 : slots ≤ n) (kk : vx_W p l e R s m args below meth c H locs k n Q g q) : vx_W p l e R s m args below meth c H locs cells slots Q g q := fun T hT X => kk T hT (stand_widen X h1 h2)
theorem vx_out {pc : Nat} {E : String} {ce : Cell} {q : Addr} {mc ms : Nat} (hout : ∀ x ∈ c.exceptionTable.toList, covers x pc = false) (hlocks : meth.locks = false) (hcell : H[q]? = some ce) (hv : ce.vm = .none) (hcl : s.vm.findClass E = some ce.cls)
    (hx : ∀ t : State, t.heap = H → s.vm.Alike t.vm → XC E s t) (hf : ∀ z ∈ locs, free z.base) (hc : cells ≤ mc) (hs : slots ≤ ms) :
    vx_W p l e R s m args below meth c H locs cells slots (vx_MQ below Qc XC args s mc ms free) (F0 m pc ls rest) q := by
  intro T hT X
  obtain ⟨st1, hrun, hend, hW, hsm⟩ := X.leaveThrown q (g := F0 m pc ls rest) rfl rfl rfl hout hlocks
  have hcell9 : (T.setFrames (.throwing q :: below)).heap[q]? = some ce := by
    show T.heap[q]? = some ce
    rw [hT]; exact hcell
  exact ⟨_, st1, .threw q, hrun, hend, Or.inr ⟨q, rfl, E, ce, locs, hx _ hT hW.alike, hcell9, hv, hcl, hW, hsm.mono hc hs, hf⟩⟩
theorem vx_frame {U : State} {k n : Nat} (h : s.sameButNew ({ U with vm := s.vm } : State) locs k n) : s.heap.size ≤ U.heap.size ∧ ∀ q : Nat, q < s.heap.size → (∀ z ∈ locs, z.base ≠ q) → U.heap[q]? = s.heap[q]? := by
  obtain ⟨-, h2, -, -, -, h6⟩ := h
  refine ⟨h2, fun q hq hz => ?_⟩
  obtain ⟨c9, e1, e2, e3, e4⟩ := h6 q _ (Array.getElem?_eq_getElem hq)
  have hs : c9.slots = (s.heap[q]).slots := Array.ext_getElem? fun i => e4 i fun hm => hz _ hm rfl
  have h9 : c9 = s.heap[q] := by
    rw [hs] at e2
    exact e2
  have e5 : U.heap[q]? = some c9 := e1
  rw [e5, h9, Array.getElem?_eq_getElem hq]
/-- the words of a throw but the four that speak of the heap -/
def vx_no (w : Cond) : Bool := decide (w ≠ .isRef (.static Bundle.tN "UNASSIGNED_STACK" Bundle.steD)) && decide (w ≠ .isRef (.static Bundle.tN "SUPPRESSED_SENTINEL" Bundle.listD)) && decide (w ≠ .laysStatic Bundle.tN "UNASSIGNED_STACK" Bundle.steD) && decide (w ≠ .laysStatic Bundle.tN "SUPPRESSED_SENTINEL" Bundle.listD)
def vx_at0 (own : String) (ic : Nat) (X : String) (names : List String) : List Cond := (Bundle.ownAtoms0 own ic X names).filter vx_no
def vx_atS (own : String) (ic : Nat) (X : String) (names : List String) : List Cond := (Bundle.ownAtoms own ic X names).filter vx_no
/-- a word that the tables alone decide, or a good one -/
def vx_ot (w : Cond) : Bool := w.onTables || goodWord w
theorem vx_ot_at {args a' : Array Value} {s U : State} {w : Cond} (hW : s.WarmedH U.vm) (hvm : s.vm = U.vm) (hg : vx_ot w = true) (h : w.before args s = true) : w.before a' U = true := by
  simp only [vx_ot, Bool.or_eq_true] at hg
  rcases hg with hg | hg
  · exact va_tabs hg hvm h
  · exact word_at hW (good_of_word hg) h
/-- a list's words: the good ones out of the method's own list, the others by premises of their own -/
theorem vx_hat {args : Array Value} {s : State} {L B : List Cond} (h1 : ∀ w ∈ L.filter goodWord, w.before args s = true) (h2 : ∀ w ∈ L.filter (fun w => !goodWord w), w ∈ B) (h3 : ∀ w ∈ B, w.before args s = true) : ∀ w ∈ L, w.before args s = true := by
  intro w hw
  by_cases g : goodWord w = true
  · exact h1 w (List.mem_filter.mpr ⟨hw, g⟩)
  · refine h3 w (h2 w (List.mem_filter.mpr ⟨hw, ?_⟩))
    show (!goodWord w) = true
    cases hgw : goodWord w
    · rfl
    · exact absurd hgw g
theorem vx_c {args : Array Value} {s : State} {w : Cond} {B : List Cond} (h : w.before args s = true) (t : ∀ w ∈ B, w.before args s = true) : ∀ w' ∈ w :: B, w'.before args s = true := fun w' h' => (List.mem_cons.mp h').elim (fun e => by rw [e]; exact h) (t w')
theorem vx_n {args : Array Value} {s : State} : ∀ w ∈ ([] : List Cond), w.before args s = true := fun _ h => nomatch h
theorem vx_own {args : Array Value} {s : State} {L : List Cond} (h1 : ∀ w ∈ L.filter vx_no, w.before args s = true)
    (hU : (Cond.isRef (.static Bundle.tN "UNASSIGNED_STACK" Bundle.steD)).before args s = true) (hN : (Cond.isRef (.static Bundle.tN "SUPPRESSED_SENTINEL" Bundle.listD)).before args s = true)
    (lU : (Cond.laysStatic Bundle.tN "UNASSIGNED_STACK" Bundle.steD).before args s = true) (lN : (Cond.laysStatic Bundle.tN "SUPPRESSED_SENTINEL" Bundle.listD).before args s = true) : ∀ w ∈ L, w.before args s = true := by
  intro w hw
  by_cases e1 : w = .isRef (.static Bundle.tN "UNASSIGNED_STACK" Bundle.steD)
  · rw [e1]; exact hU
  · by_cases e2 : w = .isRef (.static Bundle.tN "SUPPRESSED_SENTINEL" Bundle.listD)
    · rw [e2]; exact hN
    · by_cases e3 : w = .laysStatic Bundle.tN "UNASSIGNED_STACK" Bundle.steD
      · rw [e3]; exact lU
      · by_cases e4 : w = .laysStatic Bundle.tN "SUPPRESSED_SENTINEL" Bundle.listD
        · rw [e4]; exact lN
        · exact h1 w (List.mem_filter.mpr ⟨hw, by unfold vx_no; rw [decide_eq_true e1, decide_eq_true e2, decide_eq_true e3, decide_eq_true e4]; rfl⟩)
/-- where a static field lies, its class's statics cell in H -/
def vx_L (C n d : String) (A : Nat → Prop) (U : State) (H : Heap) : Prop := ∃ (c : ClassId) (k : Class) (i : Nat) (f : Field) (a : Nat) (cell : Cell), U.vm.findClass C = some c ∧ U.fieldFound? C n d = some (c, k, i, f) ∧ f.isStatic = true ∧ k.statics = some a ∧ H[a]? = some cell ∧ cell.vm.isStatics = true ∧ cell.cls = c ∧ f.slot < cell.slots.size ∧ k.staticTypes[f.slot]? = some f.type ∧ ¬ A a
theorem vx_L.moved {C n d : String} {A : Nat → Prop} {u U : State} {H : Heap} (hvm : u.vm.Alike U.vm) (h : vx_L C n d A u H) : vx_L C n d A U H := by
  obtain ⟨c, k, i, f, a, cell, h1, h2, h3, h4, h5, h6, h7, h8, h9, h10⟩ := h
  obtain ⟨k', hi', he⟩ := State.fieldFound?_setVm hvm h2
  exact ⟨c, k', i, f, a, cell, by rw [hvm.findClass]; exact h1, hi', h3, by rw [he]; exact h4, h5, h6, h7, h8, by rw [he]; exact h9, h10⟩
theorem vx_L.kept {C n d : String} {A : Nat → Prop} {U : State} {H H1 : Heap} (h : vx_L C n d A U H) (hq : ∀ a : Nat, a < H.size → ¬ A a → H1[a]? = H[a]?) : vx_L C n d A U H1 := by
  obtain ⟨c, k, i, f, a, cell, h1, h2, h3, h4, h5, h6, h7, h8, h9, h10⟩ := h
  exact ⟨c, k, i, f, a, cell, h1, h2, h3, h4, by rw [hq a (Array.getElem?_eq_some_iff.mp h5).1 h10]; exact h5, h6, h7, h8, h9, h10⟩
theorem vx_L.narrow {C n d : String} {A B : Nat → Prop} {U : State} {H : Heap} (h : vx_L C n d A U H) (hAB : ∀ q, B q → A q) : vx_L C n d B U H := by
  obtain ⟨c, k, i, f, a, cell, h1, h2, h3, h4, h5, h6, h7, h8, h9, h10⟩ := h
  exact ⟨c, k, i, f, a, cell, h1, h2, h3, h4, h5, h6, h7, h8, h9, fun z => h10 (hAB _ z)⟩
theorem vx_L.word {C n d : String} {A : Nat → Prop} {s : State} {args : Array Value} (h : vx_L C n d A s s.heap) : (Cond.laysStatic C n d).before args s = true := by
  obtain ⟨c, k, i, f, a, cell, h1, h2, h3, h4, h5, h6, h7, h8, h9, -⟩ := h
  show (Cond.laysStatic C n d).holds args s none s [] = true
  exact Cond.laysStatic_of h1 h2 h3 h4 h5 h6 h7 h8 h9
/-- .. and what it holds: null or some reference -/
def vx_Zq (C n d : String) (A : Nat → Prop) (U : State) (H : Heap) : Prop := va_Zq C n d A U H ∧ vx_L C n d A U H
theorem vx_Zq.moved {C n d : String} {A : Nat → Prop} {u U : State} {H : Heap} (hvm : u.vm.Alike U.vm) (h : vx_Zq C n d A u H) : vx_Zq C n d A U H := ⟨va_Zq.moved hvm h.1, vx_L.moved hvm h.2⟩
theorem vx_Zq.kept {C n d : String} {A : Nat → Prop} {U : State} {H H1 : Heap} (h : vx_Zq C n d A U H) (hq : ∀ a : Nat, a < H.size → ¬ A a → H1[a]? = H[a]?) : vx_Zq C n d A U H1 := ⟨va_Zq.kept h.1 hq, vx_L.kept h.2 hq⟩
theorem vx_Zq.narrow {C n d : String} {A B : Nat → Prop} {U : State} {H : Heap} (h : vx_Zq C n d A U H) (hAB : ∀ q, B q → A q) : vx_Zq C n d B U H := ⟨va_Zq.narrow h.1 hAB, vx_L.narrow h.2 hAB⟩
theorem vx_Zqof {args : Array Value} {s : State} {C n d : String} {A : Nat → Prop} (hl : (Cond.laysStatic C n d).before args s = true) (hini : (Cond.initialized C).before args s = true) (h : (Cond.isRef (.static C n d)).before args s = true) (hA : ∀ a : Nat, a < s.heap.size → ¬ A a) : vx_Zq C n d A s s.heap := by
  refine ⟨va_Zqof hl hini h hA, ?_⟩
  obtain ⟨c, k, i, f, a, cell, h1, h2, h3, h4, h5, h6, h7, h8, h9⟩ := Cond.laysStatic_spec hl
  exact ⟨c, k, i, f, a, cell, h1, h2, h3, h4, h5, h6, h7, h8, h9, hA a (Array.getElem?_eq_some_iff.mp h5).1⟩
theorem vx_isRef {C n d : String} {v : Value} {A : Nat → Prop} {s : State} {args : Array Value} (h : va_Z C n d v A s s.heap) (hv : v.isRef = true) : (Cond.isRef (.static C n d)).before args s = true := by
  obtain ⟨cf, kf, fi, f, a, cell, h1, h2, h3, h4, h5, h6, h7, -⟩ := h
  have he : (Term.static C n d).eval args s none [] s = some v := by
    simp [Term.eval, State.fieldNamed?, h1, h2, h4, h5, h6, h7]
  simp only [Cond.before, Cond.holds, Cond.value, he]
  cases v <;> simp_all [Value.isRef]
theorem vx_isRefq {C n d : String} {A : Nat → Prop} {s : State} {args : Array Value} (h : va_Zq C n d A s s.heap) : (Cond.isRef (.static C n d)).before args s = true := by
  rcases h with h | ⟨t, h⟩
  · exact vx_isRef h rfl
  · exact vx_isRef h rfl
/-- the same frame, seen from here: as if the method were called anew in this heap -/
theorem vx_rebase {T : State} (X : Stand p l e R s m args below meth c T locs cells slots) {R' : Room} (hf : R'.frames ≤ R.frames) (hl : R'.locals ≤ R.locals) (hc : cells + R'.cells ≤ R.cells) (hs : slots + R'.slots ≤ R.slots) :
    Stand p l e R' ((T.setVm s.vm).setFrames (.invoking m args :: below)) m args below meth c T [] 0 0 := by
  have htop : (T.setVm s.vm).topJava?.isSome := X.here.top
  have hF : ((T.setVm s.vm).setFrames (.invoking m args :: below)).frames = .invoking m args :: below := State.frames_setFrames _ (State.cur_lt_of_top htop)
  obtain ⟨g₀, hg0⟩ := Option.isSome_iff_exists.mp htop
  obtain ⟨r, hr⟩ := State.topJava?_eq_some.mp hg0
  have hl9 : e.platform.stackLimits (T.setVm s.vm).me = e.platform.stackLimits s.me := X.limits
  have hb9 : (T.setVm s.vm).me.stackBytes = s.me.stackBytes := X.bytes
  refine ⟨X.admits, X.cas, X.clock, hF, ?_, X.hears, X.method, X.code, X.here, X.tail, X.warmed, ?_, ?_, ?_⟩
  · have h := X.room
    have hU : ((T.setVm s.vm).setFrames (.invoking m args :: below)).localsInUse = s.localsInUse := by
      rw [State.localsInUse_invoking hF (meth := meth) (c := c) X.method X.code, State.localsInUse_invoking X.frames X.method X.code]
    simp only [State.hasRoom, Bool.and_eq_true, decide_eq_true_eq] at h ⊢
    obtain ⟨⟨⟨⟨h1, h2, h3, h4, h5, h6⟩, h7⟩, h8⟩, h9⟩ := h
    rw [X.frames, List.length_cons] at h2 h3
    have q1 := X.heapSize
    have q2 := X.used
    simp only [hF, hU, List.length_cons, State.stackLimits_setFrames, State.stackBytes_setFrames, hl9, hb9]
    refine ⟨⟨⟨⟨by omega, by omega, by omega, by omega, by omega, h6⟩, ?_⟩, ?_⟩, X.book⟩
    · show T.heap.size + R'.cells ≤ e.platform.maxCells
      omega
    · show T.slotsUsed + R'.slots ≤ e.platform.maxSlots
      omega
  · rw [State.stackLimits_setFrames]; rfl
  · rw [State.stackBytes_setFrames]; rfl
  · refine ⟨?_, Nat.le_refl _, Nat.le_refl _, ?_, ?_, fun a c9 h9 => ⟨c9, h9, rfl, rfl, fun _ _ => rfl⟩⟩
    · obtain ⟨t, ht, -⟩ := State.frames_cons hr
      show T.setVm s.vm = { ((T.setVm s.vm).setFrames (.invoking m args :: below)).setFrames (T.setVm s.vm).frames with heap := T.heap, slotsUsed := T.slotsUsed }
      rw [State.setFrames_setFrames, State.setFrames_self ht]
      rfl
    · show T.slotsUsed = T.slotsUsed + ((T.heap.toList.drop T.heap.size).map (·.slots.size)).sum
      rw [List.drop_eq_nil_of_le (Nat.le_of_eq Array.length_toList)]
      rfl
    · show ((T.heap.toList.drop T.heap.size).map (·.slots.size)).sum ≤ 0
      rw [List.drop_eq_nil_of_le (Nat.le_of_eq Array.length_toList)]
      exact Nat.le_refl _
/-- 'throw new E()': new; dup; invokespecial; athrow -/
theorem vx_throw0 {cc : ByteArray} {pc : Nat} (hexec : p.tables.exec = Jvm.exec) (hb : c.code = cc) (hl : l.stackTraces = false) {own cls : String} {names : List String} {ik ic mc ms : Nat} {A : Nat → Prop}
    (hown : s.vm.findClass own = some m.cls) (hcls : Bundle.fit cls = true) (hnames : ∀ n ∈ names, Bundle.fit n = true)
    (hk : (Cond.classLink own ik cls).before args s = true) (hini : (Cond.initialized cls).before args s = true) (hat : ∀ w ∈ vx_at0 own ic cls names, w.before args s = true)
    (hgood : ∀ w ∈ Cond.classLink own ik cls :: Cond.initialized cls :: vx_at0 own ic cls names, vx_ot w = true)
    (hU : vx_Zq Bundle.tN "UNASSIGNED_STACK" Bundle.steD A s s.heap) (hN : vx_Zq Bundle.tN "SUPPRESSED_SENTINEL" Bundle.listD A s s.heap) (hS : va_S A s.heap H locs) (hsize : ls.size = c.maxLocals)
    (d0 : decode cc pc = .ok (.new ik, 3)) (d3 : decode cc (pc + 3) = .ok (.dup, 1)) (d4 : decode cc (pc + 4) = .ok (.invokespecial ic, 3)) (d7 : decode cc (pc + 7) = .ok (.athrow, 1))
    (hout : ∀ x ∈ c.exceptionTable.toList, covers x (pc + 7) = false)
    (hRframes : names.length + 3 < R.frames) (hRlocals : (rest.map fun v => v.category).sum + (13 * (names.length + 1) + 42) ≤ R.locals) (hRcells : cells + 1 ≤ R.cells) (hRslots : slots + 6 ≤ R.slots) (hlocks : meth.locks = false)
    (hx : ∀ t : State, s.vm.Alike t.vm → H.size ≤ t.heap.size → (∀ q : Nat, q < H.size → t.heap[q]? = H[q]?) → XC cls s t)
    (hf : ∀ z ∈ locs, free z.base) (hc : cells + 1 ≤ mc) (hs : slots + 6 ≤ ms) :
    W p l e R s m args below meth c H locs cells slots (vx_MQ below Qc XC args s mc ms free) (F0 m pc ls rest) := by
  intro T hT X
  have htr : e.platform.stackTraces = false := (show e.platform.stackTraces = l.stackTraces by rw [X.admits.platform]).trans hl
  have Y := vx_rebase X (R' := { frames := R.frames, locals := R.locals, cells := 1, slots := 6 }) (Nat.le_refl _) (Nat.le_refl _) hRcells hRslots
  obtain ⟨s', hA⟩ : ∃ z, z = (T.setVm s.vm).setFrames (.invoking m args :: below) := ⟨_, rfl⟩
  rw [← hA] at Y
  have hvm : s'.vm = s.vm := by rw [hA]; rfl
  have hhp : s'.heap = H := by rw [hA]; exact hT
  have hW0 : s.WarmedH s'.vm := by rw [hvm]; exact State.WarmedH.refl s
  have hat' : ∀ w ∈ vx_at0 own ic cls names, w.before args s' = true := fun w hw => vx_ot_at hW0 hvm.symm (hgood w (List.mem_cons_of_mem _ (List.mem_cons_of_mem _ hw))) (hat w hw)
  have hk' : (Cond.classLink own ik cls).before args s' = true := vx_ot_at hW0 hvm.symm (hgood _ List.mem_cons_self) hk
  have hini' : (Cond.initialized cls).before args s' = true := vx_ot_at hW0 hvm.symm (hgood _ (List.mem_cons_of_mem _ List.mem_cons_self)) hini
  have hU' : vx_Zq Bundle.tN "UNASSIGNED_STACK" Bundle.steD A s' s'.heap := by rw [hhp]; exact vx_Zq.moved hW0.alike (hU.kept hS.2.1)
  have hN' : vx_Zq Bundle.tN "SUPPRESSED_SENTINEL" Bundle.listD A s' s'.heap := by rw [hhp]; exact vx_Zq.moved hW0.alike (hN.kept hS.2.1)
  have h : ∀ w ∈ Bundle.ownAtoms0 own ic cls names, w.before args s' = true := vx_own hat' (vx_isRefq hU'.1) (vx_isRefq hN'.1) hU'.2.word hN'.2.word
  have hown' : s'.vm.findClass own = some m.cls := by rw [hvm]; exact hown
  have hins : (Cond.instantiable cls 6).before args s' = true := h _ (by simp [Bundle.ownAtoms0])
  obtain ⟨vm₁, cX, kX, hfX, hkX, -, -, X₁, st1⟩ := Y.newCold hexec (own := own) (C := cls) (index := ik) (n := 6) hown' hk' hins hini'
    (g := F0 m pc ls rest) rfl (by rw [hb]; exact d0) (Nat.le_refl _) (Nat.le_refl _)
  generalize hT1 : (T.setVm vm₁).pushCell { cls := cX, slots := kX.instanceTypes.map defaultValue, vm := .none } = T1 at X₁ st1
  have hcat : (Value.ref T.heap.size).category = 1 := rfl
  have hcellA : T1.heap[T.heap.size]? = some (freshCell cX kX) := by rw [← hT1]; exact State.heap_pushCell_size _ _
  have d3' : decode c.code (pc + 3) = .ok (.dup, 1) := by rw [hb]; exact d3
  obtain ⟨U, hsteps, hrun, hend, hW, hsame, ce, hce, hO⟩ := X₁.ctorThrow0 hexec htr (own := own) (cls := cls) (names := names) (ic := ic) hown' hcls hnames h (fun x hx => nomatch hx) hfX hkX hcellA (by rw [hhp, hT]; exact Nat.le_refl _)
    (g := { method := m, pc := pc + 4, locals := ls, stack := .ref T.heap.size :: .ref T.heap.size :: rest, locked := none }) rfl hsize rfl rfl (rest := rest) rfl
    (by rw [hb]; exact d4) (by rw [hb]; exact d7) hout hRframes (by simp only [List.map_cons, List.sum_cons, hcat]; omega) hlocks
  obtain ⟨f1, f2⟩ := vx_frame hsame
  rw [hhp] at f1 f2
  have hWs : s.WarmedH U.vm := State.WarmedH.trans hW0 hW
  have hcl : s.vm.findClass cls = some ce.cls := by
    have h9 := hO.cls
    rw [hvm] at h9
    exact h9
  have hall : s.sameButNew ({ U with vm := s.vm } : State) locs mc ms := by
    subst hA
    obtain ⟨e1, e2⟩ := hsame
    rw [State.setFrames_setFrames] at e1
    have h2 : (T.setVm s.vm).sameButNew ({ U with vm := s.vm } : State) [] (0 + 1) (0 + 6) := ⟨e1, e2⟩
    have h3 := X.same.trans h2
    rw [List.append_nil] at h3
    exact h3.mono hc hs
  refine ⟨U, ?_, .threw T.heap.size, hrun, hend, Or.inr ⟨T.heap.size, rfl, cls, ce, locs, hx U hWs.alike f1 (fun q hq => f2 q hq (fun z hz => nomatch hz)), hce, hO.vm, hcl, hWs, hall, hf⟩⟩
  refine st1 _ ?_
  show Steps p.tables e below (T1.setTop { method := m, pc := pc + 3, locals := ls, stack := .ref T.heap.size :: rest, locked := none }) _
  jvm_step X₁.here [X₁.here.top, hexec, d3', Value.category]
  exact hsteps
/-- 'throw new E("text")': new; dup; ldc; invokespecial; athrow -/
theorem vx_throwS {cc : ByteArray} {pc : Nat} (hexec : p.tables.exec = Jvm.exec) (hb : c.code = cc) (hl : l.stackTraces = false) {own cls text : String} {names : List String} {ik is ic mc ms sa : Nat} {A : Nat → Prop}
    (hown : s.vm.findClass own = some m.cls) (hcls : Bundle.fit cls = true) (hnames : ∀ n ∈ names, Bundle.fit n = true)
    (hk : (Cond.classLink own ik cls).before args s = true) (hini : (Cond.initialized cls).before args s = true) (hstr : vk_R own is text sa s) (hat : ∀ w ∈ vx_atS own ic cls names, w.before args s = true)
    (hgood : ∀ w ∈ Cond.classLink own ik cls :: Cond.initialized cls :: vx_atS own ic cls names, vx_ot w = true)
    (hU : vx_Zq Bundle.tN "UNASSIGNED_STACK" Bundle.steD A s s.heap) (hN : vx_Zq Bundle.tN "SUPPRESSED_SENTINEL" Bundle.listD A s s.heap) (hS : va_S A s.heap H locs) (hsize : ls.size = c.maxLocals)
    (d0 : decode cc pc = .ok (.new ik, 3)) (d3 : decode cc (pc + 3) = .ok (.dup, 1)) (d4 : decode cc (pc + 4) = .ok (.ldc is, 2)) (d6 : decode cc (pc + 6) = .ok (.invokespecial ic, 3)) (d9 : decode cc (pc + 9) = .ok (.athrow, 1))
    (hout : ∀ x ∈ c.exceptionTable.toList, covers x (pc + 9) = false)
    (hRframes : names.length + 3 < R.frames) (hRlocals : (rest.map fun v => v.category).sum + (13 * (names.length + 1) + 43) ≤ R.locals) (hRcells : cells + 1 ≤ R.cells) (hRslots : slots + 6 ≤ R.slots) (hlocks : meth.locks = false)
    (hx : ∀ t : State, s.vm.Alike t.vm → H.size ≤ t.heap.size → (∀ q : Nat, q < H.size → t.heap[q]? = H[q]?) → XC cls s t)
    (hf : ∀ z ∈ locs, free z.base) (hc : cells + 1 ≤ mc) (hs : slots + 6 ≤ ms) :
    W p l e R s m args below meth c H locs cells slots (vx_MQ below Qc XC args s mc ms free) (F0 m pc ls rest) := by
  intro T hT X
  have htr : e.platform.stackTraces = false := (show e.platform.stackTraces = l.stackTraces by rw [X.admits.platform]).trans hl
  have Y := vx_rebase X (R' := { frames := R.frames, locals := R.locals, cells := 1, slots := 6 }) (Nat.le_refl _) (Nat.le_refl _) hRcells hRslots
  obtain ⟨s', hA⟩ : ∃ z, z = (T.setVm s.vm).setFrames (.invoking m args :: below) := ⟨_, rfl⟩
  rw [← hA] at Y
  have hvm : s'.vm = s.vm := by rw [hA]; rfl
  have hhp : s'.heap = H := by rw [hA]; exact hT
  have hW0 : s.WarmedH s'.vm := by rw [hvm]; exact State.WarmedH.refl s
  have hat' : ∀ w ∈ vx_atS own ic cls names, w.before args s' = true := fun w hw => vx_ot_at hW0 hvm.symm (hgood w (List.mem_cons_of_mem _ (List.mem_cons_of_mem _ hw))) (hat w hw)
  have hk' : (Cond.classLink own ik cls).before args s' = true := vx_ot_at hW0 hvm.symm (hgood _ List.mem_cons_self) hk
  have hini' : (Cond.initialized cls).before args s' = true := vx_ot_at hW0 hvm.symm (hgood _ (List.mem_cons_of_mem _ List.mem_cons_self)) hini
  have hU' : vx_Zq Bundle.tN "UNASSIGNED_STACK" Bundle.steD A s' s'.heap := by rw [hhp]; exact vx_Zq.moved hW0.alike (hU.kept hS.2.1)
  have hN' : vx_Zq Bundle.tN "SUPPRESSED_SENTINEL" Bundle.listD A s' s'.heap := by rw [hhp]; exact vx_Zq.moved hW0.alike (hN.kept hS.2.1)
  have h : ∀ w ∈ Bundle.ownAtoms own ic cls names, w.before args s' = true := vx_own hat' (vx_isRefq hU'.1) (vx_isRefq hN'.1) hU'.2.word hN'.2.word
  have hown' : s'.vm.findClass own = some m.cls := by rw [hvm]; exact hown
  have hins : (Cond.instantiable cls 6).before args s' = true := h _ (by simp [Bundle.ownAtoms])
  obtain ⟨vm₁, cX, kX, hfX, hkX, -, -, X₁, st1⟩ := Y.newCold hexec (own := own) (C := cls) (index := ik) (n := 6) hown' hk' hins hini'
    (g := F0 m pc ls rest) rfl (by rw [hb]; exact d0) (Nat.le_refl _) (Nat.le_refl _)
  generalize hT1 : (T.setVm vm₁).pushCell { cls := cX, slots := kX.instanceTypes.map defaultValue, vm := .none } = T1 at X₁ st1
  have hcat : (Value.ref T.heap.size).category = 1 := rfl
  have hcellA : T1.heap[T.heap.size]? = some (freshCell cX kX) := by rw [← hT1]; exact State.heap_pushCell_size _ _
  have d3' : decode c.code (pc + 3) = .ok (.dup, 1) := by rw [hb]; exact d3
  have d4' : decode c.code (pc + 4) = .ok (.ldc is, 2) := by rw [hb]; exact d4
  have hstr' : vk_R own is text sa s' := vk_R.warm hW0 hstr
  obtain ⟨U, hsteps, hrun, hend, hW, hsame, ce, hce, hO⟩ := X₁.ctorThrowS hexec htr (own := own) (cls := cls) (names := names) (ic := ic) hown' hcls hnames h (fun x hx => nomatch hx) hfX hkX hcellA (by rw [hhp, hT]; exact Nat.le_refl _) (msg := .ref sa) rfl
    (g := { method := m, pc := pc + 6, locals := ls, stack := .ref sa :: .ref T.heap.size :: .ref T.heap.size :: rest, locked := none }) rfl hsize rfl rfl (rest := rest) rfl
    (by rw [hb]; exact d6) (by rw [hb]; exact d9) hout hRframes (by simp only [List.map_cons, List.sum_cons, hcat]; omega) hlocks
  obtain ⟨f1, f2⟩ := vx_frame hsame
  rw [hhp] at f1 f2
  have hWs : s.WarmedH U.vm := State.WarmedH.trans hW0 hW
  have hcl : s.vm.findClass cls = some ce.cls := by
    have h9 := hO.cls
    rw [hvm] at h9
    exact h9
  have hall : s.sameButNew ({ U with vm := s.vm } : State) locs mc ms := by
    subst hA
    obtain ⟨e1, e2⟩ := hsame
    rw [State.setFrames_setFrames] at e1
    have h2 : (T.setVm s.vm).sameButNew ({ U with vm := s.vm } : State) [] (0 + 1) (0 + 6) := ⟨e1, e2⟩
    have h3 := X.same.trans h2
    rw [List.append_nil] at h3
    exact h3.mono hc hs
  refine ⟨U, ?_, .threw T.heap.size, hrun, hend, Or.inr ⟨T.heap.size, rfl, cls, ce, locs, hx U hWs.alike f1 (fun q hq => f2 q hq (fun z hz => nomatch hz)), hce, hO.vm, hcl, hWs, hall, hf⟩⟩
  refine st1 _ ?_
  show Steps p.tables e below (T1.setTop { method := m, pc := pc + 3, locals := ls, stack := .ref T.heap.size :: rest, locked := none }) _
  jvm_step X₁.here [X₁.here.top, hexec, d3', Value.category]
  exact X₁.ldcString hexec (own := own) (text := text) (index := is) (a := sa) hown' hstr'.1 hstr'.2
    (g := { method := m, pc := pc + 4, locals := ls, stack := .ref T.heap.size :: .ref T.heap.size :: rest, locked := none }) rfl d4' _ hsteps
/-- 'throw new E("text")', the text by a wide index -/
theorem vx_throwSW {cc : ByteArray} {pc : Nat} (hexec : p.tables.exec = Jvm.exec) (hb : c.code = cc) (hl : l.stackTraces = false) {own cls text : String} {names : List String} {ik is ic mc ms sa : Nat} {A : Nat → Prop}
    (hown : s.vm.findClass own = some m.cls) (hcls : Bundle.fit cls = true) (hnames : ∀ n ∈ names, Bundle.fit n = true)
    (hk : (Cond.classLink own ik cls).before args s = true) (hini : (Cond.initialized cls).before args s = true) (hstr : vk_R own is text sa s) (hat : ∀ w ∈ vx_atS own ic cls names, w.before args s = true)
    (hgood : ∀ w ∈ Cond.classLink own ik cls :: Cond.initialized cls :: vx_atS own ic cls names, vx_ot w = true)
    (hU : vx_Zq Bundle.tN "UNASSIGNED_STACK" Bundle.steD A s s.heap) (hN : vx_Zq Bundle.tN "SUPPRESSED_SENTINEL" Bundle.listD A s s.heap) (hS : va_S A s.heap H locs) (hsize : ls.size = c.maxLocals)
    (d0 : decode cc pc = .ok (.new ik, 3)) (d3 : decode cc (pc + 3) = .ok (.dup, 1)) (d4 : decode cc (pc + 4) = .ok (.ldc_w is, 3)) (d7 : decode cc (pc + 7) = .ok (.invokespecial ic, 3)) (d10 : decode cc (pc + 10) = .ok (.athrow, 1))
    (hout : ∀ x ∈ c.exceptionTable.toList, covers x (pc + 10) = false)
    (hRframes : names.length + 3 < R.frames) (hRlocals : (rest.map fun v => v.category).sum + (13 * (names.length + 1) + 43) ≤ R.locals) (hRcells : cells + 1 ≤ R.cells) (hRslots : slots + 6 ≤ R.slots) (hlocks : meth.locks = false)
    (hx : ∀ t : State, s.vm.Alike t.vm → H.size ≤ t.heap.size → (∀ q : Nat, q < H.size → t.heap[q]? = H[q]?) → XC cls s t)
    (hf : ∀ z ∈ locs, free z.base) (hc : cells + 1 ≤ mc) (hs : slots + 6 ≤ ms) :
    W p l e R s m args below meth c H locs cells slots (vx_MQ below Qc XC args s mc ms free) (F0 m pc ls rest) := by
  intro T hT X
  have htr : e.platform.stackTraces = false := (show e.platform.stackTraces = l.stackTraces by rw [X.admits.platform]).trans hl
  have Y := vx_rebase X (R' := { frames := R.frames, locals := R.locals, cells := 1, slots := 6 }) (Nat.le_refl _) (Nat.le_refl _) hRcells hRslots
  obtain ⟨s', hA⟩ : ∃ z, z = (T.setVm s.vm).setFrames (.invoking m args :: below) := ⟨_, rfl⟩
  rw [← hA] at Y
  have hvm : s'.vm = s.vm := by rw [hA]; rfl
  have hhp : s'.heap = H := by rw [hA]; exact hT
  have hW0 : s.WarmedH s'.vm := by rw [hvm]; exact State.WarmedH.refl s
  have hat' : ∀ w ∈ vx_atS own ic cls names, w.before args s' = true := fun w hw => vx_ot_at hW0 hvm.symm (hgood w (List.mem_cons_of_mem _ (List.mem_cons_of_mem _ hw))) (hat w hw)
  have hk' : (Cond.classLink own ik cls).before args s' = true := vx_ot_at hW0 hvm.symm (hgood _ List.mem_cons_self) hk
  have hini' : (Cond.initialized cls).before args s' = true := vx_ot_at hW0 hvm.symm (hgood _ (List.mem_cons_of_mem _ List.mem_cons_self)) hini
  have hU' : vx_Zq Bundle.tN "UNASSIGNED_STACK" Bundle.steD A s' s'.heap := by rw [hhp]; exact vx_Zq.moved hW0.alike (hU.kept hS.2.1)
  have hN' : vx_Zq Bundle.tN "SUPPRESSED_SENTINEL" Bundle.listD A s' s'.heap := by rw [hhp]; exact vx_Zq.moved hW0.alike (hN.kept hS.2.1)
  have h : ∀ w ∈ Bundle.ownAtoms own ic cls names, w.before args s' = true := vx_own hat' (vx_isRefq hU'.1) (vx_isRefq hN'.1) hU'.2.word hN'.2.word
  have hown' : s'.vm.findClass own = some m.cls := by rw [hvm]; exact hown
  have hins : (Cond.instantiable cls 6).before args s' = true := h _ (by simp [Bundle.ownAtoms])
  obtain ⟨vm₁, cX, kX, hfX, hkX, -, -, X₁, st1⟩ := Y.newCold hexec (own := own) (C := cls) (index := ik) (n := 6) hown' hk' hins hini'
    (g := F0 m pc ls rest) rfl (by rw [hb]; exact d0) (Nat.le_refl _) (Nat.le_refl _)
  generalize hT1 : (T.setVm vm₁).pushCell { cls := cX, slots := kX.instanceTypes.map defaultValue, vm := .none } = T1 at X₁ st1
  have hcat : (Value.ref T.heap.size).category = 1 := rfl
  have hcellA : T1.heap[T.heap.size]? = some (freshCell cX kX) := by rw [← hT1]; exact State.heap_pushCell_size _ _
  have d3' : decode c.code (pc + 3) = .ok (.dup, 1) := by rw [hb]; exact d3
  have d4' : decode c.code (pc + 4) = .ok (.ldc_w is, 3) := by rw [hb]; exact d4
  have hstr' : vk_R own is text sa s' := vk_R.warm hW0 hstr
  obtain ⟨U, hsteps, hrun, hend, hW, hsame, ce, hce, hO⟩ := X₁.ctorThrowS hexec htr (own := own) (cls := cls) (names := names) (ic := ic) hown' hcls hnames h (fun x hx => nomatch hx) hfX hkX hcellA (by rw [hhp, hT]; exact Nat.le_refl _) (msg := .ref sa) rfl
    (g := { method := m, pc := pc + 7, locals := ls, stack := .ref sa :: .ref T.heap.size :: .ref T.heap.size :: rest, locked := none }) rfl hsize rfl rfl (rest := rest) rfl
    (by rw [hb]; exact d7) (by rw [hb]; exact d10) hout hRframes (by simp only [List.map_cons, List.sum_cons, hcat]; omega) hlocks
  obtain ⟨f1, f2⟩ := vx_frame hsame
  rw [hhp] at f1 f2
  have hWs : s.WarmedH U.vm := State.WarmedH.trans hW0 hW
  have hcl : s.vm.findClass cls = some ce.cls := by
    have h9 := hO.cls
    rw [hvm] at h9
    exact h9
  have hall : s.sameButNew ({ U with vm := s.vm } : State) locs mc ms := by
    subst hA
    obtain ⟨e1, e2⟩ := hsame
    rw [State.setFrames_setFrames] at e1
    have h2 : (T.setVm s.vm).sameButNew ({ U with vm := s.vm } : State) [] (0 + 1) (0 + 6) := ⟨e1, e2⟩
    have h3 := X.same.trans h2
    rw [List.append_nil] at h3
    exact h3.mono hc hs
  refine ⟨U, ?_, .threw T.heap.size, hrun, hend, Or.inr ⟨T.heap.size, rfl, cls, ce, locs, hx U hWs.alike f1 (fun q hq => f2 q hq (fun z hz => nomatch hz)), hce, hO.vm, hcl, hWs, hall, hf⟩⟩
  refine st1 _ ?_
  show Steps p.tables e below (T1.setTop { method := m, pc := pc + 3, locals := ls, stack := .ref T.heap.size :: rest, locked := none }) _
  jvm_step X₁.here [X₁.here.top, hexec, d3', Value.category]
  exact X₁.ldcStringW hexec (own := own) (text := text) (index := is) (a := sa) hown' hstr'.1 hstr'.2
    (g := { method := m, pc := pc + 4, locals := ls, stack := .ref T.heap.size :: .ref T.heap.size :: rest, locked := none }) rfl d4' _ hsteps
end Ends
section Bodies
variable {l : Launch}
theorem vx_ofW {y : MethodName} {ws ws' : List Cond} {rm : Room} {Pc : Array Value → State → Prop} {Qc : Array Value → State → Outcome → State → Prop} {XC : String → State → State → Prop} {mc ms : Nat} {free : Addr → Prop} {cc : ByteArray} {maxL : Nat} {ret : Option FieldType}
    (hy : plainName y.cls = true) (hw : ws = Cond.code y cc maxL ret :: ws')
    (body : ∀ p e s m args below meth c s₁, BodyLoose p l y (headSpec ws rm) cc maxL ret e s m args below meth c s₁ → c.maxLocals = maxL → (∀ x ∈ c.exceptionTable.toList, False) → Pc args s →
      W p l e (headSpec ws rm).room s m args below meth c s.heap [] 0 0 (vx_MQ below Qc XC args s mc ms free) (entryFrame m args maxL)) : vx_Met l y ws rm Pc Qc XC mc ms free := by
  refine MetFree.of_bodyS (code := cc) (maxLocals := maxL) (ret := ret) hy ?_ ?_
  · intro args s m h hn
    obtain ⟨meth, c, h1, h2, h3, h4, h5, h6, -, -⟩ := Cond.code_spec hn (atoms_spec (ws := ws) h _ (by rw [hw]; exact List.mem_cons_self))
    exact ⟨meth, c, h1, h2, h3, h4, h5, h6⟩
  · intro p e s m args below meth c s₁ B hml hP _
    have hh0 : s₁.heap = s.heap := by rw [B.state]; rfl
    have ht : ∀ x ∈ c.exceptionTable.toList, False := by
      obtain ⟨meth9, c9, h1, h2, -, -, -, -, h7, -⟩ := Cond.code_spec B.named (atoms_spec (ws := ws) B.pre _ (by rw [hw]; exact List.mem_cons_self))
      cases Option.some.inj (h1.symm.trans B.method)
      cases Option.some.inj (h2.symm.trans (Stand.of_body B).code)
      intro x hx
      rw [Array.isEmpty_iff.mp h7] at hx
      cases hx
    obtain ⟨t, a1, o, b1, b2, b3⟩ := body p e s m args below meth c s₁ B hml ht hP s₁ hh0 (Stand.of_body B)
    exact ⟨t, o, a1, b1, b2, b3⟩
/-- the table of a body with handlers -/
theorem vx_table {p : Program} {x y : MethodName} {S : Spec} {cc bytes : ByteArray} {maxL maxL' : Nat} {ret ret' : Option FieldType} {e : Env} {s s₁ : State} {m : MethodId} {args : Array Value} {below : List Frame} {meth : Method} {c : Code} {hh : List (Nat × Nat × Nat × Nat)}
    (B : BodyLoose p l y S cc maxL ret e s m args below meth c s₁) (h : (Cond.codeWith y bytes maxL' ret' hh).before args s = true) : c.exceptionTable.toList = tableOf hh := by
  obtain ⟨m9, meth9, c9, hn9, h1, h2, -, -, h6, -⟩ := Cond.codeWith_spec h
  cases Option.some.inj (hn9.symm.trans B.named)
  cases Option.some.inj (h1.symm.trans B.method)
  cases Option.some.inj (h2.symm.trans (Stand.of_body B).code)
  rw [← h6, table_eq]
end Bodies
end VXA
/-! ===== END ===== -/
/-! ===== BEGIN a static call of a method with an exception table ===== -/
section VXS
variable {p : Program} {l : Launch} {e : Env} {R : Room} {s : State} {m : MethodId} {args : Array Value} {below : List Frame} {meth : Method} {c : Code} {T : State} {H : Heap} {locs : List Loc} {cells slots : Nat}
abbrev vx_CSW (R : Room) (s : State) (args : Array Value) (own : String) (index : Nat) (y : MethodName) (bytes : ByteArray) (maxL : Nat) (ret : Option FieldType) (hh : List (Nat × Nat × Nat × Nat)) (ws : List Cond) (rm : Room) (mc ms n : Nat) : Prop :=
  (rm.cells = mc ∧ rm.slots = ms ∧ rm.frames + 1 ≤ R.frames ∧ 8 + (maxL + 11) + rm.locals ≤ R.locals ∧ (∀ w ∈ ws, ∀ (a' : Array Value) (U : State), s.WarmedH U.vm → w.before a' U = true) ∧ Cond.codeWith y bytes maxL ret hh ∈ ws) ∧
  (Cond.codeWith y bytes maxL ret hh).before args s = true ∧ (Cond.initialized y.cls).before args s = true ∧ (y.cls ≠ "java/lang/invoke/MethodHandle" ∧ y.cls ≠ "java/lang/invoke/VarHandle") ∧
  (∀ sig, parseMethodDescriptor y.desc = some sig → n = sig.parameters.length) ∧ (Cond.methodLink own index y).before args s = true ∧ (Cond.static y).before args s = true
theorem vx_cwSW {own : String} {index maxL mc ms : Nat} {y : MethodName} {bytes : ByteArray} {ret : Option FieldType} {hh : List (Nat × Nat × Nat × Nat)} {Ts ws ws' : List Cond} {rm : Room} (n : Nat) (ht : ∀ w ∈ Ts, w.before args s = true) (hT : GoodIn Ts (va_wsS own index y ws)) (hw : ws = Cond.codeWith y bytes maxL ret hh :: ws') (hrc : rm.cells = mc) (hrs : rm.slots = ms)
    (hd : y.cls ≠ "java/lang/invoke/MethodHandle" ∧ y.cls ≠ "java/lang/invoke/VarHandle" ∧ (parseMethodDescriptor y.desc).map (fun d => d.parameters.length) = some n) (hR : rm.frames + 1 ≤ R.frames ∧ 8 + (maxL + 11) + rm.locals ≤ R.locals) :
    vx_CSW R s args own index y bytes maxL ret hh ws rm mc ms n := by
  have ok : ∀ w ∈ va_wsS own index y ws, w.before args s = true := fun w h => ht w (hT w h).1
  have hG : GoodIn Ts ws := fun w h => hT w (by unfold va_wsS; exact List.mem_append_right _ h)
  have hc : Cond.codeWith y bytes maxL ret hh ∈ ws := by rw [hw]; exact List.mem_cons_self
  refine ⟨⟨hrc, hrs, hR.1, hR.2, pay_in ht hG, hc⟩, ht _ (hG _ hc).1, ok _ (by simp [va_wsS]), ⟨hd.1, hd.2.1⟩, fun sig h => ?_, ok _ (by simp [va_wsS]), ok _ (by simp [va_wsS])⟩
  have h2 := hd.2.2
  rw [h] at h2
  exact (Option.some.inj h2).symm
theorem vx_callSW (X : Stand p l e R s m args below meth c T locs cells slots) (hexec : p.tables.exec = Jvm.exec) {own : String} {index : Nat} {y : MethodName} {bytes : ByteArray} {maxL : Nat} {ret : Option FieldType} {hh : List (Nat × Nat × Nat × Nat)}
    (hown : s.vm.findClass own = some m.cls) (hlink : (Cond.methodLink own index y).before args s = true) (hstat : (Cond.static y).before args s = true) (hinit : (Cond.initialized y.cls).before args s = true)
    (hcode : (Cond.codeWith y bytes maxL ret hh).before args s = true) (hy : y.cls ≠ "java/lang/invoke/MethodHandle" ∧ y.cls ≠ "java/lang/invoke/VarHandle")
    {W9 : Nat} {Pre : Pt → Array Value → Prop} {Post : Pt → Array Value → Option Value → Pt → Prop} (hK : Back l R p e below s args y 3 W9 Pre Post)
    {g : JFrame} (hg : g.method = m) (hsize : g.locals.size = c.maxLocals) {argsL rest : List Value} (hlen : ∀ sig, parseMethodDescriptor y.desc = some sig → argsL.length = sig.parameters.length)
    (hstack : g.stack = argsL.reverse ++ rest) (hW : 2 * g.monitorRoom + (rest.map fun v => v.category).sum ≤ W9) (hdg : decode c.code g.pc = .ok (.invokestatic index, 3))
    (hpre : ∀ vm₁, s.WarmedH vm₁ → Pre ⟨T.setVm vm₁, locs, cells, slots⟩ argsL.toArray) :
    ∃ (v : Option Value) (vm₁ : Vm) (B : Pt), s.WarmedH vm₁ ∧ Stand p l e R s m args below meth c B.U B.locs B.cells B.slots ∧ Post ⟨T.setVm vm₁, locs, cells, slots⟩ argsL.toArray v B ∧
      ∀ target, Steps p.tables e below (B.U.setTop { g with pc := g.pc + 3, stack := v.toList ++ rest }) target → Steps p.tables e below (T.setTop g) target := by
  obtain ⟨mk, methM, cM, hnamed, hmethM, -, -, -, -, -, -, hsigM⟩ := Cond.codeWith_spec hcode
  have hstatic : methM.isStatic = true := Cond.static_spec hnamed hmethM hstat
  obtain ⟨kP, hkP, -⟩ := className_of_methodNamed hnamed
  have hinitP : kP.init = .initialized := Cond.initialized_spec (findClass_of_methodNamed hnamed) hkP hinit
  obtain ⟨vm₁, X₁, hstep₁⟩ := X.invokestatic hexec hown hlink hnamed hmethM hstatic hkP hinitP hy (g := g) hg (argsL := argsL) (rest := rest) (hlen _ hsigM) hstack hdg
  obtain ⟨v, B, X', hpost, hsteps⟩ := hK m meth c ⟨T.setVm vm₁, locs, cells, slots⟩ { g with stack := rest } (.invokestatic index) mk argsL.toArray X₁ hg hsize hdg hW (X₁.named hnamed) (hpre vm₁ X₁.warmed)
  exact ⟨v, vm₁, B, X₁.warmed, X', hpost, fun target h => hstep₁ _ fun acts => by rw [doInvoke_state]; exact hsteps.trans h⟩
theorem vx_runSW {y : MethodName} {bytes cc : ByteArray} {maxL nL mc ms n index : Nat} {ret : Option FieldType} {hh : List (Nat × Nat × Nat × Nat)} {ws : List Cond} {rm : Room} {Pc : Array Value → State → Prop} {Qc : Array Value → State → Outcome → State → Prop} {free : Addr → Prop} {Ts : List Cond} {own : String} {As rest : List Value} {g : JFrame}
    (S : CallFix p m c cc nL s args Ts own) (hM : Met l y ws rm Pc Qc mc ms free) (cw : vx_CSW R s args own index y bytes maxL ret hh ws rm mc ms n) (hp : PreS s H Pc As)
    (hg : g.method = m) (hn : As.length = n) (hsize : g.locals.size = nL) (hstack : g.stack = As.reverse ++ rest) (hW : 2 * g.monitorRoom + (rest.map fun v => v.category).sum ≤ 8) (hdg : decode cc g.pc = .ok (.invokestatic index, 3)) (hf : cells + mc ≤ R.cells ∧ slots + ms ≤ R.slots) :
    va_Run p l e R s m args below meth c H locs cells slots mc ms g rest (Qc As.toArray) (free) := by
  obtain ⟨⟨hrc, hrs, hfr, hlo, hws, hcw⟩, hcode, hini, hy, hlen, hl, hstt⟩ := cw
  have hK : Back l R p e below s args y 3 8 (PreOf R mc ms Pc) (PostOf Qc mc ms free) := va_backW (hh := hh) (bytes := bytes) (maxL := maxL) (ret := ret) hM hp.1 hrc hrs hfr hlo hws hcw (fun a' U hW => word_at hW (Or.inl (by first | rfl | simp [Cond.onTables, Cond.keeps, Cond.steady])) hini)
  obtain ⟨hx, hb, hml, ho, -⟩ := S
  intro T hT X
  obtain ⟨v, vm₁, ⟨U', l2, c2, s2⟩, hW₁, X', ⟨g', mk, t, L, e1, e2, hq, h1, hL, h2, h3⟩, st⟩ := vx_callSW X hx (hh := hh) (bytes := bytes) (maxL := maxL) (ret := ret) ho hl hstt hini hcode hy hK hg (hsize.trans hml.symm) (argsL := As) (rest := rest) (fun sig h => hn.trans (hlen sig h)) hstack hW (by rw [hb]; exact hdg)
    (fun vm₁ hW₁ => ⟨hf.1, hf.2, hp.2 (T.setVm vm₁) hT hW₁⟩)
  dsimp only [Pt.U, Pt.locs, Pt.cells, Pt.slots] at X' e1 e2 h1 h2 h3 st
  subst h1; subst h2; subst h3
  exact ⟨v, (T.setVm vm₁).calling g' mk As.toArray, t, U', L, hT, X', hL, e1, e2, hq, st⟩
/-- not caught here, past rows that name other classes: it goes on to the caller -/
theorem vx_outP {p : Program} {l : Launch} {e : Env} {R : Room} {s : State} {m : MethodId} {args : Array Value} {below : List Frame} {meth : Method} {c : Code} {H : Heap} {locs : List Loc} {cells slots : Nat} {free : Addr → Prop} {ls : Array Slot} {rest : List Value} {Qc : Array Value → State → Outcome → State → Prop} {XC : String → State → State → Prop}
    {pc : Nat} {own E : String} {ce : Cell} {q : Addr} {mc ms : Nat} (hown : s.vm.findClass own = some m.cls) (hlocks : meth.locks = false)
    (hpass : ∀ z ∈ c.exceptionTable.toList, covers z pc = false ∨ (z.catchType ≠ 0 ∧ ∃ nm : String, (Cond.classLink own z.catchType nm).before args s = true ∧ va_Nc E nm s)) (hcell : H[q]? = some ce) (hv : ce.vm = .none) (hcl : s.vm.findClass E = some ce.cls)
    (hx : ∀ t : State, t.heap = H → s.vm.Alike t.vm → XC E s t) (hf : ∀ z ∈ locs, free z.base) (hc : cells ≤ mc) (hs : slots ≤ ms) :
    vx_W p l e R s m args below meth c H locs cells slots (vx_MQ below Qc XC args s mc ms free) (F0 m pc ls rest) q := by
  intro T hT X
  have hpl : e.platform.magicAccessors = ({} : Platform).magicAccessors := by rw [X.admits.platform]
  obtain ⟨vm', hW', X', st⟩ := X.outThrough hlocks q (g := F0 m pc ls rest) rfl rfl rfl (cell := ce) (by rw [hT]; exact hcell) (by rw [hv]; rfl)
    (by obtain ⟨k9, h9, -⟩ := Vm.findClass_spec hcl; exact ⟨k9, h9⟩) (fun z hz => by
      rcases hpass z hz with h | ⟨hz0, nm, hl1, hn1⟩
      · exact Or.inl h
      · obtain ⟨c6, hc6, hcl6⟩ := Cond.classLink_spec hown hl1 e.platform hpl
        obtain ⟨a8, b8, h1, h2, h3⟩ := hn1
        cases Option.some.inj (h1.symm.trans hcl)
        cases Option.some.inj (h2.symm.trans hc6)
        exact Or.inr ⟨hz0, _, hcl6, h3⟩)
  obtain ⟨g₀, hfr⟩ := X'.frames_eq
  have hcell9 : ((T.setVm vm').setFrames (.throwing q :: below)).heap[q]? = some ce := by
    show T.heap[q]? = some ce
    rw [hT]; exact hcell
  have hend : Ended ((T.setVm vm').setFrames (.throwing q :: below)) below (.threw q) := State.frames_setFrames _ (State.cur_lt_of_frames hfr)
  refine ⟨(T.setVm vm').setFrames (.throwing q :: below), ?_, .threw q, X'.here.running, hend, Or.inr ⟨q, rfl, E, ce, locs, hx _ hT (X'.ends _).1.alike, hcell9, hv, hcl, (X'.ends _).1, (X'.ends _).2.mono hc hs, hf⟩⟩
  rw [X.pushThrowing_eq]
  exact st
/-- a thing of a world lies in the heap -/
theorem vx_lt {D : va_G} {cl : List vw_C} {ws : va_W} {H1 : Heap} (h : va_P D cl ws H1) {k : Nat} {q : Nat × va_E} (hk : ws[k]? = some q) : q.1 < H1.size := (h k q hk).lt
end VXS
/-! ===== END ===== -/
/-! ===== BEGIN methods with a table of their own: called by a name, returning or throwing ===== -/
section VXH
/-! vx_backW, vx_callVX, vx_callSX, vx_callVW, vx_runVW, vx_runVX, vx_runSX, vx_ofWH follow the same proofs as their sisters above (Free/Laws.lean, Shelf42/LK1.lean); vx_outP calls Shelf42/NT130.lean (outThrough). -/
section
variable {l : Launch} {R : Room} {p : Program} {e : Env} {below : List Frame} {s : State} {sargs : Array Value} {y : MethodName} {len W9 : Nat}
theorem vx_backW {ws : List Cond} {rm : Room} {Pc : Array Value → State → Prop} {Qc : Array Value → State → Outcome → State → Prop} {XC : String → State → State → Prop} {mc ms : Nat} {free : Addr → Prop} {bytes : ByteArray} {maxL : Nat} {ret : Option FieldType} {hh : List (Nat × Nat × Nat × Nat)}
    (hM : vx_Met l y ws rm Pc Qc XC mc ms free) (hblind : FrameBlind Pc) (hrc : rm.cells = mc) (hrs : rm.slots = ms)
    (hframes : rm.frames + 1 ≤ R.frames) (hlocals : W9 + (maxL + 11) + rm.locals ≤ R.locals)
    (hws : ∀ w ∈ ws, ∀ a' U, s.WarmedH U.vm → w.before a' U = true) (hcode : Cond.codeWith y bytes maxL ret hh ∈ ws) (hinit : ∀ a' U, s.WarmedH U.vm → (Cond.initialized y.cls).before a' U = true) :
    vx_Back l R p e below s sargs y len W9 (PreOf R mc ms Pc) (PostOf Qc mc ms free) (vx_Post XC mc ms free) := by
  intro m meth c A g ig mk a X hg hsize hdg hW hn hp
  have h1 : (headSpec ws rm).pre.before a A.U = true := atoms_intro fun w hw => hws w hw _ _ X.warmed
  have h2 : (Cond.codeWith y bytes maxL ret hh).before a A.U = true := hws _ hcode _ _ X.warmed
  have h3 : (Cond.initialized y.cls).before a A.U = true := hinit _ _ X.warmed
  have h4 : A.cells + (headSpec ws rm).room.cells ≤ R.cells := by rw [show (headSpec ws rm).room.cells = mc from hrc]; exact hp.1
  have h5 : A.slots + (headSpec ws rm).room.slots ≤ R.slots := by rw [show (headSpec ws rm).room.slots = ms from hrs]; exact hp.2.1
  have hPc : Pc a (A.U.calling g mk a) := hblind _ _ _ _ hp.2.2
  obtain ⟨U, Ls, c0, s0⟩ := A
  dsimp only [Pt.U, Pt.locs, Pt.cells, Pt.slots] at h1 h2 h3 h4 h5 X hn hPc ⊢
  obtain ⟨m9, methY, cY, hn9, hmY, hcY, -, hlY, -⟩ := Cond.codeWith_spec h2
  cases Option.some.inj (hn9.symm.trans hn)
  obtain ⟨kY, hkY, -⟩ := className_of_methodNamed hn
  have hinitY : kY.init = .initialized := Cond.initialized_spec (findClass_of_methodNamed hn) hkY h3
  have h : At U g.method c below := by rw [hg]; exact X.here
  have hlocals9 : W9 + (maxL + 11) + (headSpec ws rm).room.locals ≤ R.locals := hlocals
  have happ : (headSpec ws rm).appliesLoose y e.platform (U.calling g mk a) = true :=
    Spec.appliesLoose_calling (g := g) h hdg hn hkY hinitY
      (X.room_calling (g := g) (R' := (headSpec ws rm).room) hsize hmY hcY hframes (by rw [hlY]; omega) h4 h5) h1
  obtain ⟨mid, hmid⟩ := h.above
  have hfr : (U.setTop g).frames = (.java g :: mid) ++ below := by rw [State.frames_setTop' g h.top, hmid]; rfl
  obtain ⟨o, s₂, hsteps, -, hend, hq⟩ := Steps.callFree hM p X.admits X.cas X.clock (acts := []) hfr happ hPc trivial
  have hq' : vx_Q Qc XC mc ms free a (U.calling g mk a) o s₂ := hq
  rw [State.frames_setTop' g h.top] at hend
  obtain ⟨g₀, hg0⟩ := Option.isSome_iff_exists.mp h.top
  obtain ⟨r, hr⟩ := State.topJava?_eq_some.mp hg0
  have hr' : (({ U with heap := s₂.heap, slotsUsed := s₂.slotsUsed } : State).setVm s₂.vm).frames = .java g₀ :: r := hr
  rcases hq' with ⟨hqc, L, hfe, hL⟩ | ⟨q, rfl, E, ce, L, hx, hce, hcv, hcl, hW₂, hsm, hL⟩
  · obtain ⟨⟨v, rfl⟩, hW₂, e2, q2, q3, q4, q5, q6⟩ := id hfe
    have e3 : s₂ = ({ (U.calling g mk a).setFrames s₂.frames with heap := s₂.heap, slotsUsed := s₂.slotsUsed } : State).setVm s₂.vm := by
      have : s₂ = ({ s₂ with vm := (U.calling g mk a).vm } : State).setVm s₂.vm := rfl
      rw [e2] at this
      exact this
    obtain ⟨c₂, i₂, len₂, hc₂, hd₂, hf₂⟩ := hend
    have hW' : U.WarmedH s₂.vm := hW₂
    have hcc : c₂ = c := by
      have h1 : s₂.code? g.method = U.code? g.method := by
        rw [State.code?_eq, State.code?_eq, hW'.alike.method?]
      exact Option.some.inj (hc₂.symm.trans (h1.trans h.code))
    subst hcc
    have hlen : len₂ = len := by rw [hdg] at hd₂; cases hd₂; rfl
    subst hlen
    have hs₂ : s₂ = (({ U with heap := s₂.heap, slotsUsed := s₂.slotsUsed } : State).setVm s₂.vm).setTop { g with pc := g.pc + len₂, stack := v.toList ++ g.stack } := by
      refine e3.trans ?_
      rw [hf₂, State.calling_eq h.top, State.setFrames_setFrames, State.setTop_of_frames _ hr', hr]
      rfl
    have hsame : U.sameButNew ({ U with heap := s₂.heap, slotsUsed := s₂.slotsUsed } : State) L mc ms := by
      refine ⟨?_, q2, q3, q4, q5, q6⟩
      obtain ⟨t, ht, -⟩ := State.frames_cons hr
      show ({ U with heap := s₂.heap, slotsUsed := s₂.slotsUsed } : State) = { U.setFrames U.frames with heap := s₂.heap, slotsUsed := s₂.slotsUsed }
      rw [State.setFrames_self ht]
    subst hg
    refine Or.inl ⟨v, ⟨(({ U with heap := s₂.heap, slotsUsed := s₂.slotsUsed } : State).setVm s₂.vm), Ls ++ L, c0 + mc, s0 + ms⟩,
      ⟨X.admits, X.cas, X.clock, X.frames, X.room, X.hears, X.method, X.code, (X.here.setHeapUsed s₂.heap s₂.slotsUsed).setVm hW'.alike, X.tail, State.WarmedH.trans X.warmed hW', X.limits, X.bytes, X.same.trans (hsame.setVm s.vm)⟩,
      ⟨g, mk, s₂, L, rfl, rfl, hqc, rfl, hL, rfl, rfl⟩, ?_⟩
    show Steps p.tables e below _ ((({ U with heap := s₂.heap, slotsUsed := s₂.slotsUsed } : State).setVm s₂.vm).setTop { g with pc := g.pc + len₂, stack := v.toList ++ g.stack })
    rw [← hs₂]
    exact hsteps
  · obtain ⟨e2, q2, q3, q4, q5, q6⟩ := id hsm
    have e3 : s₂ = ({ (U.calling g mk a).setFrames s₂.frames with heap := s₂.heap, slotsUsed := s₂.slotsUsed } : State).setVm s₂.vm := by
      have : s₂ = ({ s₂ with vm := (U.calling g mk a).vm } : State).setVm s₂.vm := rfl
      rw [e2] at this
      exact this
    have hf₂ : s₂.frames = .throwing q :: .java g :: U.frames.tail := hend
    have hW' : U.WarmedH s₂.vm := hW₂
    have hs₂ : s₂ = ((({ U with heap := s₂.heap, slotsUsed := s₂.slotsUsed } : State).setVm s₂.vm).setTop g).pushFrame (.throwing q) := by
      refine e3.trans ?_
      rw [hf₂, State.calling_eq h.top, State.setFrames_setFrames, State.pushFrame, State.frames_setTop _ hr', State.setTop_of_frames _ hr', State.setFrames_setFrames, hr]
      rfl
    have hsame : U.sameButNew ({ U with heap := s₂.heap, slotsUsed := s₂.slotsUsed } : State) L mc ms := by
      refine ⟨?_, q2, q3, q4, q5, q6⟩
      obtain ⟨t, ht, -⟩ := State.frames_cons hr
      show ({ U with heap := s₂.heap, slotsUsed := s₂.slotsUsed } : State) = { U.setFrames U.frames with heap := s₂.heap, slotsUsed := s₂.slotsUsed }
      rw [State.setFrames_self ht]
    subst hg
    refine Or.inr ⟨q, ⟨(({ U with heap := s₂.heap, slotsUsed := s₂.slotsUsed } : State).setVm s₂.vm), Ls ++ L, c0 + mc, s0 + ms⟩,
      ⟨X.admits, X.cas, X.clock, X.frames, X.room, X.hears, X.method, X.code, (X.here.setHeapUsed s₂.heap s₂.slotsUsed).setVm hW'.alike, X.tail, State.WarmedH.trans X.warmed hW', X.limits, X.bytes, X.same.trans (hsame.setVm s.vm)⟩,
      ⟨g, mk, s₂, L, E, ce, rfl, rfl, hx, hce, hcv, hcl, rfl, hL, rfl, rfl⟩, ?_⟩
    show Steps p.tables e below _ (((({ U with heap := s₂.heap, slotsUsed := s₂.slotsUsed } : State).setVm s₂.vm).setTop g).pushFrame (.throwing q))
    rw [← hs₂]
    exact hsteps
end
variable {p : Program} {l : Launch} {e : Env} {R : Room} {s : State} {m : MethodId} {args : Array Value} {below : List Frame} {meth : Method} {c : Code} {T : State} {H : Heap} {locs : List Loc} {cells slots : Nat}
theorem vx_callVX (X : Stand p l e R s m args below meth c T locs cells slots) (hexec : p.tables.exec = Jvm.exec) {own C : String} {index : Nat} {y : MethodName} {bytes : ByteArray} {maxL : Nat} {ret : Option FieldType} {hh : List (Nat × Nat × Nat × Nat)}
    (hown : s.vm.findClass own = some m.cls) (hlink : (Cond.methodLink own index y).before args s = true) (hinst : (Cond.instanceMethod y).before args s = true) (hsel : (Cond.selects C y y).before args s = true)
    (hcode : (Cond.codeWith y bytes maxL ret hh).before args s = true) (hy : y.cls ≠ "java/lang/invoke/MethodHandle" ∧ y.cls ≠ "java/lang/invoke/VarHandle")
    {W9 : Nat} {Pre : Pt → Array Value → Prop} {Post : Pt → Array Value → Option Value → Pt → Prop} {PostX : Pt → Array Value → Addr → Pt → Prop} (hK : vx_Back l R p e below s args y 3 W9 Pre Post PostX)
    {b : Addr} {cellB : Cell} (hcell : T.heap[b]? = some cellB) (hobj : cellB.vm.isStatics = false) (hcls : s.vm.findClass C = some cellB.cls)
    {g : JFrame} (hg : g.method = m) (hsize : g.locals.size = c.maxLocals) {argsL rest : List Value} (hlen : ∀ sig, parseMethodDescriptor y.desc = some sig → argsL.length = sig.parameters.length)
    (hstack : g.stack = argsL.reverse ++ .ref b :: rest) (hW : 2 * g.monitorRoom + (rest.map fun v => v.category).sum ≤ W9) (hdg : decode c.code g.pc = .ok (.invokevirtual index, 3))
    (hpre : ∀ vm₁, s.WarmedH vm₁ → Pre ⟨T.setVm vm₁, locs, cells, slots⟩ (Value.ref b :: argsL).toArray) :
    (∃ (v : Option Value) (vm₁ : Vm) (B : Pt), s.WarmedH vm₁ ∧ Stand p l e R s m args below meth c B.U B.locs B.cells B.slots ∧ Post ⟨T.setVm vm₁, locs, cells, slots⟩ (Value.ref b :: argsL).toArray v B ∧
      ∀ target, Steps p.tables e below (B.U.setTop { g with pc := g.pc + 3, stack := v.toList ++ rest }) target → Steps p.tables e below (T.setTop g) target) ∨
    (∃ (q : Addr) (vm₁ : Vm) (B : Pt), s.WarmedH vm₁ ∧ Stand p l e R s m args below meth c B.U B.locs B.cells B.slots ∧ PostX ⟨T.setVm vm₁, locs, cells, slots⟩ (Value.ref b :: argsL).toArray q B ∧
      Steps p.tables e below (T.setTop g) ((B.U.setTop { g with stack := rest }).pushFrame (.throwing q))) := by
  obtain ⟨mk, methM, hnamed, hmethM, hstM, habM⟩ := Cond.instanceMethod_spec hinst
  obtain ⟨m8, methM', cM, hn8, hmethM', -, -, -, -, -, -, hsigM⟩ := Cond.codeWith_spec hcode
  cases Option.some.inj (hn8.symm.trans hnamed)
  cases hmethM.symm.trans hmethM'
  obtain ⟨c2, r2, m2, q1, q2, q3, q4, kP, hkP, hkPi⟩ := Cond.selects_spec hsel
  cases hcls.symm.trans q1
  cases (State.methodFound?_of_named hnamed hy).symm.trans q2
  cases hnamed.symm.trans q3
  have hselP : selectMethod e.platform s.vm cellB.cls mk = .method mk := by rw [Launch.admits_selectMethod X.admits]; exact q4
  obtain ⟨vm₁, X₁, hstep₁⟩ := X.invokevirtual hexec hown hlink hnamed hmethM hstM hkP hkPi hy (a := b) (cell := cellB) hcell
    (fun z h => by rw [h] at hobj; cases hobj) hselP hmethM habM hkP hkPi (g := g) hg (argsL := argsL) (rest := rest) (hlen _ hsigM) hstack hdg
  rcases hK m meth c ⟨T.setVm vm₁, locs, cells, slots⟩ { g with stack := rest } (.invokevirtual index) mk (Value.ref b :: argsL).toArray X₁ hg hsize hdg hW (X₁.named hnamed) (hpre vm₁ X₁.warmed) with ⟨v, B, X', hpost, hsteps⟩ | ⟨q, B, X', hpost, hsteps⟩
  · exact Or.inl ⟨v, vm₁, B, X₁.warmed, X', hpost, fun target h => hstep₁ _ fun acts => by rw [doInvoke_state]; exact hsteps.trans h⟩
  · exact Or.inr ⟨q, vm₁, B, X₁.warmed, X', hpost, hstep₁ _ fun acts => by rw [doInvoke_state]; exact hsteps⟩
theorem vx_callSX (X : Stand p l e R s m args below meth c T locs cells slots) (hexec : p.tables.exec = Jvm.exec) {own : String} {index : Nat} {y : MethodName} {bytes : ByteArray} {maxL : Nat} {ret : Option FieldType} {hh : List (Nat × Nat × Nat × Nat)}
    (hown : s.vm.findClass own = some m.cls) (hlink : (Cond.methodLink own index y).before args s = true) (hstat : (Cond.static y).before args s = true) (hinit : (Cond.initialized y.cls).before args s = true)
    (hcode : (Cond.codeWith y bytes maxL ret hh).before args s = true) (hy : y.cls ≠ "java/lang/invoke/MethodHandle" ∧ y.cls ≠ "java/lang/invoke/VarHandle")
    {W9 : Nat} {Pre : Pt → Array Value → Prop} {Post : Pt → Array Value → Option Value → Pt → Prop} {PostX : Pt → Array Value → Addr → Pt → Prop} (hK : vx_Back l R p e below s args y 3 W9 Pre Post PostX)
    {g : JFrame} (hg : g.method = m) (hsize : g.locals.size = c.maxLocals) {argsL rest : List Value} (hlen : ∀ sig, parseMethodDescriptor y.desc = some sig → argsL.length = sig.parameters.length)
    (hstack : g.stack = argsL.reverse ++ rest) (hW : 2 * g.monitorRoom + (rest.map fun v => v.category).sum ≤ W9) (hdg : decode c.code g.pc = .ok (.invokestatic index, 3))
    (hpre : ∀ vm₁, s.WarmedH vm₁ → Pre ⟨T.setVm vm₁, locs, cells, slots⟩ argsL.toArray) :
    (∃ (v : Option Value) (vm₁ : Vm) (B : Pt), s.WarmedH vm₁ ∧ Stand p l e R s m args below meth c B.U B.locs B.cells B.slots ∧ Post ⟨T.setVm vm₁, locs, cells, slots⟩ argsL.toArray v B ∧
      ∀ target, Steps p.tables e below (B.U.setTop { g with pc := g.pc + 3, stack := v.toList ++ rest }) target → Steps p.tables e below (T.setTop g) target) ∨
    (∃ (q : Addr) (vm₁ : Vm) (B : Pt), s.WarmedH vm₁ ∧ Stand p l e R s m args below meth c B.U B.locs B.cells B.slots ∧ PostX ⟨T.setVm vm₁, locs, cells, slots⟩ argsL.toArray q B ∧
      Steps p.tables e below (T.setTop g) ((B.U.setTop { g with stack := rest }).pushFrame (.throwing q))) := by
  obtain ⟨mk, methM, cM, hnamed, hmethM, -, -, -, -, -, -, hsigM⟩ := Cond.codeWith_spec hcode
  have hstatic : methM.isStatic = true := Cond.static_spec hnamed hmethM hstat
  obtain ⟨kP, hkP, -⟩ := className_of_methodNamed hnamed
  have hinitP : kP.init = .initialized := Cond.initialized_spec (findClass_of_methodNamed hnamed) hkP hinit
  obtain ⟨vm₁, X₁, hstep₁⟩ := X.invokestatic hexec hown hlink hnamed hmethM hstatic hkP hinitP hy (g := g) hg (argsL := argsL) (rest := rest) (hlen _ hsigM) hstack hdg
  rcases hK m meth c ⟨T.setVm vm₁, locs, cells, slots⟩ { g with stack := rest } (.invokestatic index) mk argsL.toArray X₁ hg hsize hdg hW (X₁.named hnamed) (hpre vm₁ X₁.warmed) with ⟨v, B, X', hpost, hsteps⟩ | ⟨q, B, X', hpost, hsteps⟩
  · exact Or.inl ⟨v, vm₁, B, X₁.warmed, X', hpost, fun target h => hstep₁ _ fun acts => by rw [doInvoke_state]; exact hsteps.trans h⟩
  · exact Or.inr ⟨q, vm₁, B, X₁.warmed, X', hpost, hstep₁ _ fun acts => by rw [doInvoke_state]; exact hsteps⟩
theorem vx_callVW (X : Stand p l e R s m args below meth c T locs cells slots) (hexec : p.tables.exec = Jvm.exec) {own C : String} {index : Nat} {y : MethodName} {bytes : ByteArray} {maxL : Nat} {ret : Option FieldType} {hh : List (Nat × Nat × Nat × Nat)}
    (hown : s.vm.findClass own = some m.cls) (hlink : (Cond.methodLink own index y).before args s = true) (hinst : (Cond.instanceMethod y).before args s = true) (hsel : (Cond.selects C y y).before args s = true)
    (hcode : (Cond.codeWith y bytes maxL ret hh).before args s = true) (hy : y.cls ≠ "java/lang/invoke/MethodHandle" ∧ y.cls ≠ "java/lang/invoke/VarHandle")
    {W9 : Nat} {Pre : Pt → Array Value → Prop} {Post : Pt → Array Value → Option Value → Pt → Prop} (hK : Back l R p e below s args y 3 W9 Pre Post)
    {b : Addr} {cellB : Cell} (hcell : T.heap[b]? = some cellB) (hobj : cellB.vm.isStatics = false) (hcls : s.vm.findClass C = some cellB.cls)
    {g : JFrame} (hg : g.method = m) (hsize : g.locals.size = c.maxLocals) {argsL rest : List Value} (hlen : ∀ sig, parseMethodDescriptor y.desc = some sig → argsL.length = sig.parameters.length)
    (hstack : g.stack = argsL.reverse ++ .ref b :: rest) (hW : 2 * g.monitorRoom + (rest.map fun v => v.category).sum ≤ W9) (hdg : decode c.code g.pc = .ok (.invokevirtual index, 3))
    (hpre : ∀ vm₁, s.WarmedH vm₁ → Pre ⟨T.setVm vm₁, locs, cells, slots⟩ (Value.ref b :: argsL).toArray) :
    ∃ (v : Option Value) (vm₁ : Vm) (B : Pt), s.WarmedH vm₁ ∧ Stand p l e R s m args below meth c B.U B.locs B.cells B.slots ∧ Post ⟨T.setVm vm₁, locs, cells, slots⟩ (Value.ref b :: argsL).toArray v B ∧
      ∀ target, Steps p.tables e below (B.U.setTop { g with pc := g.pc + 3, stack := v.toList ++ rest }) target → Steps p.tables e below (T.setTop g) target := by
  obtain ⟨mk, methM, hnamed, hmethM, hstM, habM⟩ := Cond.instanceMethod_spec hinst
  obtain ⟨m8, methM', cM, hn8, hmethM', -, -, -, -, -, -, hsigM⟩ := Cond.codeWith_spec hcode
  cases Option.some.inj (hn8.symm.trans hnamed)
  cases hmethM.symm.trans hmethM'
  obtain ⟨c2, r2, m2, q1, q2, q3, q4, kP, hkP, hkPi⟩ := Cond.selects_spec hsel
  cases hcls.symm.trans q1
  cases (State.methodFound?_of_named hnamed hy).symm.trans q2
  cases hnamed.symm.trans q3
  have hselP : selectMethod e.platform s.vm cellB.cls mk = .method mk := by rw [Launch.admits_selectMethod X.admits]; exact q4
  obtain ⟨vm₁, X₁, hstep₁⟩ := X.invokevirtual hexec hown hlink hnamed hmethM hstM hkP hkPi hy (a := b) (cell := cellB) hcell
    (fun z h => by rw [h] at hobj; cases hobj) hselP hmethM habM hkP hkPi (g := g) hg (argsL := argsL) (rest := rest) (hlen _ hsigM) hstack hdg
  obtain ⟨v, B, X', hpost, hsteps⟩ := hK m meth c ⟨T.setVm vm₁, locs, cells, slots⟩ { g with stack := rest } (.invokevirtual index) mk (Value.ref b :: argsL).toArray X₁ hg hsize hdg hW (X₁.named hnamed) (hpre vm₁ X₁.warmed)
  exact ⟨v, vm₁, B, X₁.warmed, X', hpost, fun target h => hstep₁ _ fun acts => by rw [doInvoke_state]; exact hsteps.trans h⟩
abbrev vx_CVW (R : Room) (s : State) (args : Array Value) (own C : String) (index : Nat) (y : MethodName) (bytes : ByteArray) (maxL : Nat) (ret : Option FieldType) (hh : List (Nat × Nat × Nat × Nat)) (ws : List Cond) (rm : Room) (mc ms n : Nat) : Prop :=
  (rm.cells = mc ∧ rm.slots = ms ∧ rm.frames + 1 ≤ R.frames ∧ 8 + (maxL + 11) + rm.locals ≤ R.locals ∧ (∀ w ∈ ws, ∀ (a' : Array Value) (U : State), s.WarmedH U.vm → w.before a' U = true) ∧ Cond.codeWith y bytes maxL ret hh ∈ ws) ∧
  (Cond.codeWith y bytes maxL ret hh).before args s = true ∧ (Cond.initialized y.cls).before args s = true ∧ (y.cls ≠ "java/lang/invoke/MethodHandle" ∧ y.cls ≠ "java/lang/invoke/VarHandle") ∧
  (∀ sig, parseMethodDescriptor y.desc = some sig → n = sig.parameters.length) ∧ (Cond.methodLink own index y).before args s = true ∧ (Cond.instanceMethod y).before args s = true ∧ (Cond.selects C y y).before args s = true
theorem vx_cwVW {own C : String} {index maxL mc ms : Nat} {y : MethodName} {bytes : ByteArray} {ret : Option FieldType} {hh : List (Nat × Nat × Nat × Nat)} {Ts ws ws' : List Cond} {rm : Room} (n : Nat) (ht : ∀ w ∈ Ts, w.before args s = true) (hT : GoodIn Ts (wsV own index C y ws)) (hw : ws = Cond.codeWith y bytes maxL ret hh :: ws') (hrc : rm.cells = mc) (hrs : rm.slots = ms)
    (hd : y.cls = C ∧ y.cls ≠ "java/lang/invoke/MethodHandle" ∧ y.cls ≠ "java/lang/invoke/VarHandle" ∧ (parseMethodDescriptor y.desc).map (fun d => d.parameters.length) = some n) (hR : rm.frames + 1 ≤ R.frames ∧ 8 + (maxL + 11) + rm.locals ≤ R.locals) :
    vx_CVW R s args own C index y bytes maxL ret hh ws rm mc ms n := by
  obtain ⟨hC, hd⟩ := hd
  subst hC
  have ok : ∀ w ∈ wsV own index y.cls y ws, w.before args s = true := fun w h => ht w (hT w h).1
  have hG : GoodIn Ts ws := fun w h => hT w (by unfold wsV; exact List.mem_append_right _ h)
  have hc : Cond.codeWith y bytes maxL ret hh ∈ ws := by rw [hw]; exact List.mem_cons_self
  refine ⟨⟨hrc, hrs, hR.1, hR.2, pay_in ht hG, hc⟩, ht _ (hG _ hc).1, ok _ (by simp [wsV]), ⟨hd.1, hd.2.1⟩, fun sig h => ?_, ok _ (by simp [wsV]), ok _ (by simp [wsV]), ok _ (by simp [wsV])⟩
  have h2 := hd.2.2
  rw [h] at h2
  exact (Option.some.inj h2).symm
theorem vx_runVW {y : MethodName} {bytes cc : ByteArray} {maxL nL mc ms n index : Nat} {ret : Option FieldType} {hh : List (Nat × Nat × Nat × Nat)} {ws : List Cond} {rm : Room} {Pc : Array Value → State → Prop} {Qc : Array Value → State → Outcome → State → Prop} {free : Addr → Prop} {Ts : List Cond} {own C : String} {b : Addr} {As rest : List Value} {g : JFrame}
    (S : CallFix p m c cc nL s args Ts own) (hM : Met l y ws rm Pc Qc mc ms free) (cw : vx_CVW R s args own C index y bytes maxL ret hh ws rm mc ms n) (hp : PreV s H C b Pc As)
    (hg : g.method = m) (hn : As.length = n) (hsize : g.locals.size = nL) (hstack : g.stack = As.reverse ++ .ref b :: rest) (hW : 2 * g.monitorRoom + (rest.map fun v => v.category).sum ≤ 8) (hdg : decode cc g.pc = .ok (.invokevirtual index, 3)) (hf : cells + mc ≤ R.cells ∧ slots + ms ≤ R.slots) :
    va_Run p l e R s m args below meth c H locs cells slots mc ms g rest (Qc (Value.ref b :: As).toArray) free := by
  obtain ⟨⟨hrc, hrs, hfr, hlo, hws, hcw⟩, hcode, hini, hy, hlen, hl, hin, hse⟩ := cw
  have hK : Back l R p e below s args y 3 8 (PreOf R mc ms Pc) (PostOf Qc mc ms free) := va_backW (hh := hh) (bytes := bytes) (maxL := maxL) (ret := ret) hM hp.1 hrc hrs hfr hlo hws hcw (fun a' U hW => word_at hW (Or.inl (by first | rfl | simp [Cond.onTables, Cond.keeps, Cond.steady])) hini)
  obtain ⟨hx, hb, hml, ho, -⟩ := S
  obtain ⟨-, ⟨cellB, hcB, hoB, hclB⟩, hPc⟩ := hp
  intro T hT X
  obtain ⟨v, vm₁, ⟨U', l2, c2, s2⟩, hW₁, X', ⟨g', mk, t, L, e1, e2, hq, h1, hL, h2, h3⟩, st⟩ := vx_callVW X hx (C := C) (hh := hh) (bytes := bytes) (maxL := maxL) (ret := ret) ho hl hin hse hcode hy hK (by rw [hT]; exact hcB) hoB hclB hg (hsize.trans hml.symm) (argsL := As) (rest := rest) (fun sig h => hn.trans (hlen sig h)) hstack hW (by rw [hb]; exact hdg)
    (fun vm₁ hW₁ => ⟨hf.1, hf.2, hPc (T.setVm vm₁) hT hW₁⟩)
  dsimp only [Pt.U, Pt.locs, Pt.cells, Pt.slots] at X' e1 e2 h1 h2 h3 st
  subst h1; subst h2; subst h3
  exact ⟨v, (T.setVm vm₁).calling g' mk (Value.ref b :: As).toArray, t, U', L, hT, X', hL, e1, e2, hq, st⟩
section
variable {y : MethodName} {bytes cc : ByteArray} {maxL nL mc ms n index : Nat} {ret : Option FieldType} {ws : List Cond} {rm : Room} {Pc : Array Value → State → Prop} {Qc : Array Value → State → Outcome → State → Prop} {XC : String → State → State → Prop} {free : Addr → Prop} {Ts : List Cond} {own C : String} {b : Addr} {As rest : List Value} {g : JFrame}
theorem vx_runVX {hh : List (Nat × Nat × Nat × Nat)} (S : CallFix p m c cc nL s args Ts own) (hM : vx_Met l y ws rm Pc Qc XC mc ms free) (cw : vx_CVW R s args own C index y bytes maxL ret hh ws rm mc ms n) (hp : PreV s H C b Pc As)
    (hg : g.method = m) (hn : As.length = n) (hsize : g.locals.size = nL) (hstack : g.stack = As.reverse ++ .ref b :: rest) (hW : 2 * g.monitorRoom + (rest.map fun v => v.category).sum ≤ 8) (hdg : decode cc g.pc = .ok (.invokevirtual index, 3)) (hf : cells + mc ≤ R.cells ∧ slots + ms ≤ R.slots) :
    vx_Run p l e R s m args below meth c H locs cells slots mc ms g rest (Qc (Value.ref b :: As).toArray) XC free := by
  obtain ⟨⟨hrc, hrs, hfr, hlo, hws, hcw⟩, hcode, hini, hy, hlen, hl, hin, hse⟩ := cw
  have hK : vx_Back l R p e below s args y 3 8 (PreOf R mc ms Pc) (PostOf Qc mc ms free) (vx_Post XC mc ms free) := vx_backW (hh := hh) (bytes := bytes) (maxL := maxL) (ret := ret) hM hp.1 hrc hrs hfr hlo hws hcw (fun a' U hW => word_at hW (Or.inl (by first | rfl | simp [Cond.onTables, Cond.keeps, Cond.steady])) hini)
  obtain ⟨hx, hb, hml, ho, -⟩ := S
  obtain ⟨-, ⟨cellB, hcB, hoB, hclB⟩, hPc⟩ := hp
  intro T hT X
  rcases vx_callVX X hx (C := C) (hh := hh) (bytes := bytes) (maxL := maxL) (ret := ret) ho hl hin hse hcode hy hK (by rw [hT]; exact hcB) hoB hclB hg (hsize.trans hml.symm) (argsL := As) (rest := rest) (fun sig h => hn.trans (hlen sig h)) hstack hW (by rw [hb]; exact hdg)
    (fun vm₁ hW₁ => ⟨hf.1, hf.2, hPc (T.setVm vm₁) hT hW₁⟩) with ⟨v, vm₁, ⟨U', l2, c2, s2⟩, hW₁, X', ⟨g', mk, t, L, e1, e2, hq, h1, hL, h2, h3⟩, st⟩ | ⟨q, vm₁, ⟨U', l2, c2, s2⟩, hW₁, X', ⟨g', mk, t, L, E, ce, e1, e2, hq, hce, hcv, hcl, h1, hL, h2, h3⟩, st⟩
  · dsimp only [Pt.U, Pt.locs, Pt.cells, Pt.slots] at X' e1 e2 h1 h2 h3 st
    subst h1; subst h2; subst h3
    exact Or.inl ⟨v, (T.setVm vm₁).calling g' mk (Value.ref b :: As).toArray, t, U', L, hT, X', hL, e1, e2, hq, st⟩
  · dsimp only [Pt.U, Pt.locs, Pt.cells, Pt.slots] at X' e1 e2 h1 h2 h3 st hcl
    subst h1; subst h2; subst h3
    exact Or.inr ⟨q, (T.setVm vm₁).calling g' mk (Value.ref b :: As).toArray, t, U', L, E, ce, hT, X', hL, e1, e2, hq, hce, hcv, vx_cls hW₁ hcl, st⟩
theorem vx_runSX {hh : List (Nat × Nat × Nat × Nat)} (S : CallFix p m c cc nL s args Ts own) (hM : vx_Met l y ws rm Pc Qc XC mc ms free) (cw : vx_CSW R s args own index y bytes maxL ret hh ws rm mc ms n) (hp : PreS s H Pc As)
    (hg : g.method = m) (hn : As.length = n) (hsize : g.locals.size = nL) (hstack : g.stack = As.reverse ++ rest) (hW : 2 * g.monitorRoom + (rest.map fun v => v.category).sum ≤ 8) (hdg : decode cc g.pc = .ok (.invokestatic index, 3)) (hf : cells + mc ≤ R.cells ∧ slots + ms ≤ R.slots) :
    vx_Run p l e R s m args below meth c H locs cells slots mc ms g rest (Qc As.toArray) XC free := by
  obtain ⟨⟨hrc, hrs, hfr, hlo, hws, hcw⟩, hcode, hini, hy, hlen, hl, hstt⟩ := cw
  have hK : vx_Back l R p e below s args y 3 8 (PreOf R mc ms Pc) (PostOf Qc mc ms free) (vx_Post XC mc ms free) := vx_backW (hh := hh) (bytes := bytes) (maxL := maxL) (ret := ret) hM hp.1 hrc hrs hfr hlo hws hcw (fun a' U hW => word_at hW (Or.inl (by first | rfl | simp [Cond.onTables, Cond.keeps, Cond.steady])) hini)
  obtain ⟨hx, hb, hml, ho, -⟩ := S
  intro T hT X
  rcases vx_callSX X hx (hh := hh) (bytes := bytes) (maxL := maxL) (ret := ret) ho hl hstt hini hcode hy hK hg (hsize.trans hml.symm) (argsL := As) (rest := rest) (fun sig h => hn.trans (hlen sig h)) hstack hW (by rw [hb]; exact hdg)
    (fun vm₁ hW₁ => ⟨hf.1, hf.2, hp.2 (T.setVm vm₁) hT hW₁⟩) with ⟨v, vm₁, ⟨U', l2, c2, s2⟩, hW₁, X', ⟨g', mk, t, L, e1, e2, hq, h1, hL, h2, h3⟩, st⟩ | ⟨q, vm₁, ⟨U', l2, c2, s2⟩, hW₁, X', ⟨g', mk, t, L, E, ce, e1, e2, hq, hce, hcv, hcl, h1, hL, h2, h3⟩, st⟩
  · dsimp only [Pt.U, Pt.locs, Pt.cells, Pt.slots] at X' e1 e2 h1 h2 h3 st
    subst h1; subst h2; subst h3
    exact Or.inl ⟨v, (T.setVm vm₁).calling g' mk As.toArray, t, U', L, hT, X', hL, e1, e2, hq, st⟩
  · dsimp only [Pt.U, Pt.locs, Pt.cells, Pt.slots] at X' e1 e2 h1 h2 h3 st hcl
    subst h1; subst h2; subst h3
    exact Or.inr ⟨q, (T.setVm vm₁).calling g' mk As.toArray, t, U', L, E, ce, hT, X', hL, e1, e2, hq, hce, hcv, vx_cls hW₁ hcl, st⟩
end
end VXH
theorem vx_ofWH {l : Launch} {y : MethodName} {ws ws' : List Cond} {rm : Room} {Pc : Array Value → State → Prop} {Qc : Array Value → State → Outcome → State → Prop} {XC : String → State → State → Prop} {mc ms : Nat} {free : Addr → Prop} {cc : ByteArray} {maxL : Nat} {ret : Option FieldType} {hh : List (Nat × Nat × Nat × Nat)}
    (hy : plainName y.cls = true) (hw : ws = Cond.codeWith y cc maxL ret hh :: ws')
    (body : ∀ p e s m args below meth c s₁, BodyLoose p l y (headSpec ws rm) cc maxL ret e s m args below meth c s₁ → c.maxLocals = maxL → Pc args s →
      W p l e (headSpec ws rm).room s m args below meth c s.heap [] 0 0 (vx_MQ below Qc XC args s mc ms free) (entryFrame m args maxL)) : vx_Met l y ws rm Pc Qc XC mc ms free := by
  refine MetFree.of_bodyS (code := cc) (maxLocals := maxL) (ret := ret) hy ?_ ?_
  · intro args s m h hn
    obtain ⟨m9, meth, c, hn9, h1, h2, h3, h4, -, h5, h6, -⟩ := Cond.codeWith_spec (atoms_spec (ws := ws) h _ (by rw [hw]; exact List.mem_cons_self))
    cases hn.symm.trans hn9
    exact ⟨meth, c, h1, h2, h3, h4, h5, h6⟩
  · intro p e s m args below meth c s₁ B hml hP _
    have hh0 : s₁.heap = s.heap := by rw [B.state]; rfl
    obtain ⟨t, a1, o, b1, b2, b3⟩ := body p e s m args below meth c s₁ B hml hP s₁ hh0 (Stand.of_body B)
    exact ⟨t, o, a1, b1, b2, b3⟩
/-! ===== END ===== -/

/-! ===== BEGIN printed: names, fields, word lists, decode rows ===== -/
end
section
def RX0 : String := "VineWall$Wall"
def TX0 : u_T := fun k => match k with
  | 0 => ("VineWall$Wall", "leafRows", "[I", true)
  | _ => ("VineWall$Wall", "cutRows", "[I", true)
def tyX0 : Nat → FieldType := fun k => match k with
  | 0 => .array .int
  | _ => .array .int
abbrev wsX00 : List Cond := u_ws RX0 TX0 2
theorem nmX0 : ∀ a, a < 2 → ∀ b, b < 2 → a ≠ b → (TX0 a).2.1 ≠ (TX0 b).2.1 := by decide +kernel
theorem tyX0_ok : ∀ k, k < 2 → parseFieldDescriptor (TX0 k).2.2.1 = some (tyX0 k) := by decide +kernel
abbrev cX0_init : ByteArray := prog_2_method_1_code
def yX0_init : MethodName := ⟨RX0, "<init>", "()V"⟩
abbrev cX0_hasLeafAt : ByteArray := prog_2_method_2_code
def yX0_hasLeafAt : MethodName := ⟨RX0, "hasLeafAt", "(II)Z"⟩
abbrev cX0_isBareAt : ByteArray := prog_2_method_3_code
def yX0_isBareAt : MethodName := ⟨RX0, "isBareAt", "(II)Z"⟩
abbrev cX0_hasCuts : ByteArray := prog_2_method_4_code
def yX0_hasCuts : MethodName := ⟨RX0, "hasCuts", "()Z"⟩
abbrev cX0_putLeaf : ByteArray := prog_2_method_5_code
def yX0_putLeaf : MethodName := ⟨RX0, "putLeaf", "(II)V"⟩
abbrev cX0_cutLeaf : ByteArray := prog_2_method_6_code
def yX0_cutLeaf : MethodName := ⟨RX0, "cutLeaf", "(II)V"⟩
abbrev cX0_strip : ByteArray := prog_2_method_7_code
def yX0_strip : MethodName := ⟨RX0, "strip", "()V"⟩
abbrev cX0_copyFrom : ByteArray := prog_2_method_8_code
def yX0_copyFrom : MethodName := ⟨RX0, "copyFrom", "(LVineWall$Wall;)V"⟩
abbrev cX0_shadeAt : ByteArray := prog_2_method_9_code
def yX0_shadeAt : MethodName := ⟨RX0, "shadeAt", "(II)I"⟩
abbrev cX0_holdersAt : ByteArray := prog_2_method_10_code
def yX0_holdersAt : MethodName := ⟨RX0, "holdersAt", "(III)I"⟩
abbrev cX0_neighboursAt : ByteArray := prog_2_method_11_code
def yX0_neighboursAt : MethodName := ⟨RX0, "neighboursAt", "(III)I"⟩
abbrev cX0_countInColumn : ByteArray := prog_2_method_12_code
def yX0_countInColumn : MethodName := ⟨RX0, "countInColumn", "(I)I"⟩
abbrev cX0_countLeaves : ByteArray := prog_2_method_13_code
def yX0_countLeaves : MethodName := ⟨RX0, "countLeaves", "()I"⟩
abbrev cX0_countLit : ByteArray := prog_2_method_14_code
def yX0_countLit : MethodName := ⟨RX0, "countLit", "()I"⟩
abbrev cX0_leavesOfHalf : ByteArray := prog_2_method_15_code
def yX0_leavesOfHalf : MethodName := ⟨RX0, "leavesOfHalf", "(I)J"⟩
abbrev cX0_becomeNextOf : ByteArray := prog_2_method_16_code
def yX0_becomeNextOf : MethodName := ⟨RX0, "becomeNextOf", "(LVineWall$Wall;I[I)I"⟩
abbrev cX0_leafRowNext : ByteArray := prog_2_method_17_code
def yX0_leafRowNext : MethodName := ⟨RX0, "leafRowNext", "(II)I"⟩
abbrev cX0_bearsLeafNext : ByteArray := prog_2_method_18_code
def yX0_bearsLeafNext : MethodName := ⟨RX0, "bearsLeafNext", "(IIII)Z"⟩
abbrev cX0_takeTopmost : ByteArray := prog_2_method_19_code
def yX0_takeTopmost : MethodName := ⟨RX0, "takeTopmost", "(II)I"⟩
abbrev cX0_takeLeaf : ByteArray := prog_2_method_20_code
def yX0_takeLeaf : MethodName := ⟨RX0, "takeLeaf", "(II)V"⟩
abbrev cX0_hasCutAt : ByteArray := prog_2_method_21_code
def yX0_hasCutAt : MethodName := ⟨RX0, "hasCutAt", "(II)Z"⟩
abbrev cX0_leafRow : ByteArray := prog_2_method_22_code
def yX0_leafRow : MethodName := ⟨RX0, "leafRow", "(I)I"⟩
abbrev cX0_countHolders : ByteArray := prog_2_method_23_code
def yX0_countHolders : MethodName := ⟨RX0, "countHolders", "(I)I"⟩
abbrev cX0_countNeighbours : ByteArray := prog_2_method_24_code
def yX0_countNeighbours : MethodName := ⟨RX0, "countNeighbours", "(III)I"⟩
abbrev cX0_leafRowAsSeen : ByteArray := prog_2_method_25_code
def yX0_leafRowAsSeen : MethodName := ⟨RX0, "leafRowAsSeen", "(II)I"⟩
def RX1 : String := "VineWall"
def TX1 : u_T := fun k => match k with
  | 0 => ("VineWall", "wall", "LVineWall$Wall;", true)
  | 1 => ("VineWall", "trial", "LVineWall$Wall;", true)
  | 2 => ("VineWall", "behind", "LVineWall$Wall;", true)
  | 3 => ("VineWall", "lowerHalves", "[J", true)
  | 4 => ("VineWall", "upperHalves", "[J", true)
  | 5 => ("VineWall", "bearings", "[I", true)
  | 6 => ("VineWall", "beyond", "I", false)
  | 7 => ("VineWall", "planted", "I", false)
  | 8 => ("VineWall", "cutsDone", "I", false)
  | 9 => ("VineWall", "generationsGone", "I", false)
  | _ => ("VineWall", "fallen", "I", false)
def tyX1 : Nat → FieldType := fun k => match k with
  | 0 => .object "VineWall$Wall"
  | 1 => .object "VineWall$Wall"
  | 2 => .object "VineWall$Wall"
  | 3 => .array .long
  | 4 => .array .long
  | 5 => .array .int
  | 6 => .int
  | 7 => .int
  | 8 => .int
  | 9 => .int
  | _ => .int
abbrev wsX10 : List Cond := u_ws RX1 TX1 11
theorem nmX1 : ∀ a, a < 11 → ∀ b, b < 11 → a ≠ b → (TX1 a).2.1 ≠ (TX1 b).2.1 := by decide +kernel
theorem tyX1_ok : ∀ k, k < 11 → parseFieldDescriptor (TX1 k).2.2.1 = some (tyX1 k) := by decide +kernel
abbrev cX1_init : ByteArray := prog_1_method_1_code
def yX1_init : MethodName := ⟨RX1, "<init>", "()V"⟩
abbrev cX1_sides : ByteArray := prog_1_method_2_code
def yX1_sides : MethodName := ⟨RX1, "sides", "(I)V"⟩
abbrev cX1_plant : ByteArray := prog_1_method_3_code
def yX1_plant : MethodName := ⟨RX1, "plant", "(I)V"⟩
abbrev cX1_trellis : ByteArray := prog_1_method_4_code
def yX1_trellis : MethodName := ⟨RX1, "trellis", "(II)I"⟩
abbrev cX1_cut : ByteArray := prog_1_method_5_code
def yX1_cut : MethodName := ⟨RX1, "cut", "(II)I"⟩
abbrev cX1_grow : ByteArray := prog_1_method_6_code
def yX1_grow : MethodName := ⟨RX1, "grow", "()I"⟩
abbrev cX1_look : ByteArray := prog_1_method_7_code
def yX1_look : MethodName := ⟨RX1, "look", "(II)C"⟩
abbrev cX1_shadeOf : ByteArray := prog_1_method_8_code
def yX1_shadeOf : MethodName := ⟨RX1, "shadeOf", "(II)I"⟩
abbrev cX1_holdersOf : ByteArray := prog_1_method_9_code
def yX1_holdersOf : MethodName := ⟨RX1, "holdersOf", "(II)I"⟩
abbrev cX1_neighboursOf : ByteArray := prog_1_method_10_code
def yX1_neighboursOf : MethodName := ⟨RX1, "neighboursOf", "(II)I"⟩
abbrev cX1_leavesIn : ByteArray := prog_1_method_11_code
def yX1_leavesIn : MethodName := ⟨RX1, "leavesIn", "(I)I"⟩
abbrev cX1_leaves : ByteArray := prog_1_method_12_code
def yX1_leaves : MethodName := ⟨RX1, "leaves", "()I"⟩
abbrev cX1_lit : ByteArray := prog_1_method_13_code
def yX1_lit : MethodName := ⟨RX1, "lit", "()I"⟩
abbrev cX1_generation : ByteArray := prog_1_method_14_code
def yX1_generation : MethodName := ⟨RX1, "generation", "()I"⟩
abbrev cX1_cutsLeft : ByteArray := prog_1_method_15_code
def yX1_cutsLeft : MethodName := ⟨RX1, "cutsLeft", "()I"⟩
abbrev cX1_broken : ByteArray := prog_1_method_16_code
def yX1_broken : MethodName := ⟨RX1, "broken", "()I"⟩
abbrev cX1_leavesNext : ByteArray := prog_1_method_17_code
def yX1_leavesNext : MethodName := ⟨RX1, "leavesNext", "()I"⟩
abbrev cX1_repeatsIn : ByteArray := prog_1_method_18_code
def yX1_repeatsIn : MethodName := ⟨RX1, "repeatsIn", "()I"⟩
abbrev cX1_bestCut : ByteArray := prog_1_method_19_code
def yX1_bestCut : MethodName := ⟨RX1, "bestCut", "()I"⟩
abbrev cX1_clear : ByteArray := prog_1_method_20_code
def yX1_clear : MethodName := ⟨RX1, "clear", "()V"⟩
abbrev cX1_litBehindCut : ByteArray := prog_1_method_21_code
def yX1_litBehindCut : MethodName := ⟨RX1, "litBehindCut", "(II)I"⟩
abbrev cX1_remember : ByteArray := prog_1_method_22_code
def yX1_remember : MethodName := ⟨RX1, "remember", "(I)V"⟩
abbrev cX1_looksAsBefore : ByteArray := prog_1_method_23_code
def yX1_looksAsBefore : MethodName := ⟨RX1, "looksAsBefore", "(II)Z"⟩
abbrev cX1_requireColumn : ByteArray := prog_1_method_24_code
def yX1_requireColumn : MethodName := ⟨RX1, "requireColumn", "(I)V"⟩
abbrev cX1_requireCell : ByteArray := prog_1_method_25_code
def yX1_requireCell : MethodName := ⟨RX1, "requireCell", "(II)V"⟩
abbrev cX1_isCell : ByteArray := prog_1_method_26_code
def yX1_isCell : MethodName := ⟨RX1, "isCell", "(II)Z"⟩
def RX2 : String := "VineWallModel"
def TX2 : u_T := fun k => match k with
  | 0 => ("VineWallModel", "walls", "[I", true)
  | 1 => ("VineWallModel", "bears", "[I", true)
  | 2 => ("VineWallModel", "side", "I", false)
  | 3 => ("VineWallModel", "generation", "I", false)
  | 4 => ("VineWallModel", "cuts", "I", false)
  | 5 => ("VineWallModel", "planted", "I", false)
  | 6 => ("VineWallModel", "broken", "I", false)
  | _ => ("VineWallModel", "thrown", "I", false)
def tyX2 : Nat → FieldType := fun k => match k with
  | 0 => .array .int
  | 1 => .array .int
  | 2 => .int
  | 3 => .int
  | 4 => .int
  | 5 => .int
  | 6 => .int
  | _ => .int
abbrev wsX20 : List Cond := u_ws RX2 TX2 8
theorem nmX2 : ∀ a, a < 8 → ∀ b, b < 8 → a ≠ b → (TX2 a).2.1 ≠ (TX2 b).2.1 := by decide +kernel
theorem tyX2_ok : ∀ k, k < 8 → parseFieldDescriptor (TX2 k).2.2.1 = some (tyX2 k) := by decide +kernel
abbrev cX2_init : ByteArray := prog_4_method_1_code
def yX2_init : MethodName := ⟨RX2, "<init>", "()V"⟩
abbrev cX2_thrown : ByteArray := prog_4_method_2_code
def yX2_thrown : MethodName := ⟨RX2, "thrown", "()I"⟩
abbrev cX2_isColumn : ByteArray := prog_4_method_3_code
def yX2_isColumn : MethodName := ⟨RX2, "isColumn", "(I)Z"⟩
abbrev cX2_isCell : ByteArray := prog_4_method_4_code
def yX2_isCell : MethodName := ⟨RX2, "isCell", "(II)Z"⟩
abbrev cX2_leafAt : ByteArray := prog_4_method_5_code
def yX2_leafAt : MethodName := ⟨RX2, "leafAt", "(III)I"⟩
abbrev cX2_shade : ByteArray := prog_4_method_6_code
def yX2_shade : MethodName := ⟨RX2, "shade", "(III)I"⟩
abbrev cX2_threeIn : ByteArray := prog_4_method_7_code
def yX2_threeIn : MethodName := ⟨RX2, "threeIn", "(III)I"⟩
abbrev cX2_holders : ByteArray := prog_4_method_8_code
def yX2_holders : MethodName := ⟨RX2, "holders", "(III)I"⟩
abbrev cX2_neighbours : ByteArray := prog_4_method_9_code
def yX2_neighbours : MethodName := ⟨RX2, "neighbours", "(III)I"⟩
abbrev cX2_inColumn : ByteArray := prog_4_method_10_code
def yX2_inColumn : MethodName := ⟨RX2, "inColumn", "(II)I"⟩
abbrev cX2_allLeaves : ByteArray := prog_4_method_11_code
def yX2_allLeaves : MethodName := ⟨RX2, "allLeaves", "(I)I"⟩
abbrev cX2_allLit : ByteArray := prog_4_method_12_code
def yX2_allLit : MethodName := ⟨RX2, "allLit", "(I)I"⟩
abbrev cX2_becomes : ByteArray := prog_4_method_13_code
def yX2_becomes : MethodName := ⟨RX2, "becomes", "(III)I"⟩
abbrev cX2_breaks : ByteArray := prog_4_method_14_code
def yX2_breaks : MethodName := ⟨RX2, "breaks", "(I)I"⟩
abbrev cX2_grows : ByteArray := prog_4_method_15_code
def yX2_grows : MethodName := ⟨RX2, "grows", "(II)I"⟩
abbrev cX2_copies : ByteArray := prog_4_method_16_code
def yX2_copies : MethodName := ⟨RX2, "copies", "(II)V"⟩
abbrev cX2_sides : ByteArray := prog_4_method_17_code
def yX2_sides : MethodName := ⟨RX2, "sides", "(I)V"⟩
abbrev cX2_plant : ByteArray := prog_4_method_18_code
def yX2_plant : MethodName := ⟨RX2, "plant", "(I)V"⟩
abbrev cX2_trellis : ByteArray := prog_4_method_19_code
def yX2_trellis : MethodName := ⟨RX2, "trellis", "(II)I"⟩
abbrev cX2_cut : ByteArray := prog_4_method_20_code
def yX2_cut : MethodName := ⟨RX2, "cut", "(II)I"⟩
abbrev cX2_grow : ByteArray := prog_4_method_21_code
def yX2_grow : MethodName := ⟨RX2, "grow", "()I"⟩
abbrev cX2_clear : ByteArray := prog_4_method_22_code
def yX2_clear : MethodName := ⟨RX2, "clear", "()V"⟩
abbrev cX2_look : ByteArray := prog_4_method_23_code
def yX2_look : MethodName := ⟨RX2, "look", "(II)C"⟩
abbrev cX2_shadeOf : ByteArray := prog_4_method_24_code
def yX2_shadeOf : MethodName := ⟨RX2, "shadeOf", "(II)I"⟩
abbrev cX2_holdersOf : ByteArray := prog_4_method_25_code
def yX2_holdersOf : MethodName := ⟨RX2, "holdersOf", "(II)I"⟩
abbrev cX2_neighboursOf : ByteArray := prog_4_method_26_code
def yX2_neighboursOf : MethodName := ⟨RX2, "neighboursOf", "(II)I"⟩
abbrev cX2_leavesIn : ByteArray := prog_4_method_27_code
def yX2_leavesIn : MethodName := ⟨RX2, "leavesIn", "(I)I"⟩
abbrev cX2_leaves : ByteArray := prog_4_method_28_code
def yX2_leaves : MethodName := ⟨RX2, "leaves", "()I"⟩
abbrev cX2_lit : ByteArray := prog_4_method_29_code
def yX2_lit : MethodName := ⟨RX2, "lit", "()I"⟩
abbrev cX2_generation : ByteArray := prog_4_method_30_code
def yX2_generation : MethodName := ⟨RX2, "generation", "()I"⟩
abbrev cX2_cutsLeft : ByteArray := prog_4_method_31_code
def yX2_cutsLeft : MethodName := ⟨RX2, "cutsLeft", "()I"⟩
abbrev cX2_broken : ByteArray := prog_4_method_32_code
def yX2_broken : MethodName := ⟨RX2, "broken", "()I"⟩
abbrev cX2_leavesNext : ByteArray := prog_4_method_33_code
def yX2_leavesNext : MethodName := ⟨RX2, "leavesNext", "()I"⟩
abbrev cX2_areAlike : ByteArray := prog_4_method_34_code
def yX2_areAlike : MethodName := ⟨RX2, "areAlike", "(II)Z"⟩
abbrev cX2_repeatsIn : ByteArray := prog_4_method_35_code
def yX2_repeatsIn : MethodName := ⟨RX2, "repeatsIn", "()I"⟩
abbrev cX2_bestCut : ByteArray := prog_4_method_36_code
def yX2_bestCut : MethodName := ⟨RX2, "bestCut", "()I"⟩
def RJ6 : String := "java/lang/Integer"
def TJ6 : u_T := fun k => match k with
  | _ => ("", "", "", false)
def tyJ6 : Nat → FieldType := fun k => match k with
  | _ => .int
abbrev wsJ60 : List Cond := u_ws RJ6 TJ6 0
theorem nmJ6 : ∀ a, a < 0 → ∀ b, b < 0 → a ≠ b → (TJ6 a).2.1 ≠ (TJ6 b).2.1 := by decide +kernel
theorem tyJ6_ok : ∀ k, k < 0 → parseFieldDescriptor (TJ6 k).2.2.1 = some (tyJ6 k) := by decide +kernel
abbrev cJ6_bitCount_0f7a4 : ByteArray := prog_9_method_49_code
def yJ6_bitCount_0f7a4 : MethodName := ⟨RJ6, "bitCount", "(I)I"⟩
def RJ0 : String := "java/lang/String"
def TJ0 : u_T := fun k => match k with
  | _ => ("", "", "", false)
def tyJ0 : Nat → FieldType := fun k => match k with
  | _ => .int
abbrev wsJ00 : List Cond := u_ws RJ0 TJ0 0
theorem nmJ0 : ∀ a, a < 0 → ∀ b, b < 0 → a ≠ b → (TJ0 a).2.1 ≠ (TJ0 b).2.1 := by decide +kernel
theorem tyJ0_ok : ∀ k, k < 0 → parseFieldDescriptor (TJ0 k).2.2.1 = some (tyJ0 k) := by decide +kernel
def RL : String := "VineWallLaw"
abbrev cL_sides : ByteArray := method_3_code
def yL_sides : MethodName := ⟨RL, "sides", "(LVineWall;I)I"⟩
abbrev cL_plant : ByteArray := method_4_code
def yL_plant : MethodName := ⟨RL, "plant", "(LVineWall;I)I"⟩
abbrev cL_trellis : ByteArray := method_5_code
def yL_trellis : MethodName := ⟨RL, "trellis", "(LVineWall;II[J)I"⟩
abbrev cL_cut : ByteArray := method_6_code
def yL_cut : MethodName := ⟨RL, "cut", "(LVineWall;II[J)I"⟩
abbrev cL_grow : ByteArray := method_7_code
def yL_grow : MethodName := ⟨RL, "grow", "(LVineWall;[J)I"⟩
abbrev cL_look : ByteArray := method_8_code
def yL_look : MethodName := ⟨RL, "look", "(LVineWall;II[J)I"⟩
abbrev cL_shadeOf : ByteArray := method_9_code
def yL_shadeOf : MethodName := ⟨RL, "shadeOf", "(LVineWall;II[J)I"⟩
abbrev cL_holdersOf : ByteArray := method_10_code
def yL_holdersOf : MethodName := ⟨RL, "holdersOf", "(LVineWall;II[J)I"⟩
abbrev cL_neighboursOf : ByteArray := method_11_code
def yL_neighboursOf : MethodName := ⟨RL, "neighboursOf", "(LVineWall;II[J)I"⟩
abbrev cL_leavesIn : ByteArray := method_12_code
def yL_leavesIn : MethodName := ⟨RL, "leavesIn", "(LVineWall;I[J)I"⟩
abbrev cL_law : ByteArray := code
def yL_law : MethodName := ⟨RL, "law", "([I)Z"⟩
def wsX0_init : List Cond := .code yX0_init cX0_init 1 none :: ([.methodLink RX0 3 objectInit, .instanceMethod objectInit, .code objectInit ⟨#[0xb1]⟩ 1 none, .arrayClass .int, .fieldLink RX0 9 "VineWall$Wall" "leafRows" "[I", .fieldLink RX0 15 "VineWall$Wall" "cutRows" "[I"] ++ wsX00)
def wsX0_leafRow : List Cond := .code yX0_leafRow cX0_leafRow 2 (some .int) :: ([.fieldLink RX0 9 "VineWall$Wall" "leafRows" "[I"] ++ wsX00)
def wsX0_hasLeafAt : List Cond := .code yX0_hasLeafAt cX0_hasLeafAt 3 (some .boolean) :: ([.methodLink RX0 18 yX0_leafRow, .instanceMethod yX0_leafRow, .selects RX0 yX0_leafRow yX0_leafRow, .initialized RX0, .code yX0_leafRow cX0_leafRow 2 (some .int), .fieldLink RX0 9 "VineWall$Wall" "leafRows" "[I"] ++ wsX00)
def wsX0_hasCutAt : List Cond := .code yX0_hasCutAt cX0_hasCutAt 3 (some .boolean) :: ([.fieldLink RX0 15 "VineWall$Wall" "cutRows" "[I"] ++ wsX00)
def wsX0_isBareAt : List Cond := .code yX0_isBareAt cX0_isBareAt 3 (some .boolean) :: ([.methodLink RX0 22 yX0_hasLeafAt, .instanceMethod yX0_hasLeafAt, .selects RX0 yX0_hasLeafAt yX0_hasLeafAt, .initialized RX0, .code yX0_hasLeafAt cX0_hasLeafAt 3 (some .boolean), .methodLink RX0 18 yX0_leafRow, .instanceMethod yX0_leafRow, .selects RX0 yX0_leafRow yX0_leafRow, .code yX0_leafRow cX0_leafRow 2 (some .int), .fieldLink RX0 9 "VineWall$Wall" "leafRows" "[I", .methodLink RX0 26 yX0_hasCutAt, .instanceMethod yX0_hasCutAt, .selects RX0 yX0_hasCutAt yX0_hasCutAt, .code yX0_hasCutAt cX0_hasCutAt 3 (some .boolean), .fieldLink RX0 15 "VineWall$Wall" "cutRows" "[I"] ++ wsX00)
def wsX0_hasCuts : List Cond := .code yX0_hasCuts cX0_hasCuts 3 (some .boolean) :: ([.fieldLink RX0 15 "VineWall$Wall" "cutRows" "[I"] ++ wsX00)
def wsX1_isCell : List Cond := .code yX1_isCell cX1_isCell 2 (some .boolean) :: ([])
def wsX0_putLeaf : List Cond := .code yX0_putLeaf cX0_putLeaf 3 none :: ([.fieldLink RX0 9 "VineWall$Wall" "leafRows" "[I", .static yX1_isCell, .initialized RX1, .code yX1_isCell cX1_isCell 2 (some .boolean)] ++ wsX00)
def wsX0_takeLeaf : List Cond := .code yX0_takeLeaf cX0_takeLeaf 3 none :: ([.fieldLink RX0 9 "VineWall$Wall" "leafRows" "[I", .static yX1_isCell, .initialized RX1, .code yX1_isCell cX1_isCell 2 (some .boolean)] ++ wsX00)
def wsX0_cutLeaf : List Cond := .code yX0_cutLeaf cX0_cutLeaf 3 none :: ([.fieldLink RX0 15 "VineWall$Wall" "cutRows" "[I", .methodLink RX0 32 yX0_takeLeaf, .instanceMethod yX0_takeLeaf, .selects RX0 yX0_takeLeaf yX0_takeLeaf, .initialized RX0, .code yX0_takeLeaf cX0_takeLeaf 3 none, .fieldLink RX0 9 "VineWall$Wall" "leafRows" "[I", .static yX1_isCell, .initialized RX1, .code yX1_isCell cX1_isCell 2 (some .boolean)] ++ wsX00)
def wsX0_strip : List Cond := .code yX0_strip cX0_strip 2 none :: ([.fieldLink RX0 9 "VineWall$Wall" "leafRows" "[I", .fieldLink RX0 15 "VineWall$Wall" "cutRows" "[I"] ++ wsX00)
def wsX0_copyFrom : List Cond := .code yX0_copyFrom cX0_copyFrom 3 none :: ([.fieldLink RX0 9 "VineWall$Wall" "leafRows" "[I", .fieldLink RX0 15 "VineWall$Wall" "cutRows" "[I"] ++ wsX00)
def wsX0_shadeAt : List Cond := .code yX0_shadeAt cX0_shadeAt 5 (some .int) :: ([.methodLink RX0 18 yX0_leafRow, .instanceMethod yX0_leafRow, .selects RX0 yX0_leafRow yX0_leafRow, .initialized RX0, .code yX0_leafRow cX0_leafRow 2 (some .int), .fieldLink RX0 9 "VineWall$Wall" "leafRows" "[I"] ++ wsX00)
def wsX0_leafRowAsSeen : List Cond := .code yX0_leafRowAsSeen cX0_leafRowAsSeen 7 (some .int) :: ([.methodLink RX0 18 yX0_leafRow, .instanceMethod yX0_leafRow, .selects RX0 yX0_leafRow yX0_leafRow, .initialized RX0, .code yX0_leafRow cX0_leafRow 2 (some .int), .fieldLink RX0 9 "VineWall$Wall" "leafRows" "[I"] ++ wsX00)
def wsJ6_bitCount_0f7a4 : List Cond := .code yJ6_bitCount_0f7a4 cJ6_bitCount_0f7a4 1 (some .int) :: ([.constant RJ6 265 (1431655765), .constant RJ6 266 (858993459), .constant RJ6 267 (252645135)])
def wsX0_countHolders : List Cond := .code yX0_countHolders cX0_countHolders 1 (some .int) :: ([.methodLink RX0 50 yJ6_bitCount_0f7a4, .static yJ6_bitCount_0f7a4, .initialized RJ6, .code yJ6_bitCount_0f7a4 cJ6_bitCount_0f7a4 1 (some .int), .constant RJ6 265 (1431655765), .constant RJ6 266 (858993459), .constant RJ6 267 (252645135)])
def wsX0_holdersAt : List Cond := .code yX0_holdersAt cX0_holdersAt 4 (some .int) :: ([.methodLink RX0 36 yX0_leafRowAsSeen, .instanceMethod yX0_leafRowAsSeen, .selects RX0 yX0_leafRowAsSeen yX0_leafRowAsSeen, .initialized RX0, .code yX0_leafRowAsSeen cX0_leafRowAsSeen 7 (some .int), .methodLink RX0 18 yX0_leafRow, .instanceMethod yX0_leafRow, .selects RX0 yX0_leafRow yX0_leafRow, .code yX0_leafRow cX0_leafRow 2 (some .int), .fieldLink RX0 9 "VineWall$Wall" "leafRows" "[I", .methodLink RX0 40 yX0_countHolders, .static yX0_countHolders, .code yX0_countHolders cX0_countHolders 1 (some .int), .methodLink RX0 50 yJ6_bitCount_0f7a4, .static yJ6_bitCount_0f7a4, .initialized RJ6, .code yJ6_bitCount_0f7a4 cJ6_bitCount_0f7a4 1 (some .int), .constant RJ6 265 (1431655765), .constant RJ6 266 (858993459), .constant RJ6 267 (252645135)] ++ wsX00)
def wsX0_countNeighbours : List Cond := .code yX0_countNeighbours cX0_countNeighbours 3 (some .int) :: ([.methodLink RX0 50 yJ6_bitCount_0f7a4, .static yJ6_bitCount_0f7a4, .initialized RJ6, .code yJ6_bitCount_0f7a4 cJ6_bitCount_0f7a4 1 (some .int), .constant RJ6 265 (1431655765), .constant RJ6 266 (858993459), .constant RJ6 267 (252645135)])
def wsX0_neighboursAt : List Cond := .code yX0_neighboursAt cX0_neighboursAt 4 (some .int) :: ([.methodLink RX0 36 yX0_leafRowAsSeen, .instanceMethod yX0_leafRowAsSeen, .selects RX0 yX0_leafRowAsSeen yX0_leafRowAsSeen, .initialized RX0, .code yX0_leafRowAsSeen cX0_leafRowAsSeen 7 (some .int), .methodLink RX0 18 yX0_leafRow, .instanceMethod yX0_leafRow, .selects RX0 yX0_leafRow yX0_leafRow, .code yX0_leafRow cX0_leafRow 2 (some .int), .fieldLink RX0 9 "VineWall$Wall" "leafRows" "[I", .methodLink RX0 43 yX0_countNeighbours, .static yX0_countNeighbours, .code yX0_countNeighbours cX0_countNeighbours 3 (some .int), .methodLink RX0 50 yJ6_bitCount_0f7a4, .static yJ6_bitCount_0f7a4, .initialized RJ6, .code yJ6_bitCount_0f7a4 cJ6_bitCount_0f7a4 1 (some .int), .constant RJ6 265 (1431655765), .constant RJ6 266 (858993459), .constant RJ6 267 (252645135)] ++ wsX00)
def wsX0_countInColumn : List Cond := .code yX0_countInColumn cX0_countInColumn 2 (some .int) :: ([.methodLink RX0 47 yX0_shadeAt, .instanceMethod yX0_shadeAt, .selects RX0 yX0_shadeAt yX0_shadeAt, .initialized RX0, .code yX0_shadeAt cX0_shadeAt 5 (some .int), .methodLink RX0 18 yX0_leafRow, .instanceMethod yX0_leafRow, .selects RX0 yX0_leafRow yX0_leafRow, .code yX0_leafRow cX0_leafRow 2 (some .int), .fieldLink RX0 9 "VineWall$Wall" "leafRows" "[I"] ++ wsX00)
def wsX0_countLeaves : List Cond := .code yX0_countLeaves cX0_countLeaves 3 (some .int) :: ([.fieldLink RX0 9 "VineWall$Wall" "leafRows" "[I", .methodLink RX0 50 yJ6_bitCount_0f7a4, .static yJ6_bitCount_0f7a4, .initialized RJ6, .code yJ6_bitCount_0f7a4 cJ6_bitCount_0f7a4 1 (some .int), .constant RJ6 265 (1431655765), .constant RJ6 266 (858993459), .constant RJ6 267 (252645135)] ++ wsX00)
def wsX0_countLit : List Cond := .code yX0_countLit cX0_countLit 3 (some .int) :: ([.fieldLink RX0 9 "VineWall$Wall" "leafRows" "[I", .methodLink RX0 50 yJ6_bitCount_0f7a4, .static yJ6_bitCount_0f7a4, .initialized RJ6, .code yJ6_bitCount_0f7a4 cJ6_bitCount_0f7a4 1 (some .int), .constant RJ6 265 (1431655765), .constant RJ6 266 (858993459), .constant RJ6 267 (252645135)] ++ wsX00)
def wsX0_leavesOfHalf : List Cond := .code yX0_leavesOfHalf cX0_leavesOfHalf 5 (some .long) :: ([.methodLink RX0 18 yX0_leafRow, .instanceMethod yX0_leafRow, .selects RX0 yX0_leafRow yX0_leafRow, .initialized RX0, .code yX0_leafRow cX0_leafRow 2 (some .int), .fieldLink RX0 9 "VineWall$Wall" "leafRows" "[I"] ++ wsX00)
def wsX0_bearsLeafNext : List Cond := .code yX0_bearsLeafNext cX0_bearsLeafNext 6 (some .boolean) :: ([.methodLink RX0 26 yX0_hasCutAt, .instanceMethod yX0_hasCutAt, .selects RX0 yX0_hasCutAt yX0_hasCutAt, .initialized RX0, .code yX0_hasCutAt cX0_hasCutAt 3 (some .boolean), .fieldLink RX0 15 "VineWall$Wall" "cutRows" "[I", .methodLink RX0 47 yX0_shadeAt, .instanceMethod yX0_shadeAt, .selects RX0 yX0_shadeAt yX0_shadeAt, .code yX0_shadeAt cX0_shadeAt 5 (some .int), .methodLink RX0 18 yX0_leafRow, .instanceMethod yX0_leafRow, .selects RX0 yX0_leafRow yX0_leafRow, .code yX0_leafRow cX0_leafRow 2 (some .int), .fieldLink RX0 9 "VineWall$Wall" "leafRows" "[I", .methodLink RX0 22 yX0_hasLeafAt, .instanceMethod yX0_hasLeafAt, .selects RX0 yX0_hasLeafAt yX0_hasLeafAt, .code yX0_hasLeafAt cX0_hasLeafAt 3 (some .boolean)] ++ wsX00)
def wsX0_leafRowNext_r1 : List Cond := [Cond.methodLink RX0 18 yX0_leafRow, Cond.instanceMethod yX0_leafRow, Cond.selects RX0 yX0_leafRow yX0_leafRow, Cond.initialized RX0, Cond.code yX0_leafRow cX0_leafRow 2 (some .int), Cond.fieldLink RX0 9 "VineWall$Wall" "leafRows" "[I", Cond.methodLink RX0 36 yX0_leafRowAsSeen, Cond.instanceMethod yX0_leafRowAsSeen, Cond.selects RX0 yX0_leafRowAsSeen yX0_leafRowAsSeen, Cond.code yX0_leafRowAsSeen cX0_leafRowAsSeen 7 (some .int), Cond.methodLink RX0 40 yX0_countHolders, Cond.static yX0_countHolders, Cond.code yX0_countHolders cX0_countHolders 1 (some .int), Cond.methodLink RX0 50 yJ6_bitCount_0f7a4, Cond.static yJ6_bitCount_0f7a4, Cond.initialized RJ6, Cond.code yJ6_bitCount_0f7a4 cJ6_bitCount_0f7a4 1 (some .int), Cond.constant RJ6 265 (1431655765), Cond.constant RJ6 266 (858993459), Cond.constant RJ6 267 (252645135), Cond.methodLink RX0 43 yX0_countNeighbours, Cond.static yX0_countNeighbours, Cond.code yX0_countNeighbours cX0_countNeighbours 3 (some .int), Cond.methodLink RX0 64 yX0_bearsLeafNext]
def wsX0_leafRowNext_r2 : List Cond := [Cond.instanceMethod yX0_bearsLeafNext, Cond.selects RX0 yX0_bearsLeafNext yX0_bearsLeafNext, Cond.code yX0_bearsLeafNext cX0_bearsLeafNext 6 (some .boolean), Cond.methodLink RX0 26 yX0_hasCutAt, Cond.instanceMethod yX0_hasCutAt, Cond.selects RX0 yX0_hasCutAt yX0_hasCutAt, Cond.code yX0_hasCutAt cX0_hasCutAt 3 (some .boolean), Cond.fieldLink RX0 15 "VineWall$Wall" "cutRows" "[I", Cond.methodLink RX0 47 yX0_shadeAt, Cond.instanceMethod yX0_shadeAt, Cond.selects RX0 yX0_shadeAt yX0_shadeAt, Cond.code yX0_shadeAt cX0_shadeAt 5 (some .int), Cond.methodLink RX0 22 yX0_hasLeafAt, Cond.instanceMethod yX0_hasLeafAt, Cond.selects RX0 yX0_hasLeafAt yX0_hasLeafAt, Cond.code yX0_hasLeafAt cX0_hasLeafAt 3 (some .boolean)]
def wsX0_leafRowNext : List Cond := .code yX0_leafRowNext cX0_leafRowNext 10 (some .int) :: ((wsX0_leafRowNext_r1 ++ wsX0_leafRowNext_r2) ++ wsX00)
def wsX0_takeTopmost : List Cond := .code yX0_takeTopmost cX0_takeTopmost 5 (some .int) :: ([.methodLink RX0 22 yX0_hasLeafAt, .instanceMethod yX0_hasLeafAt, .selects RX0 yX0_hasLeafAt yX0_hasLeafAt, .initialized RX0, .code yX0_hasLeafAt cX0_hasLeafAt 3 (some .boolean), .methodLink RX0 18 yX0_leafRow, .instanceMethod yX0_leafRow, .selects RX0 yX0_leafRow yX0_leafRow, .code yX0_leafRow cX0_leafRow 2 (some .int), .fieldLink RX0 9 "VineWall$Wall" "leafRows" "[I", .methodLink RX0 32 yX0_takeLeaf, .instanceMethod yX0_takeLeaf, .selects RX0 yX0_takeLeaf yX0_takeLeaf, .code yX0_takeLeaf cX0_takeLeaf 3 none, .static yX1_isCell, .initialized RX1, .code yX1_isCell cX1_isCell 2 (some .boolean)] ++ wsX00)
def wsX0_becomeNextOf_r1 : List Cond := [Cond.fieldLink RX0 9 "VineWall$Wall" "leafRows" "[I", Cond.fieldLink RX0 15 "VineWall$Wall" "cutRows" "[I", Cond.methodLink RX0 55 yX0_leafRowNext, Cond.instanceMethod yX0_leafRowNext, Cond.selects RX0 yX0_leafRowNext yX0_leafRowNext, Cond.initialized RX0, Cond.code yX0_leafRowNext cX0_leafRowNext 10 (some .int), Cond.methodLink RX0 18 yX0_leafRow, Cond.instanceMethod yX0_leafRow, Cond.selects RX0 yX0_leafRow yX0_leafRow, Cond.code yX0_leafRow cX0_leafRow 2 (some .int), Cond.methodLink RX0 36 yX0_leafRowAsSeen, Cond.instanceMethod yX0_leafRowAsSeen, Cond.selects RX0 yX0_leafRowAsSeen yX0_leafRowAsSeen, Cond.code yX0_leafRowAsSeen cX0_leafRowAsSeen 7 (some .int), Cond.methodLink RX0 40 yX0_countHolders, Cond.static yX0_countHolders, Cond.code yX0_countHolders cX0_countHolders 1 (some .int), Cond.methodLink RX0 50 yJ6_bitCount_0f7a4, Cond.static yJ6_bitCount_0f7a4, Cond.initialized RJ6, Cond.code yJ6_bitCount_0f7a4 cJ6_bitCount_0f7a4 1 (some .int), Cond.constant RJ6 265 (1431655765), Cond.constant RJ6 266 (858993459)]
def wsX0_becomeNextOf_r2 : List Cond := [Cond.constant RJ6 267 (252645135), Cond.methodLink RX0 43 yX0_countNeighbours, Cond.static yX0_countNeighbours, Cond.code yX0_countNeighbours cX0_countNeighbours 3 (some .int), Cond.methodLink RX0 64 yX0_bearsLeafNext, Cond.instanceMethod yX0_bearsLeafNext, Cond.selects RX0 yX0_bearsLeafNext yX0_bearsLeafNext, Cond.code yX0_bearsLeafNext cX0_bearsLeafNext 6 (some .boolean), Cond.methodLink RX0 26 yX0_hasCutAt, Cond.instanceMethod yX0_hasCutAt, Cond.selects RX0 yX0_hasCutAt yX0_hasCutAt, Cond.code yX0_hasCutAt cX0_hasCutAt 3 (some .boolean), Cond.methodLink RX0 47 yX0_shadeAt, Cond.instanceMethod yX0_shadeAt, Cond.selects RX0 yX0_shadeAt yX0_shadeAt, Cond.code yX0_shadeAt cX0_shadeAt 5 (some .int), Cond.methodLink RX0 22 yX0_hasLeafAt, Cond.instanceMethod yX0_hasLeafAt, Cond.selects RX0 yX0_hasLeafAt yX0_hasLeafAt, Cond.code yX0_hasLeafAt cX0_hasLeafAt 3 (some .boolean), Cond.methodLink RX0 58 yX0_countInColumn, Cond.instanceMethod yX0_countInColumn, Cond.selects RX0 yX0_countInColumn yX0_countInColumn, Cond.code yX0_countInColumn cX0_countInColumn 2 (some .int)]
def wsX0_becomeNextOf_r3 : List Cond := [Cond.methodLink RX0 61 yX0_takeTopmost, Cond.instanceMethod yX0_takeTopmost, Cond.selects RX0 yX0_takeTopmost yX0_takeTopmost, Cond.code yX0_takeTopmost cX0_takeTopmost 5 (some .int), Cond.methodLink RX0 32 yX0_takeLeaf, Cond.instanceMethod yX0_takeLeaf, Cond.selects RX0 yX0_takeLeaf yX0_takeLeaf, Cond.code yX0_takeLeaf cX0_takeLeaf 3 none, Cond.static yX1_isCell, Cond.initialized RX1, Cond.code yX1_isCell cX1_isCell 2 (some .boolean)]
def wsX0_becomeNextOf : List Cond := .code yX0_becomeNextOf cX0_becomeNextOf 6 (some .int) :: ((wsX0_becomeNextOf_r1 ++ (wsX0_becomeNextOf_r2 ++ wsX0_becomeNextOf_r3)) ++ wsX00)
def wsX1_init : List Cond := .code yX1_init cX1_init 2 none :: ([.methodLink RX1 1 objectInit, .instanceMethod objectInit, .code objectInit ⟨#[0xb1]⟩ 1 none, .classLink RX1 7 RX0, .instantiable RX0 2, .initialized RX0, .fieldLink RX1 10 "VineWall" "wall" "LVineWall$Wall;", .fieldLink RX1 16 "VineWall" "trial" "LVineWall$Wall;", .fieldLink RX1 19 "VineWall" "behind" "LVineWall$Wall;", .arrayClass .long, .fieldLink RX1 22 "VineWall" "lowerHalves" "[J", .fieldLink RX1 26 "VineWall" "upperHalves" "[J", .arrayClass .int, .fieldLink RX1 29 "VineWall" "bearings" "[I", .fieldLink RX1 33 "VineWall" "beyond" "I", .fieldLink RX1 37 "VineWall" "planted" "I", .fieldLink RX1 40 "VineWall" "cutsDone" "I", .fieldLink RX1 43 "VineWall" "generationsGone" "I", .fieldLink RX1 46 "VineWall" "fallen" "I", .instanceMethod yX0_init, .code yX0_init cX0_init 1 none, .methodLink RX0 3 objectInit, .fieldLink RX0 9 "VineWall$Wall" "leafRows" "[I", .fieldLink RX0 15 "VineWall$Wall" "cutRows" "[I"] ++ wsX00 ++ wsX10)
def wsX1_sides : List Cond := .code yX1_sides cX1_sides 2 none :: ([.classLink RX1 49 "java/lang/IllegalArgumentException", .initialized "java/lang/IllegalArgumentException", .classLink RX1 56 "java/lang/IllegalStateException", .initialized "java/lang/IllegalStateException", .fieldLink RX1 43 "VineWall" "generationsGone" "I", .fieldLink RX1 33 "VineWall" "beyond" "I"] ++ wsX10 ++ (vx_atS RX1 53 "java/lang/IllegalArgumentException" ["java/lang/RuntimeException", "java/lang/Exception"]).filter goodWord ++ (vx_atS RX1 60 "java/lang/IllegalStateException" ["java/lang/RuntimeException", "java/lang/Exception"]).filter goodWord)
def wsX1_requireColumn : List Cond := .code yX1_requireColumn cX1_requireColumn 1 none :: ([.classLink RX1 150 "java/lang/IndexOutOfBoundsException", .initialized "java/lang/IndexOutOfBoundsException"] ++ (vx_atS RX1 154 "java/lang/IndexOutOfBoundsException" ["java/lang/RuntimeException", "java/lang/Exception"]).filter goodWord)
def wsX1_plant_r1 : List Cond := [Cond.classLink RX1 56 "java/lang/IllegalStateException", Cond.initialized "java/lang/IllegalStateException", Cond.fieldLink RX1 10 "VineWall" "wall" "LVineWall$Wall;", Cond.fieldLink RX1 37 "VineWall" "planted" "I", Cond.methodLink RX1 61 yX1_requireColumn, Cond.static yX1_requireColumn, Cond.initialized RX1, Cond.code yX1_requireColumn cX1_requireColumn 1 none, Cond.classLink RX1 150 "java/lang/IndexOutOfBoundsException", Cond.initialized "java/lang/IndexOutOfBoundsException", Cond.methodLink RX1 65 yX0_isBareAt, Cond.instanceMethod yX0_isBareAt, Cond.selects RX0 yX0_isBareAt yX0_isBareAt, Cond.initialized RX0, Cond.code yX0_isBareAt cX0_isBareAt 3 (some .boolean), Cond.methodLink RX0 22 yX0_hasLeafAt, Cond.instanceMethod yX0_hasLeafAt, Cond.selects RX0 yX0_hasLeafAt yX0_hasLeafAt, Cond.code yX0_hasLeafAt cX0_hasLeafAt 3 (some .boolean), Cond.methodLink RX0 18 yX0_leafRow, Cond.instanceMethod yX0_leafRow, Cond.selects RX0 yX0_leafRow yX0_leafRow, Cond.code yX0_leafRow cX0_leafRow 2 (some .int), Cond.fieldLink RX0 9 "VineWall$Wall" "leafRows" "[I"]
def wsX1_plant_r2 : List Cond := [Cond.methodLink RX0 26 yX0_hasCutAt, Cond.instanceMethod yX0_hasCutAt, Cond.selects RX0 yX0_hasCutAt yX0_hasCutAt, Cond.code yX0_hasCutAt cX0_hasCutAt 3 (some .boolean), Cond.fieldLink RX0 15 "VineWall$Wall" "cutRows" "[I", Cond.methodLink RX1 73 yX0_putLeaf, Cond.instanceMethod yX0_putLeaf, Cond.selects RX0 yX0_putLeaf yX0_putLeaf, Cond.code yX0_putLeaf cX0_putLeaf 3 none, Cond.static yX1_isCell, Cond.code yX1_isCell cX1_isCell 2 (some .boolean)]
def wsX1_plant : List Cond := .code yX1_plant cX1_plant 2 none :: ((wsX1_plant_r1 ++ wsX1_plant_r2) ++ wsX10 ++ wsX00 ++ (vx_atS RX1 60 "java/lang/IllegalStateException" ["java/lang/RuntimeException", "java/lang/Exception"]).filter goodWord ++ (vx_atS RX1 154 "java/lang/IndexOutOfBoundsException" ["java/lang/RuntimeException", "java/lang/Exception"]).filter goodWord)
def wsX1_trellis : List Cond := .code yX1_trellis cX1_trellis 4 (some .int) :: ([.classLink RX1 49 "java/lang/IllegalArgumentException", .initialized "java/lang/IllegalArgumentException", .fieldLink RX1 29 "VineWall" "bearings" "[I", .methodLink RX1 61 yX1_requireColumn, .static yX1_requireColumn, .initialized RX1, .code yX1_requireColumn cX1_requireColumn 1 none, .classLink RX1 150 "java/lang/IndexOutOfBoundsException", .initialized "java/lang/IndexOutOfBoundsException"] ++ wsX10 ++ (vx_atS RX1 53 "java/lang/IllegalArgumentException" ["java/lang/RuntimeException", "java/lang/Exception"]).filter goodWord ++ (vx_atS RX1 154 "java/lang/IndexOutOfBoundsException" ["java/lang/RuntimeException", "java/lang/Exception"]).filter goodWord)
def wsX1_requireCell : List Cond := .code yX1_requireCell cX1_requireCell 2 none :: ([.classLink RX1 150 "java/lang/IndexOutOfBoundsException", .initialized "java/lang/IndexOutOfBoundsException", .methodLink RX1 155 yX1_isCell, .static yX1_isCell, .initialized RX1, .code yX1_isCell cX1_isCell 2 (some .boolean)] ++ (vx_atS RX1 154 "java/lang/IndexOutOfBoundsException" ["java/lang/RuntimeException", "java/lang/Exception"]).filter goodWord)
def wsX1_cutsLeft : List Cond := .code yX1_cutsLeft cX1_cutsLeft 1 (some .int) :: ([.fieldLink RX1 40 "VineWall" "cutsDone" "I"] ++ wsX10)
def wsX1_cut_r1 : List Cond := [Cond.classLink RX1 56 "java/lang/IllegalStateException", Cond.initialized "java/lang/IllegalStateException", Cond.fieldLink RX1 10 "VineWall" "wall" "LVineWall$Wall;", Cond.fieldLink RX1 40 "VineWall" "cutsDone" "I", Cond.methodLink RX1 79 yX1_requireCell, Cond.static yX1_requireCell, Cond.initialized RX1, Cond.code yX1_requireCell cX1_requireCell 2 none, Cond.classLink RX1 150 "java/lang/IndexOutOfBoundsException", Cond.initialized "java/lang/IndexOutOfBoundsException", Cond.methodLink RX1 155 yX1_isCell, Cond.static yX1_isCell, Cond.code yX1_isCell cX1_isCell 2 (some .boolean), Cond.methodLink RX1 82 yX0_hasLeafAt, Cond.instanceMethod yX0_hasLeafAt, Cond.selects RX0 yX0_hasLeafAt yX0_hasLeafAt, Cond.initialized RX0, Cond.code yX0_hasLeafAt cX0_hasLeafAt 3 (some .boolean), Cond.methodLink RX0 18 yX0_leafRow, Cond.instanceMethod yX0_leafRow, Cond.selects RX0 yX0_leafRow yX0_leafRow, Cond.code yX0_leafRow cX0_leafRow 2 (some .int), Cond.fieldLink RX0 9 "VineWall$Wall" "leafRows" "[I", Cond.methodLink RX1 87 yX1_cutsLeft]
def wsX1_cut_r2 : List Cond := [Cond.instanceMethod yX1_cutsLeft, Cond.selects RX1 yX1_cutsLeft yX1_cutsLeft, Cond.code yX1_cutsLeft cX1_cutsLeft 1 (some .int), Cond.methodLink RX1 93 yX0_cutLeaf, Cond.instanceMethod yX0_cutLeaf, Cond.selects RX0 yX0_cutLeaf yX0_cutLeaf, Cond.code yX0_cutLeaf cX0_cutLeaf 3 none, Cond.fieldLink RX0 15 "VineWall$Wall" "cutRows" "[I", Cond.methodLink RX0 32 yX0_takeLeaf, Cond.instanceMethod yX0_takeLeaf, Cond.selects RX0 yX0_takeLeaf yX0_takeLeaf, Cond.code yX0_takeLeaf cX0_takeLeaf 3 none]
def wsX1_cut : List Cond := .code yX1_cut cX1_cut 3 (some .int) :: ((wsX1_cut_r1 ++ wsX1_cut_r2) ++ wsX10 ++ wsX00 ++ (vx_atS RX1 60 "java/lang/IllegalStateException" ["java/lang/RuntimeException", "java/lang/Exception"]).filter goodWord ++ (vx_atS RX1 154 "java/lang/IndexOutOfBoundsException" ["java/lang/RuntimeException", "java/lang/Exception"]).filter goodWord)
def wsX1_leaves : List Cond := .code yX1_leaves cX1_leaves 1 (some .int) :: ([.fieldLink RX1 10 "VineWall" "wall" "LVineWall$Wall;", .methodLink RX1 124 yX0_countLeaves, .instanceMethod yX0_countLeaves, .selects RX0 yX0_countLeaves yX0_countLeaves, .initialized RX0, .code yX0_countLeaves cX0_countLeaves 3 (some .int), .fieldLink RX0 9 "VineWall$Wall" "leafRows" "[I", .methodLink RX0 50 yJ6_bitCount_0f7a4, .static yJ6_bitCount_0f7a4, .initialized RJ6, .code yJ6_bitCount_0f7a4 cJ6_bitCount_0f7a4 1 (some .int), .constant RJ6 265 (1431655765), .constant RJ6 266 (858993459), .constant RJ6 267 (252645135)] ++ wsX10 ++ wsX00)
def wsX1_grow_r1 : List Cond := [Cond.classLink RX1 56 "java/lang/IllegalStateException", Cond.initialized "java/lang/IllegalStateException", Cond.fieldLink RX1 43 "VineWall" "generationsGone" "I", Cond.fieldLink RX1 46 "VineWall" "fallen" "I", Cond.fieldLink RX1 19 "VineWall" "behind" "LVineWall$Wall;", Cond.fieldLink RX1 10 "VineWall" "wall" "LVineWall$Wall;", Cond.fieldLink RX1 33 "VineWall" "beyond" "I", Cond.fieldLink RX1 29 "VineWall" "bearings" "[I", Cond.fieldLink RX1 40 "VineWall" "cutsDone" "I", Cond.methodLink RX1 98 yX1_leaves, Cond.instanceMethod yX1_leaves, Cond.selects RX1 yX1_leaves yX1_leaves, Cond.initialized RX1, Cond.code yX1_leaves cX1_leaves 1 (some .int), Cond.methodLink RX1 124 yX0_countLeaves, Cond.instanceMethod yX0_countLeaves, Cond.selects RX0 yX0_countLeaves yX0_countLeaves, Cond.initialized RX0, Cond.code yX0_countLeaves cX0_countLeaves 3 (some .int), Cond.fieldLink RX0 9 "VineWall$Wall" "leafRows" "[I", Cond.methodLink RX0 50 yJ6_bitCount_0f7a4, Cond.static yJ6_bitCount_0f7a4, Cond.initialized RJ6, Cond.code yJ6_bitCount_0f7a4 cJ6_bitCount_0f7a4 1 (some .int)]
def wsX1_grow_r2 : List Cond := [Cond.constant RJ6 265 (1431655765), Cond.constant RJ6 266 (858993459), Cond.constant RJ6 267 (252645135), Cond.methodLink RX1 101 yX0_becomeNextOf, Cond.instanceMethod yX0_becomeNextOf, Cond.selects RX0 yX0_becomeNextOf yX0_becomeNextOf, Cond.code yX0_becomeNextOf cX0_becomeNextOf 6 (some .int), Cond.fieldLink RX0 15 "VineWall$Wall" "cutRows" "[I", Cond.methodLink RX0 55 yX0_leafRowNext, Cond.instanceMethod yX0_leafRowNext, Cond.selects RX0 yX0_leafRowNext yX0_leafRowNext, Cond.code yX0_leafRowNext cX0_leafRowNext 10 (some .int), Cond.methodLink RX0 18 yX0_leafRow, Cond.instanceMethod yX0_leafRow, Cond.selects RX0 yX0_leafRow yX0_leafRow, Cond.code yX0_leafRow cX0_leafRow 2 (some .int), Cond.methodLink RX0 36 yX0_leafRowAsSeen, Cond.instanceMethod yX0_leafRowAsSeen, Cond.selects RX0 yX0_leafRowAsSeen yX0_leafRowAsSeen, Cond.code yX0_leafRowAsSeen cX0_leafRowAsSeen 7 (some .int), Cond.methodLink RX0 40 yX0_countHolders, Cond.static yX0_countHolders, Cond.code yX0_countHolders cX0_countHolders 1 (some .int), Cond.methodLink RX0 43 yX0_countNeighbours]
def wsX1_grow_r3 : List Cond := [Cond.static yX0_countNeighbours, Cond.code yX0_countNeighbours cX0_countNeighbours 3 (some .int), Cond.methodLink RX0 64 yX0_bearsLeafNext, Cond.instanceMethod yX0_bearsLeafNext, Cond.selects RX0 yX0_bearsLeafNext yX0_bearsLeafNext, Cond.code yX0_bearsLeafNext cX0_bearsLeafNext 6 (some .boolean), Cond.methodLink RX0 26 yX0_hasCutAt, Cond.instanceMethod yX0_hasCutAt, Cond.selects RX0 yX0_hasCutAt yX0_hasCutAt, Cond.code yX0_hasCutAt cX0_hasCutAt 3 (some .boolean), Cond.methodLink RX0 47 yX0_shadeAt, Cond.instanceMethod yX0_shadeAt, Cond.selects RX0 yX0_shadeAt yX0_shadeAt, Cond.code yX0_shadeAt cX0_shadeAt 5 (some .int), Cond.methodLink RX0 22 yX0_hasLeafAt, Cond.instanceMethod yX0_hasLeafAt, Cond.selects RX0 yX0_hasLeafAt yX0_hasLeafAt, Cond.code yX0_hasLeafAt cX0_hasLeafAt 3 (some .boolean), Cond.methodLink RX0 58 yX0_countInColumn, Cond.instanceMethod yX0_countInColumn, Cond.selects RX0 yX0_countInColumn yX0_countInColumn, Cond.code yX0_countInColumn cX0_countInColumn 2 (some .int), Cond.methodLink RX0 61 yX0_takeTopmost, Cond.instanceMethod yX0_takeTopmost]
def wsX1_grow_r4 : List Cond := [Cond.selects RX0 yX0_takeTopmost yX0_takeTopmost, Cond.code yX0_takeTopmost cX0_takeTopmost 5 (some .int), Cond.methodLink RX0 32 yX0_takeLeaf, Cond.instanceMethod yX0_takeLeaf, Cond.selects RX0 yX0_takeLeaf yX0_takeLeaf, Cond.code yX0_takeLeaf cX0_takeLeaf 3 none, Cond.static yX1_isCell, Cond.code yX1_isCell cX1_isCell 2 (some .boolean), Cond.methodLink RX1 105 yX0_copyFrom, Cond.instanceMethod yX0_copyFrom, Cond.selects RX0 yX0_copyFrom yX0_copyFrom, Cond.code yX0_copyFrom cX0_copyFrom 3 none]
def wsX1_grow : List Cond := .code yX1_grow cX1_grow 2 (some .int) :: ((wsX1_grow_r1 ++ (wsX1_grow_r2 ++ (wsX1_grow_r3 ++ wsX1_grow_r4))) ++ wsX10 ++ wsX00 ++ (vx_atS RX1 60 "java/lang/IllegalStateException" ["java/lang/RuntimeException", "java/lang/Exception"]).filter goodWord)
def wsX1_look_r1 : List Cond := [Cond.fieldLink RX1 10 "VineWall" "wall" "LVineWall$Wall;", Cond.methodLink RX1 79 yX1_requireCell, Cond.static yX1_requireCell, Cond.initialized RX1, Cond.code yX1_requireCell cX1_requireCell 2 none, Cond.classLink RX1 150 "java/lang/IndexOutOfBoundsException", Cond.initialized "java/lang/IndexOutOfBoundsException", Cond.methodLink RX1 155 yX1_isCell, Cond.static yX1_isCell, Cond.code yX1_isCell cX1_isCell 2 (some .boolean), Cond.methodLink RX1 82 yX0_hasLeafAt, Cond.instanceMethod yX0_hasLeafAt, Cond.selects RX0 yX0_hasLeafAt yX0_hasLeafAt, Cond.initialized RX0, Cond.code yX0_hasLeafAt cX0_hasLeafAt 3 (some .boolean), Cond.methodLink RX0 18 yX0_leafRow, Cond.instanceMethod yX0_leafRow, Cond.selects RX0 yX0_leafRow yX0_leafRow, Cond.code yX0_leafRow cX0_leafRow 2 (some .int), Cond.fieldLink RX0 9 "VineWall$Wall" "leafRows" "[I", Cond.methodLink RX1 65 yX0_isBareAt, Cond.instanceMethod yX0_isBareAt, Cond.selects RX0 yX0_isBareAt yX0_isBareAt, Cond.code yX0_isBareAt cX0_isBareAt 3 (some .boolean)]
def wsX1_look_r2 : List Cond := [Cond.methodLink RX0 22 yX0_hasLeafAt, Cond.methodLink RX0 26 yX0_hasCutAt, Cond.instanceMethod yX0_hasCutAt, Cond.selects RX0 yX0_hasCutAt yX0_hasCutAt, Cond.code yX0_hasCutAt cX0_hasCutAt 3 (some .boolean), Cond.fieldLink RX0 15 "VineWall$Wall" "cutRows" "[I"]
def wsX1_look : List Cond := .code yX1_look cX1_look 3 (some .char) :: ((wsX1_look_r1 ++ wsX1_look_r2) ++ wsX10 ++ wsX00 ++ (vx_atS RX1 154 "java/lang/IndexOutOfBoundsException" ["java/lang/RuntimeException", "java/lang/Exception"]).filter goodWord)
def wsX1_shadeOf : List Cond := .code yX1_shadeOf cX1_shadeOf 3 (some .int) :: ([.fieldLink RX1 10 "VineWall" "wall" "LVineWall$Wall;", .methodLink RX1 79 yX1_requireCell, .static yX1_requireCell, .initialized RX1, .code yX1_requireCell cX1_requireCell 2 none, .classLink RX1 150 "java/lang/IndexOutOfBoundsException", .initialized "java/lang/IndexOutOfBoundsException", .methodLink RX1 155 yX1_isCell, .static yX1_isCell, .code yX1_isCell cX1_isCell 2 (some .boolean), .methodLink RX1 109 yX0_shadeAt, .instanceMethod yX0_shadeAt, .selects RX0 yX0_shadeAt yX0_shadeAt, .initialized RX0, .code yX0_shadeAt cX0_shadeAt 5 (some .int), .methodLink RX0 18 yX0_leafRow, .instanceMethod yX0_leafRow, .selects RX0 yX0_leafRow yX0_leafRow, .code yX0_leafRow cX0_leafRow 2 (some .int), .fieldLink RX0 9 "VineWall$Wall" "leafRows" "[I"] ++ wsX10 ++ wsX00 ++ (vx_atS RX1 154 "java/lang/IndexOutOfBoundsException" ["java/lang/RuntimeException", "java/lang/Exception"]).filter goodWord)
def wsX1_holdersOf_r1 : List Cond := [Cond.fieldLink RX1 10 "VineWall" "wall" "LVineWall$Wall;", Cond.fieldLink RX1 33 "VineWall" "beyond" "I", Cond.methodLink RX1 79 yX1_requireCell, Cond.static yX1_requireCell, Cond.initialized RX1, Cond.code yX1_requireCell cX1_requireCell 2 none, Cond.classLink RX1 150 "java/lang/IndexOutOfBoundsException", Cond.initialized "java/lang/IndexOutOfBoundsException", Cond.methodLink RX1 155 yX1_isCell, Cond.static yX1_isCell, Cond.code yX1_isCell cX1_isCell 2 (some .boolean), Cond.methodLink RX1 113 yX0_holdersAt, Cond.instanceMethod yX0_holdersAt, Cond.selects RX0 yX0_holdersAt yX0_holdersAt, Cond.initialized RX0, Cond.code yX0_holdersAt cX0_holdersAt 4 (some .int), Cond.methodLink RX0 36 yX0_leafRowAsSeen, Cond.instanceMethod yX0_leafRowAsSeen, Cond.selects RX0 yX0_leafRowAsSeen yX0_leafRowAsSeen, Cond.code yX0_leafRowAsSeen cX0_leafRowAsSeen 7 (some .int), Cond.methodLink RX0 18 yX0_leafRow, Cond.instanceMethod yX0_leafRow, Cond.selects RX0 yX0_leafRow yX0_leafRow, Cond.code yX0_leafRow cX0_leafRow 2 (some .int)]
def wsX1_holdersOf_r2 : List Cond := [Cond.fieldLink RX0 9 "VineWall$Wall" "leafRows" "[I", Cond.methodLink RX0 40 yX0_countHolders, Cond.static yX0_countHolders, Cond.code yX0_countHolders cX0_countHolders 1 (some .int), Cond.methodLink RX0 50 yJ6_bitCount_0f7a4, Cond.static yJ6_bitCount_0f7a4, Cond.initialized RJ6, Cond.code yJ6_bitCount_0f7a4 cJ6_bitCount_0f7a4 1 (some .int), Cond.constant RJ6 265 (1431655765), Cond.constant RJ6 266 (858993459), Cond.constant RJ6 267 (252645135)]
def wsX1_holdersOf : List Cond := .code yX1_holdersOf cX1_holdersOf 3 (some .int) :: ((wsX1_holdersOf_r1 ++ wsX1_holdersOf_r2) ++ wsX10 ++ wsX00 ++ (vx_atS RX1 154 "java/lang/IndexOutOfBoundsException" ["java/lang/RuntimeException", "java/lang/Exception"]).filter goodWord)
def wsX1_neighboursOf_r1 : List Cond := [Cond.fieldLink RX1 10 "VineWall" "wall" "LVineWall$Wall;", Cond.fieldLink RX1 33 "VineWall" "beyond" "I", Cond.methodLink RX1 79 yX1_requireCell, Cond.static yX1_requireCell, Cond.initialized RX1, Cond.code yX1_requireCell cX1_requireCell 2 none, Cond.classLink RX1 150 "java/lang/IndexOutOfBoundsException", Cond.initialized "java/lang/IndexOutOfBoundsException", Cond.methodLink RX1 155 yX1_isCell, Cond.static yX1_isCell, Cond.code yX1_isCell cX1_isCell 2 (some .boolean), Cond.methodLink RX1 117 yX0_neighboursAt, Cond.instanceMethod yX0_neighboursAt, Cond.selects RX0 yX0_neighboursAt yX0_neighboursAt, Cond.initialized RX0, Cond.code yX0_neighboursAt cX0_neighboursAt 4 (some .int), Cond.methodLink RX0 36 yX0_leafRowAsSeen, Cond.instanceMethod yX0_leafRowAsSeen, Cond.selects RX0 yX0_leafRowAsSeen yX0_leafRowAsSeen, Cond.code yX0_leafRowAsSeen cX0_leafRowAsSeen 7 (some .int), Cond.methodLink RX0 18 yX0_leafRow, Cond.instanceMethod yX0_leafRow, Cond.selects RX0 yX0_leafRow yX0_leafRow, Cond.code yX0_leafRow cX0_leafRow 2 (some .int)]
def wsX1_neighboursOf_r2 : List Cond := [Cond.fieldLink RX0 9 "VineWall$Wall" "leafRows" "[I", Cond.methodLink RX0 43 yX0_countNeighbours, Cond.static yX0_countNeighbours, Cond.code yX0_countNeighbours cX0_countNeighbours 3 (some .int), Cond.methodLink RX0 50 yJ6_bitCount_0f7a4, Cond.static yJ6_bitCount_0f7a4, Cond.initialized RJ6, Cond.code yJ6_bitCount_0f7a4 cJ6_bitCount_0f7a4 1 (some .int), Cond.constant RJ6 265 (1431655765), Cond.constant RJ6 266 (858993459), Cond.constant RJ6 267 (252645135)]
def wsX1_neighboursOf : List Cond := .code yX1_neighboursOf cX1_neighboursOf 3 (some .int) :: ((wsX1_neighboursOf_r1 ++ wsX1_neighboursOf_r2) ++ wsX10 ++ wsX00 ++ (vx_atS RX1 154 "java/lang/IndexOutOfBoundsException" ["java/lang/RuntimeException", "java/lang/Exception"]).filter goodWord)
def wsX1_leavesIn : List Cond := .code yX1_leavesIn cX1_leavesIn 2 (some .int) :: ([.fieldLink RX1 10 "VineWall" "wall" "LVineWall$Wall;", .methodLink RX1 61 yX1_requireColumn, .static yX1_requireColumn, .initialized RX1, .code yX1_requireColumn cX1_requireColumn 1 none, .classLink RX1 150 "java/lang/IndexOutOfBoundsException", .initialized "java/lang/IndexOutOfBoundsException", .methodLink RX1 120 yX0_countInColumn, .instanceMethod yX0_countInColumn, .selects RX0 yX0_countInColumn yX0_countInColumn, .initialized RX0, .code yX0_countInColumn cX0_countInColumn 2 (some .int), .methodLink RX0 47 yX0_shadeAt, .instanceMethod yX0_shadeAt, .selects RX0 yX0_shadeAt yX0_shadeAt, .code yX0_shadeAt cX0_shadeAt 5 (some .int), .methodLink RX0 18 yX0_leafRow, .instanceMethod yX0_leafRow, .selects RX0 yX0_leafRow yX0_leafRow, .code yX0_leafRow cX0_leafRow 2 (some .int), .fieldLink RX0 9 "VineWall$Wall" "leafRows" "[I"] ++ wsX10 ++ wsX00 ++ (vx_atS RX1 154 "java/lang/IndexOutOfBoundsException" ["java/lang/RuntimeException", "java/lang/Exception"]).filter goodWord)
def wsX1_lit : List Cond := .code yX1_lit cX1_lit 1 (some .int) :: ([.fieldLink RX1 10 "VineWall" "wall" "LVineWall$Wall;", .methodLink RX1 127 yX0_countLit, .instanceMethod yX0_countLit, .selects RX0 yX0_countLit yX0_countLit, .initialized RX0, .code yX0_countLit cX0_countLit 3 (some .int), .fieldLink RX0 9 "VineWall$Wall" "leafRows" "[I", .methodLink RX0 50 yJ6_bitCount_0f7a4, .static yJ6_bitCount_0f7a4, .initialized RJ6, .code yJ6_bitCount_0f7a4 cJ6_bitCount_0f7a4 1 (some .int), .constant RJ6 265 (1431655765), .constant RJ6 266 (858993459), .constant RJ6 267 (252645135)] ++ wsX10 ++ wsX00)
def wsX1_generation : List Cond := .code yX1_generation cX1_generation 1 (some .int) :: ([.fieldLink RX1 43 "VineWall" "generationsGone" "I"] ++ wsX10)
def wsX1_broken : List Cond := .code yX1_broken cX1_broken 1 (some .int) :: ([.fieldLink RX1 46 "VineWall" "fallen" "I"] ++ wsX10)
def wsX1_leavesNext_r1 : List Cond := [Cond.fieldLink RX1 19 "VineWall" "behind" "LVineWall$Wall;", Cond.fieldLink RX1 10 "VineWall" "wall" "LVineWall$Wall;", Cond.fieldLink RX1 33 "VineWall" "beyond" "I", Cond.fieldLink RX1 29 "VineWall" "bearings" "[I", Cond.methodLink RX1 101 yX0_becomeNextOf, Cond.instanceMethod yX0_becomeNextOf, Cond.selects RX0 yX0_becomeNextOf yX0_becomeNextOf, Cond.initialized RX0, Cond.code yX0_becomeNextOf cX0_becomeNextOf 6 (some .int), Cond.fieldLink RX0 9 "VineWall$Wall" "leafRows" "[I", Cond.fieldLink RX0 15 "VineWall$Wall" "cutRows" "[I", Cond.methodLink RX0 55 yX0_leafRowNext, Cond.instanceMethod yX0_leafRowNext, Cond.selects RX0 yX0_leafRowNext yX0_leafRowNext, Cond.code yX0_leafRowNext cX0_leafRowNext 10 (some .int), Cond.methodLink RX0 18 yX0_leafRow, Cond.instanceMethod yX0_leafRow, Cond.selects RX0 yX0_leafRow yX0_leafRow, Cond.code yX0_leafRow cX0_leafRow 2 (some .int), Cond.methodLink RX0 36 yX0_leafRowAsSeen, Cond.instanceMethod yX0_leafRowAsSeen, Cond.selects RX0 yX0_leafRowAsSeen yX0_leafRowAsSeen, Cond.code yX0_leafRowAsSeen cX0_leafRowAsSeen 7 (some .int), Cond.methodLink RX0 40 yX0_countHolders]
def wsX1_leavesNext_r2 : List Cond := [Cond.static yX0_countHolders, Cond.code yX0_countHolders cX0_countHolders 1 (some .int), Cond.methodLink RX0 50 yJ6_bitCount_0f7a4, Cond.static yJ6_bitCount_0f7a4, Cond.initialized RJ6, Cond.code yJ6_bitCount_0f7a4 cJ6_bitCount_0f7a4 1 (some .int), Cond.constant RJ6 265 (1431655765), Cond.constant RJ6 266 (858993459), Cond.constant RJ6 267 (252645135), Cond.methodLink RX0 43 yX0_countNeighbours, Cond.static yX0_countNeighbours, Cond.code yX0_countNeighbours cX0_countNeighbours 3 (some .int), Cond.methodLink RX0 64 yX0_bearsLeafNext, Cond.instanceMethod yX0_bearsLeafNext, Cond.selects RX0 yX0_bearsLeafNext yX0_bearsLeafNext, Cond.code yX0_bearsLeafNext cX0_bearsLeafNext 6 (some .boolean), Cond.methodLink RX0 26 yX0_hasCutAt, Cond.instanceMethod yX0_hasCutAt, Cond.selects RX0 yX0_hasCutAt yX0_hasCutAt, Cond.code yX0_hasCutAt cX0_hasCutAt 3 (some .boolean), Cond.methodLink RX0 47 yX0_shadeAt, Cond.instanceMethod yX0_shadeAt, Cond.selects RX0 yX0_shadeAt yX0_shadeAt, Cond.code yX0_shadeAt cX0_shadeAt 5 (some .int)]
def wsX1_leavesNext_r3 : List Cond := [Cond.methodLink RX0 22 yX0_hasLeafAt, Cond.instanceMethod yX0_hasLeafAt, Cond.selects RX0 yX0_hasLeafAt yX0_hasLeafAt, Cond.code yX0_hasLeafAt cX0_hasLeafAt 3 (some .boolean), Cond.methodLink RX0 58 yX0_countInColumn, Cond.instanceMethod yX0_countInColumn, Cond.selects RX0 yX0_countInColumn yX0_countInColumn, Cond.code yX0_countInColumn cX0_countInColumn 2 (some .int), Cond.methodLink RX0 61 yX0_takeTopmost, Cond.instanceMethod yX0_takeTopmost, Cond.selects RX0 yX0_takeTopmost yX0_takeTopmost, Cond.code yX0_takeTopmost cX0_takeTopmost 5 (some .int), Cond.methodLink RX0 32 yX0_takeLeaf, Cond.instanceMethod yX0_takeLeaf, Cond.selects RX0 yX0_takeLeaf yX0_takeLeaf, Cond.code yX0_takeLeaf cX0_takeLeaf 3 none, Cond.static yX1_isCell, Cond.initialized RX1, Cond.code yX1_isCell cX1_isCell 2 (some .boolean), Cond.methodLink RX1 124 yX0_countLeaves, Cond.instanceMethod yX0_countLeaves, Cond.selects RX0 yX0_countLeaves yX0_countLeaves, Cond.code yX0_countLeaves cX0_countLeaves 3 (some .int)]
def wsX1_leavesNext : List Cond := .code yX1_leavesNext cX1_leavesNext 1 (some .int) :: ((wsX1_leavesNext_r1 ++ (wsX1_leavesNext_r2 ++ wsX1_leavesNext_r3)) ++ wsX10 ++ wsX00)
def wsX1_remember : List Cond := .code yX1_remember cX1_remember 2 none :: ([.fieldLink RX1 22 "VineWall" "lowerHalves" "[J", .fieldLink RX1 16 "VineWall" "trial" "LVineWall$Wall;", .fieldLink RX1 26 "VineWall" "upperHalves" "[J", .methodLink RX1 146 yX0_leavesOfHalf, .instanceMethod yX0_leavesOfHalf, .selects RX0 yX0_leavesOfHalf yX0_leavesOfHalf, .initialized RX0, .code yX0_leavesOfHalf cX0_leavesOfHalf 5 (some .long), .methodLink RX0 18 yX0_leafRow, .instanceMethod yX0_leafRow, .selects RX0 yX0_leafRow yX0_leafRow, .code yX0_leafRow cX0_leafRow 2 (some .int), .fieldLink RX0 9 "VineWall$Wall" "leafRows" "[I"] ++ wsX10 ++ wsX00)
def wsX1_looksAsBefore : List Cond := .code yX1_looksAsBefore cX1_looksAsBefore 4 (some .boolean) :: ([.fieldLink RX1 22 "VineWall" "lowerHalves" "[J", .fieldLink RX1 26 "VineWall" "upperHalves" "[J"] ++ wsX10)
def wsX1_repeatsIn_r1 : List Cond := [Cond.fieldLink RX1 10 "VineWall" "wall" "LVineWall$Wall;", Cond.fieldLink RX1 16 "VineWall" "trial" "LVineWall$Wall;", Cond.fieldLink RX1 19 "VineWall" "behind" "LVineWall$Wall;", Cond.fieldLink RX1 33 "VineWall" "beyond" "I", Cond.fieldLink RX1 29 "VineWall" "bearings" "[I", Cond.methodLink RX1 130 yX0_hasCuts, Cond.instanceMethod yX0_hasCuts, Cond.selects RX0 yX0_hasCuts yX0_hasCuts, Cond.initialized RX0, Cond.code yX0_hasCuts cX0_hasCuts 3 (some .boolean), Cond.fieldLink RX0 15 "VineWall$Wall" "cutRows" "[I", Cond.methodLink RX1 105 yX0_copyFrom, Cond.instanceMethod yX0_copyFrom, Cond.selects RX0 yX0_copyFrom yX0_copyFrom, Cond.code yX0_copyFrom cX0_copyFrom 3 none, Cond.fieldLink RX0 9 "VineWall$Wall" "leafRows" "[I", Cond.methodLink RX1 134 yX1_remember, Cond.instanceMethod yX1_remember, Cond.selects RX1 yX1_remember yX1_remember, Cond.initialized RX1, Cond.code yX1_remember cX1_remember 2 none, Cond.fieldLink RX1 22 "VineWall" "lowerHalves" "[J", Cond.fieldLink RX1 26 "VineWall" "upperHalves" "[J", Cond.methodLink RX1 146 yX0_leavesOfHalf]
def wsX1_repeatsIn_r2 : List Cond := [Cond.instanceMethod yX0_leavesOfHalf, Cond.selects RX0 yX0_leavesOfHalf yX0_leavesOfHalf, Cond.code yX0_leavesOfHalf cX0_leavesOfHalf 5 (some .long), Cond.methodLink RX0 18 yX0_leafRow, Cond.instanceMethod yX0_leafRow, Cond.selects RX0 yX0_leafRow yX0_leafRow, Cond.code yX0_leafRow cX0_leafRow 2 (some .int), Cond.methodLink RX1 101 yX0_becomeNextOf, Cond.instanceMethod yX0_becomeNextOf, Cond.selects RX0 yX0_becomeNextOf yX0_becomeNextOf, Cond.code yX0_becomeNextOf cX0_becomeNextOf 6 (some .int), Cond.methodLink RX0 55 yX0_leafRowNext, Cond.instanceMethod yX0_leafRowNext, Cond.selects RX0 yX0_leafRowNext yX0_leafRowNext, Cond.code yX0_leafRowNext cX0_leafRowNext 10 (some .int), Cond.methodLink RX0 36 yX0_leafRowAsSeen, Cond.instanceMethod yX0_leafRowAsSeen, Cond.selects RX0 yX0_leafRowAsSeen yX0_leafRowAsSeen, Cond.code yX0_leafRowAsSeen cX0_leafRowAsSeen 7 (some .int), Cond.methodLink RX0 40 yX0_countHolders, Cond.static yX0_countHolders, Cond.code yX0_countHolders cX0_countHolders 1 (some .int), Cond.methodLink RX0 50 yJ6_bitCount_0f7a4, Cond.static yJ6_bitCount_0f7a4]
def wsX1_repeatsIn_r3 : List Cond := [Cond.initialized RJ6, Cond.code yJ6_bitCount_0f7a4 cJ6_bitCount_0f7a4 1 (some .int), Cond.constant RJ6 265 (1431655765), Cond.constant RJ6 266 (858993459), Cond.constant RJ6 267 (252645135), Cond.methodLink RX0 43 yX0_countNeighbours, Cond.static yX0_countNeighbours, Cond.code yX0_countNeighbours cX0_countNeighbours 3 (some .int), Cond.methodLink RX0 64 yX0_bearsLeafNext, Cond.instanceMethod yX0_bearsLeafNext, Cond.selects RX0 yX0_bearsLeafNext yX0_bearsLeafNext, Cond.code yX0_bearsLeafNext cX0_bearsLeafNext 6 (some .boolean), Cond.methodLink RX0 26 yX0_hasCutAt, Cond.instanceMethod yX0_hasCutAt, Cond.selects RX0 yX0_hasCutAt yX0_hasCutAt, Cond.code yX0_hasCutAt cX0_hasCutAt 3 (some .boolean), Cond.methodLink RX0 47 yX0_shadeAt, Cond.instanceMethod yX0_shadeAt, Cond.selects RX0 yX0_shadeAt yX0_shadeAt, Cond.code yX0_shadeAt cX0_shadeAt 5 (some .int), Cond.methodLink RX0 22 yX0_hasLeafAt, Cond.instanceMethod yX0_hasLeafAt, Cond.selects RX0 yX0_hasLeafAt yX0_hasLeafAt, Cond.code yX0_hasLeafAt cX0_hasLeafAt 3 (some .boolean)]
def wsX1_repeatsIn_r4 : List Cond := [Cond.methodLink RX0 58 yX0_countInColumn, Cond.instanceMethod yX0_countInColumn, Cond.selects RX0 yX0_countInColumn yX0_countInColumn, Cond.code yX0_countInColumn cX0_countInColumn 2 (some .int), Cond.methodLink RX0 61 yX0_takeTopmost, Cond.instanceMethod yX0_takeTopmost, Cond.selects RX0 yX0_takeTopmost yX0_takeTopmost, Cond.code yX0_takeTopmost cX0_takeTopmost 5 (some .int), Cond.methodLink RX0 32 yX0_takeLeaf, Cond.instanceMethod yX0_takeLeaf, Cond.selects RX0 yX0_takeLeaf yX0_takeLeaf, Cond.code yX0_takeLeaf cX0_takeLeaf 3 none, Cond.static yX1_isCell, Cond.code yX1_isCell cX1_isCell 2 (some .boolean), Cond.methodLink RX1 137 yX1_looksAsBefore, Cond.instanceMethod yX1_looksAsBefore, Cond.selects RX1 yX1_looksAsBefore yX1_looksAsBefore, Cond.code yX1_looksAsBefore cX1_looksAsBefore 4 (some .boolean)]
def wsX1_repeatsIn : List Cond := .code yX1_repeatsIn cX1_repeatsIn 3 (some .int) :: ((wsX1_repeatsIn_r1 ++ (wsX1_repeatsIn_r2 ++ (wsX1_repeatsIn_r3 ++ wsX1_repeatsIn_r4))) ++ wsX10 ++ wsX00)
def wsX1_litBehindCut_r1 : List Cond := [Cond.fieldLink RX1 16 "VineWall" "trial" "LVineWall$Wall;", Cond.fieldLink RX1 10 "VineWall" "wall" "LVineWall$Wall;", Cond.fieldLink RX1 19 "VineWall" "behind" "LVineWall$Wall;", Cond.fieldLink RX1 33 "VineWall" "beyond" "I", Cond.fieldLink RX1 29 "VineWall" "bearings" "[I", Cond.methodLink RX1 105 yX0_copyFrom, Cond.instanceMethod yX0_copyFrom, Cond.selects RX0 yX0_copyFrom yX0_copyFrom, Cond.initialized RX0, Cond.code yX0_copyFrom cX0_copyFrom 3 none, Cond.fieldLink RX0 9 "VineWall$Wall" "leafRows" "[I", Cond.fieldLink RX0 15 "VineWall$Wall" "cutRows" "[I", Cond.methodLink RX1 93 yX0_cutLeaf, Cond.instanceMethod yX0_cutLeaf, Cond.selects RX0 yX0_cutLeaf yX0_cutLeaf, Cond.code yX0_cutLeaf cX0_cutLeaf 3 none, Cond.methodLink RX0 32 yX0_takeLeaf, Cond.instanceMethod yX0_takeLeaf, Cond.selects RX0 yX0_takeLeaf yX0_takeLeaf, Cond.code yX0_takeLeaf cX0_takeLeaf 3 none, Cond.static yX1_isCell, Cond.initialized RX1, Cond.code yX1_isCell cX1_isCell 2 (some .boolean), Cond.methodLink RX1 101 yX0_becomeNextOf]
def wsX1_litBehindCut_r2 : List Cond := [Cond.instanceMethod yX0_becomeNextOf, Cond.selects RX0 yX0_becomeNextOf yX0_becomeNextOf, Cond.code yX0_becomeNextOf cX0_becomeNextOf 6 (some .int), Cond.methodLink RX0 55 yX0_leafRowNext, Cond.instanceMethod yX0_leafRowNext, Cond.selects RX0 yX0_leafRowNext yX0_leafRowNext, Cond.code yX0_leafRowNext cX0_leafRowNext 10 (some .int), Cond.methodLink RX0 18 yX0_leafRow, Cond.instanceMethod yX0_leafRow, Cond.selects RX0 yX0_leafRow yX0_leafRow, Cond.code yX0_leafRow cX0_leafRow 2 (some .int), Cond.methodLink RX0 36 yX0_leafRowAsSeen, Cond.instanceMethod yX0_leafRowAsSeen, Cond.selects RX0 yX0_leafRowAsSeen yX0_leafRowAsSeen, Cond.code yX0_leafRowAsSeen cX0_leafRowAsSeen 7 (some .int), Cond.methodLink RX0 40 yX0_countHolders, Cond.static yX0_countHolders, Cond.code yX0_countHolders cX0_countHolders 1 (some .int), Cond.methodLink RX0 50 yJ6_bitCount_0f7a4, Cond.static yJ6_bitCount_0f7a4, Cond.initialized RJ6, Cond.code yJ6_bitCount_0f7a4 cJ6_bitCount_0f7a4 1 (some .int), Cond.constant RJ6 265 (1431655765), Cond.constant RJ6 266 (858993459)]
def wsX1_litBehindCut_r3 : List Cond := [Cond.constant RJ6 267 (252645135), Cond.methodLink RX0 43 yX0_countNeighbours, Cond.static yX0_countNeighbours, Cond.code yX0_countNeighbours cX0_countNeighbours 3 (some .int), Cond.methodLink RX0 64 yX0_bearsLeafNext, Cond.instanceMethod yX0_bearsLeafNext, Cond.selects RX0 yX0_bearsLeafNext yX0_bearsLeafNext, Cond.code yX0_bearsLeafNext cX0_bearsLeafNext 6 (some .boolean), Cond.methodLink RX0 26 yX0_hasCutAt, Cond.instanceMethod yX0_hasCutAt, Cond.selects RX0 yX0_hasCutAt yX0_hasCutAt, Cond.code yX0_hasCutAt cX0_hasCutAt 3 (some .boolean), Cond.methodLink RX0 47 yX0_shadeAt, Cond.instanceMethod yX0_shadeAt, Cond.selects RX0 yX0_shadeAt yX0_shadeAt, Cond.code yX0_shadeAt cX0_shadeAt 5 (some .int), Cond.methodLink RX0 22 yX0_hasLeafAt, Cond.instanceMethod yX0_hasLeafAt, Cond.selects RX0 yX0_hasLeafAt yX0_hasLeafAt, Cond.code yX0_hasLeafAt cX0_hasLeafAt 3 (some .boolean), Cond.methodLink RX0 58 yX0_countInColumn, Cond.instanceMethod yX0_countInColumn, Cond.selects RX0 yX0_countInColumn yX0_countInColumn, Cond.code yX0_countInColumn cX0_countInColumn 2 (some .int)]
def wsX1_litBehindCut_r4 : List Cond := [Cond.methodLink RX0 61 yX0_takeTopmost, Cond.instanceMethod yX0_takeTopmost, Cond.selects RX0 yX0_takeTopmost yX0_takeTopmost, Cond.code yX0_takeTopmost cX0_takeTopmost 5 (some .int), Cond.methodLink RX1 127 yX0_countLit, Cond.instanceMethod yX0_countLit, Cond.selects RX0 yX0_countLit yX0_countLit, Cond.code yX0_countLit cX0_countLit 3 (some .int)]
def wsX1_litBehindCut : List Cond := .code yX1_litBehindCut cX1_litBehindCut 3 (some .int) :: ((wsX1_litBehindCut_r1 ++ (wsX1_litBehindCut_r2 ++ (wsX1_litBehindCut_r3 ++ wsX1_litBehindCut_r4))) ++ wsX10 ++ wsX00)
def wsX1_bestCut_r1 : List Cond := [Cond.fieldLink RX1 10 "VineWall" "wall" "LVineWall$Wall;", Cond.methodLink RX1 82 yX0_hasLeafAt, Cond.instanceMethod yX0_hasLeafAt, Cond.selects RX0 yX0_hasLeafAt yX0_hasLeafAt, Cond.initialized RX0, Cond.code yX0_hasLeafAt cX0_hasLeafAt 3 (some .boolean), Cond.methodLink RX0 18 yX0_leafRow, Cond.instanceMethod yX0_leafRow, Cond.selects RX0 yX0_leafRow yX0_leafRow, Cond.code yX0_leafRow cX0_leafRow 2 (some .int), Cond.fieldLink RX0 9 "VineWall$Wall" "leafRows" "[I", Cond.methodLink RX1 140 yX1_litBehindCut, Cond.instanceMethod yX1_litBehindCut, Cond.selects RX1 yX1_litBehindCut yX1_litBehindCut, Cond.initialized RX1, Cond.code yX1_litBehindCut cX1_litBehindCut 3 (some .int), Cond.fieldLink RX1 16 "VineWall" "trial" "LVineWall$Wall;", Cond.fieldLink RX1 19 "VineWall" "behind" "LVineWall$Wall;", Cond.fieldLink RX1 33 "VineWall" "beyond" "I", Cond.fieldLink RX1 29 "VineWall" "bearings" "[I", Cond.methodLink RX1 105 yX0_copyFrom, Cond.instanceMethod yX0_copyFrom, Cond.selects RX0 yX0_copyFrom yX0_copyFrom, Cond.code yX0_copyFrom cX0_copyFrom 3 none]
def wsX1_bestCut_r2 : List Cond := [Cond.fieldLink RX0 15 "VineWall$Wall" "cutRows" "[I", Cond.methodLink RX1 93 yX0_cutLeaf, Cond.instanceMethod yX0_cutLeaf, Cond.selects RX0 yX0_cutLeaf yX0_cutLeaf, Cond.code yX0_cutLeaf cX0_cutLeaf 3 none, Cond.methodLink RX0 32 yX0_takeLeaf, Cond.instanceMethod yX0_takeLeaf, Cond.selects RX0 yX0_takeLeaf yX0_takeLeaf, Cond.code yX0_takeLeaf cX0_takeLeaf 3 none, Cond.static yX1_isCell, Cond.code yX1_isCell cX1_isCell 2 (some .boolean), Cond.methodLink RX1 101 yX0_becomeNextOf, Cond.instanceMethod yX0_becomeNextOf, Cond.selects RX0 yX0_becomeNextOf yX0_becomeNextOf, Cond.code yX0_becomeNextOf cX0_becomeNextOf 6 (some .int), Cond.methodLink RX0 55 yX0_leafRowNext, Cond.instanceMethod yX0_leafRowNext, Cond.selects RX0 yX0_leafRowNext yX0_leafRowNext, Cond.code yX0_leafRowNext cX0_leafRowNext 10 (some .int), Cond.methodLink RX0 36 yX0_leafRowAsSeen, Cond.instanceMethod yX0_leafRowAsSeen, Cond.selects RX0 yX0_leafRowAsSeen yX0_leafRowAsSeen, Cond.code yX0_leafRowAsSeen cX0_leafRowAsSeen 7 (some .int), Cond.methodLink RX0 40 yX0_countHolders]
def wsX1_bestCut_r3 : List Cond := [Cond.static yX0_countHolders, Cond.code yX0_countHolders cX0_countHolders 1 (some .int), Cond.methodLink RX0 50 yJ6_bitCount_0f7a4, Cond.static yJ6_bitCount_0f7a4, Cond.initialized RJ6, Cond.code yJ6_bitCount_0f7a4 cJ6_bitCount_0f7a4 1 (some .int), Cond.constant RJ6 265 (1431655765), Cond.constant RJ6 266 (858993459), Cond.constant RJ6 267 (252645135), Cond.methodLink RX0 43 yX0_countNeighbours, Cond.static yX0_countNeighbours, Cond.code yX0_countNeighbours cX0_countNeighbours 3 (some .int), Cond.methodLink RX0 64 yX0_bearsLeafNext, Cond.instanceMethod yX0_bearsLeafNext, Cond.selects RX0 yX0_bearsLeafNext yX0_bearsLeafNext, Cond.code yX0_bearsLeafNext cX0_bearsLeafNext 6 (some .boolean), Cond.methodLink RX0 26 yX0_hasCutAt, Cond.instanceMethod yX0_hasCutAt, Cond.selects RX0 yX0_hasCutAt yX0_hasCutAt, Cond.code yX0_hasCutAt cX0_hasCutAt 3 (some .boolean), Cond.methodLink RX0 47 yX0_shadeAt, Cond.instanceMethod yX0_shadeAt, Cond.selects RX0 yX0_shadeAt yX0_shadeAt, Cond.code yX0_shadeAt cX0_shadeAt 5 (some .int)]
def wsX1_bestCut_r4 : List Cond := [Cond.methodLink RX0 22 yX0_hasLeafAt, Cond.methodLink RX0 58 yX0_countInColumn, Cond.instanceMethod yX0_countInColumn, Cond.selects RX0 yX0_countInColumn yX0_countInColumn, Cond.code yX0_countInColumn cX0_countInColumn 2 (some .int), Cond.methodLink RX0 61 yX0_takeTopmost, Cond.instanceMethod yX0_takeTopmost, Cond.selects RX0 yX0_takeTopmost yX0_takeTopmost, Cond.code yX0_takeTopmost cX0_takeTopmost 5 (some .int), Cond.methodLink RX1 127 yX0_countLit, Cond.instanceMethod yX0_countLit, Cond.selects RX0 yX0_countLit yX0_countLit, Cond.code yX0_countLit cX0_countLit 3 (some .int)]
def wsX1_bestCut : List Cond := .code yX1_bestCut cX1_bestCut 7 (some .int) :: ((wsX1_bestCut_r1 ++ (wsX1_bestCut_r2 ++ (wsX1_bestCut_r3 ++ wsX1_bestCut_r4))) ++ wsX10 ++ wsX00)
def wsX1_clear : List Cond := .code yX1_clear cX1_clear 1 none :: ([.fieldLink RX1 10 "VineWall" "wall" "LVineWall$Wall;", .fieldLink RX1 37 "VineWall" "planted" "I", .fieldLink RX1 40 "VineWall" "cutsDone" "I", .fieldLink RX1 43 "VineWall" "generationsGone" "I", .fieldLink RX1 46 "VineWall" "fallen" "I", .methodLink RX1 143 yX0_strip, .instanceMethod yX0_strip, .selects RX0 yX0_strip yX0_strip, .initialized RX0, .code yX0_strip cX0_strip 2 none, .fieldLink RX0 9 "VineWall$Wall" "leafRows" "[I", .fieldLink RX0 15 "VineWall$Wall" "cutRows" "[I"] ++ wsX10 ++ wsX00)
def wsX2_init : List Cond := .code yX2_init cX2_init 2 none :: ([.methodLink RX2 1 objectInit, .instanceMethod objectInit, .code objectInit ⟨#[0xb1]⟩ 1 none, .arrayClass .int, .fieldLink RX2 7 "VineWallModel" "walls" "[I", .fieldLink RX2 13 "VineWallModel" "bears" "[I", .fieldLink RX2 16 "VineWallModel" "cuts" "I"] ++ wsX20)
def wsX2_thrown : List Cond := .code yX2_thrown cX2_thrown 1 (some .int) :: ([.fieldLink RX2 20 "VineWallModel" "thrown" "I"] ++ wsX20)
def wsX2_isColumn : List Cond := .code yX2_isColumn cX2_isColumn 1 (some .boolean) :: ([])
def wsX2_isCell : List Cond := .code yX2_isCell cX2_isCell 2 (some .boolean) :: ([.methodLink RX2 23 yX2_isColumn, .static yX2_isColumn, .initialized RX2, .code yX2_isColumn cX2_isColumn 1 (some .boolean)])
def wsX2_leafAt : List Cond := .code yX2_leafAt cX2_leafAt 5 (some .int) :: ([.fieldLink RX2 27 "VineWallModel" "side" "I", .fieldLink RX2 7 "VineWallModel" "walls" "[I", .methodLink RX2 23 yX2_isColumn, .static yX2_isColumn, .initialized RX2, .code yX2_isColumn cX2_isColumn 1 (some .boolean)] ++ wsX20)
def wsX2_shade : List Cond := .code yX2_shade cX2_shade 6 (some .int) :: ([.methodLink RX2 30 yX2_leafAt, .instanceMethod yX2_leafAt, .selects RX2 yX2_leafAt yX2_leafAt, .initialized RX2, .code yX2_leafAt cX2_leafAt 5 (some .int), .fieldLink RX2 27 "VineWallModel" "side" "I", .fieldLink RX2 7 "VineWallModel" "walls" "[I", .methodLink RX2 23 yX2_isColumn, .static yX2_isColumn, .code yX2_isColumn cX2_isColumn 1 (some .boolean)] ++ wsX20)
def wsX2_threeIn : List Cond := .code yX2_threeIn cX2_threeIn 4 (some .int) :: ([.methodLink RX2 30 yX2_leafAt, .instanceMethod yX2_leafAt, .selects RX2 yX2_leafAt yX2_leafAt, .initialized RX2, .code yX2_leafAt cX2_leafAt 5 (some .int), .fieldLink RX2 27 "VineWallModel" "side" "I", .fieldLink RX2 7 "VineWallModel" "walls" "[I", .methodLink RX2 23 yX2_isColumn, .static yX2_isColumn, .code yX2_isColumn cX2_isColumn 1 (some .boolean)] ++ wsX20)
def wsX2_holders : List Cond := .code yX2_holders cX2_holders 4 (some .int) :: ([.methodLink RX2 34 yX2_threeIn, .instanceMethod yX2_threeIn, .selects RX2 yX2_threeIn yX2_threeIn, .initialized RX2, .code yX2_threeIn cX2_threeIn 4 (some .int), .methodLink RX2 30 yX2_leafAt, .instanceMethod yX2_leafAt, .selects RX2 yX2_leafAt yX2_leafAt, .code yX2_leafAt cX2_leafAt 5 (some .int), .fieldLink RX2 27 "VineWallModel" "side" "I", .fieldLink RX2 7 "VineWallModel" "walls" "[I", .methodLink RX2 23 yX2_isColumn, .static yX2_isColumn, .code yX2_isColumn cX2_isColumn 1 (some .boolean)] ++ wsX20)
def wsX2_neighbours : List Cond := .code yX2_neighbours cX2_neighbours 4 (some .int) :: ([.methodLink RX2 34 yX2_threeIn, .instanceMethod yX2_threeIn, .selects RX2 yX2_threeIn yX2_threeIn, .initialized RX2, .code yX2_threeIn cX2_threeIn 4 (some .int), .methodLink RX2 30 yX2_leafAt, .instanceMethod yX2_leafAt, .selects RX2 yX2_leafAt yX2_leafAt, .code yX2_leafAt cX2_leafAt 5 (some .int), .fieldLink RX2 27 "VineWallModel" "side" "I", .fieldLink RX2 7 "VineWallModel" "walls" "[I", .methodLink RX2 23 yX2_isColumn, .static yX2_isColumn, .code yX2_isColumn cX2_isColumn 1 (some .boolean)] ++ wsX20)
def wsX2_inColumn : List Cond := .code yX2_inColumn cX2_inColumn 3 (some .int) :: ([.methodLink RX2 30 yX2_leafAt, .instanceMethod yX2_leafAt, .selects RX2 yX2_leafAt yX2_leafAt, .initialized RX2, .code yX2_leafAt cX2_leafAt 5 (some .int), .fieldLink RX2 27 "VineWallModel" "side" "I", .fieldLink RX2 7 "VineWallModel" "walls" "[I", .methodLink RX2 23 yX2_isColumn, .static yX2_isColumn, .code yX2_isColumn cX2_isColumn 1 (some .boolean), .methodLink RX2 37 yX2_shade, .instanceMethod yX2_shade, .selects RX2 yX2_shade yX2_shade, .code yX2_shade cX2_shade 6 (some .int)] ++ wsX20)
def wsX2_allLeaves : List Cond := .code yX2_allLeaves cX2_allLeaves 4 (some .int) :: ([.methodLink RX2 40 yX2_inColumn, .instanceMethod yX2_inColumn, .selects RX2 yX2_inColumn yX2_inColumn, .initialized RX2, .code yX2_inColumn cX2_inColumn 3 (some .int), .methodLink RX2 30 yX2_leafAt, .instanceMethod yX2_leafAt, .selects RX2 yX2_leafAt yX2_leafAt, .code yX2_leafAt cX2_leafAt 5 (some .int), .fieldLink RX2 27 "VineWallModel" "side" "I", .fieldLink RX2 7 "VineWallModel" "walls" "[I", .methodLink RX2 23 yX2_isColumn, .static yX2_isColumn, .code yX2_isColumn cX2_isColumn 1 (some .boolean), .methodLink RX2 37 yX2_shade, .instanceMethod yX2_shade, .selects RX2 yX2_shade yX2_shade, .code yX2_shade cX2_shade 6 (some .int)] ++ wsX20)
def wsX2_allLit : List Cond := .code yX2_allLit cX2_allLit 4 (some .int) :: ([.methodLink RX2 40 yX2_inColumn, .instanceMethod yX2_inColumn, .selects RX2 yX2_inColumn yX2_inColumn, .initialized RX2, .code yX2_inColumn cX2_inColumn 3 (some .int), .methodLink RX2 30 yX2_leafAt, .instanceMethod yX2_leafAt, .selects RX2 yX2_leafAt yX2_leafAt, .code yX2_leafAt cX2_leafAt 5 (some .int), .fieldLink RX2 27 "VineWallModel" "side" "I", .fieldLink RX2 7 "VineWallModel" "walls" "[I", .methodLink RX2 23 yX2_isColumn, .static yX2_isColumn, .code yX2_isColumn cX2_isColumn 1 (some .boolean), .methodLink RX2 37 yX2_shade, .instanceMethod yX2_shade, .selects RX2 yX2_shade yX2_shade, .code yX2_shade cX2_shade 6 (some .int)] ++ wsX20)
def wsX2_becomes_r1 : List Cond := [Cond.fieldLink RX2 7 "VineWallModel" "walls" "[I", Cond.methodLink RX2 44 yX2_holders, Cond.instanceMethod yX2_holders, Cond.selects RX2 yX2_holders yX2_holders, Cond.initialized RX2, Cond.code yX2_holders cX2_holders 4 (some .int), Cond.methodLink RX2 34 yX2_threeIn, Cond.instanceMethod yX2_threeIn, Cond.selects RX2 yX2_threeIn yX2_threeIn, Cond.code yX2_threeIn cX2_threeIn 4 (some .int), Cond.methodLink RX2 30 yX2_leafAt, Cond.instanceMethod yX2_leafAt, Cond.selects RX2 yX2_leafAt yX2_leafAt, Cond.code yX2_leafAt cX2_leafAt 5 (some .int), Cond.fieldLink RX2 27 "VineWallModel" "side" "I", Cond.methodLink RX2 23 yX2_isColumn, Cond.static yX2_isColumn, Cond.code yX2_isColumn cX2_isColumn 1 (some .boolean), Cond.methodLink RX2 47 yX2_neighbours, Cond.instanceMethod yX2_neighbours, Cond.selects RX2 yX2_neighbours yX2_neighbours, Cond.code yX2_neighbours cX2_neighbours 4 (some .int), Cond.methodLink RX2 37 yX2_shade, Cond.instanceMethod yX2_shade]
def wsX2_becomes_r2 : List Cond := [Cond.selects RX2 yX2_shade yX2_shade, Cond.code yX2_shade cX2_shade 6 (some .int)]
def wsX2_becomes : List Cond := .code yX2_becomes cX2_becomes 8 (some .int) :: ((wsX2_becomes_r1 ++ wsX2_becomes_r2) ++ wsX20)
def wsX2_breaks : List Cond := .code yX2_breaks cX2_breaks 6 (some .int) :: ([.fieldLink RX2 13 "VineWallModel" "bears" "[I", .fieldLink RX2 7 "VineWallModel" "walls" "[I", .methodLink RX2 40 yX2_inColumn, .instanceMethod yX2_inColumn, .selects RX2 yX2_inColumn yX2_inColumn, .initialized RX2, .code yX2_inColumn cX2_inColumn 3 (some .int), .methodLink RX2 30 yX2_leafAt, .instanceMethod yX2_leafAt, .selects RX2 yX2_leafAt yX2_leafAt, .code yX2_leafAt cX2_leafAt 5 (some .int), .fieldLink RX2 27 "VineWallModel" "side" "I", .methodLink RX2 23 yX2_isColumn, .static yX2_isColumn, .code yX2_isColumn cX2_isColumn 1 (some .boolean), .methodLink RX2 37 yX2_shade, .instanceMethod yX2_shade, .selects RX2 yX2_shade yX2_shade, .code yX2_shade cX2_shade 6 (some .int)] ++ wsX20)
def wsX2_grows_r1 : List Cond := [Cond.fieldLink RX2 7 "VineWallModel" "walls" "[I", Cond.methodLink RX2 50 yX2_becomes, Cond.instanceMethod yX2_becomes, Cond.selects RX2 yX2_becomes yX2_becomes, Cond.initialized RX2, Cond.code yX2_becomes cX2_becomes 8 (some .int), Cond.methodLink RX2 44 yX2_holders, Cond.instanceMethod yX2_holders, Cond.selects RX2 yX2_holders yX2_holders, Cond.code yX2_holders cX2_holders 4 (some .int), Cond.methodLink RX2 34 yX2_threeIn, Cond.instanceMethod yX2_threeIn, Cond.selects RX2 yX2_threeIn yX2_threeIn, Cond.code yX2_threeIn cX2_threeIn 4 (some .int), Cond.methodLink RX2 30 yX2_leafAt, Cond.instanceMethod yX2_leafAt, Cond.selects RX2 yX2_leafAt yX2_leafAt, Cond.code yX2_leafAt cX2_leafAt 5 (some .int), Cond.fieldLink RX2 27 "VineWallModel" "side" "I", Cond.methodLink RX2 23 yX2_isColumn, Cond.static yX2_isColumn, Cond.code yX2_isColumn cX2_isColumn 1 (some .boolean), Cond.methodLink RX2 47 yX2_neighbours, Cond.instanceMethod yX2_neighbours]
def wsX2_grows_r2 : List Cond := [Cond.selects RX2 yX2_neighbours yX2_neighbours, Cond.code yX2_neighbours cX2_neighbours 4 (some .int), Cond.methodLink RX2 37 yX2_shade, Cond.instanceMethod yX2_shade, Cond.selects RX2 yX2_shade yX2_shade, Cond.code yX2_shade cX2_shade 6 (some .int), Cond.methodLink RX2 53 yX2_breaks, Cond.instanceMethod yX2_breaks, Cond.selects RX2 yX2_breaks yX2_breaks, Cond.code yX2_breaks cX2_breaks 6 (some .int), Cond.fieldLink RX2 13 "VineWallModel" "bears" "[I", Cond.methodLink RX2 40 yX2_inColumn, Cond.instanceMethod yX2_inColumn, Cond.selects RX2 yX2_inColumn yX2_inColumn, Cond.code yX2_inColumn cX2_inColumn 3 (some .int)]
def wsX2_grows : List Cond := .code yX2_grows cX2_grows 5 (some .int) :: ((wsX2_grows_r1 ++ wsX2_grows_r2) ++ wsX20)
def wsX2_copies : List Cond := .code yX2_copies cX2_copies 4 none :: ([.fieldLink RX2 7 "VineWallModel" "walls" "[I"] ++ wsX20)
def wsX2_sides : List Cond := .code yX2_sides cX2_sides 2 none :: ([.fieldLink RX2 57 "VineWallModel" "generation" "I", .fieldLink RX2 20 "VineWallModel" "thrown" "I", .fieldLink RX2 27 "VineWallModel" "side" "I"] ++ wsX20)
def wsX2_plant : List Cond := .code yX2_plant cX2_plant 2 none :: ([.fieldLink RX2 7 "VineWallModel" "walls" "[I", .fieldLink RX2 60 "VineWallModel" "planted" "I", .fieldLink RX2 20 "VineWallModel" "thrown" "I", .methodLink RX2 23 yX2_isColumn, .static yX2_isColumn, .initialized RX2, .code yX2_isColumn cX2_isColumn 1 (some .boolean)] ++ wsX20)
def wsX2_trellis : List Cond := .code yX2_trellis cX2_trellis 4 (some .int) :: ([.fieldLink RX2 20 "VineWallModel" "thrown" "I", .fieldLink RX2 13 "VineWallModel" "bears" "[I", .methodLink RX2 23 yX2_isColumn, .static yX2_isColumn, .initialized RX2, .code yX2_isColumn cX2_isColumn 1 (some .boolean)] ++ wsX20)
def wsX2_cut : List Cond := .code yX2_cut cX2_cut 3 (some .int) :: ([.fieldLink RX2 7 "VineWallModel" "walls" "[I", .fieldLink RX2 16 "VineWallModel" "cuts" "I", .fieldLink RX2 20 "VineWallModel" "thrown" "I", .methodLink RX2 63 yX2_isCell, .static yX2_isCell, .initialized RX2, .code yX2_isCell cX2_isCell 2 (some .boolean), .methodLink RX2 23 yX2_isColumn, .static yX2_isColumn, .code yX2_isColumn cX2_isColumn 1 (some .boolean)] ++ wsX20)
def wsX2_grow_r1 : List Cond := [Cond.fieldLink RX2 57 "VineWallModel" "generation" "I", Cond.fieldLink RX2 20 "VineWallModel" "thrown" "I", Cond.fieldLink RX2 70 "VineWallModel" "broken" "I", Cond.fieldLink RX2 16 "VineWallModel" "cuts" "I", Cond.methodLink RX2 67 yX2_allLeaves, Cond.instanceMethod yX2_allLeaves, Cond.selects RX2 yX2_allLeaves yX2_allLeaves, Cond.initialized RX2, Cond.code yX2_allLeaves cX2_allLeaves 4 (some .int), Cond.methodLink RX2 40 yX2_inColumn, Cond.instanceMethod yX2_inColumn, Cond.selects RX2 yX2_inColumn yX2_inColumn, Cond.code yX2_inColumn cX2_inColumn 3 (some .int), Cond.methodLink RX2 30 yX2_leafAt, Cond.instanceMethod yX2_leafAt, Cond.selects RX2 yX2_leafAt yX2_leafAt, Cond.code yX2_leafAt cX2_leafAt 5 (some .int), Cond.fieldLink RX2 27 "VineWallModel" "side" "I", Cond.fieldLink RX2 7 "VineWallModel" "walls" "[I", Cond.methodLink RX2 23 yX2_isColumn, Cond.static yX2_isColumn, Cond.code yX2_isColumn cX2_isColumn 1 (some .boolean), Cond.methodLink RX2 37 yX2_shade, Cond.instanceMethod yX2_shade]
def wsX2_grow_r2 : List Cond := [Cond.selects RX2 yX2_shade yX2_shade, Cond.code yX2_shade cX2_shade 6 (some .int), Cond.methodLink RX2 73 yX2_grows, Cond.instanceMethod yX2_grows, Cond.selects RX2 yX2_grows yX2_grows, Cond.code yX2_grows cX2_grows 5 (some .int), Cond.methodLink RX2 50 yX2_becomes, Cond.instanceMethod yX2_becomes, Cond.selects RX2 yX2_becomes yX2_becomes, Cond.code yX2_becomes cX2_becomes 8 (some .int), Cond.methodLink RX2 44 yX2_holders, Cond.instanceMethod yX2_holders, Cond.selects RX2 yX2_holders yX2_holders, Cond.code yX2_holders cX2_holders 4 (some .int), Cond.methodLink RX2 34 yX2_threeIn, Cond.instanceMethod yX2_threeIn, Cond.selects RX2 yX2_threeIn yX2_threeIn, Cond.code yX2_threeIn cX2_threeIn 4 (some .int), Cond.methodLink RX2 47 yX2_neighbours, Cond.instanceMethod yX2_neighbours, Cond.selects RX2 yX2_neighbours yX2_neighbours, Cond.code yX2_neighbours cX2_neighbours 4 (some .int), Cond.methodLink RX2 53 yX2_breaks, Cond.instanceMethod yX2_breaks]
def wsX2_grow_r3 : List Cond := [Cond.selects RX2 yX2_breaks yX2_breaks, Cond.code yX2_breaks cX2_breaks 6 (some .int), Cond.fieldLink RX2 13 "VineWallModel" "bears" "[I", Cond.methodLink RX2 76 yX2_copies, Cond.instanceMethod yX2_copies, Cond.selects RX2 yX2_copies yX2_copies, Cond.code yX2_copies cX2_copies 4 none]
def wsX2_grow : List Cond := .code yX2_grow cX2_grow 2 (some .int) :: ((wsX2_grow_r1 ++ (wsX2_grow_r2 ++ wsX2_grow_r3)) ++ wsX20)
def wsX2_clear : List Cond := .code yX2_clear cX2_clear 2 none :: ([.fieldLink RX2 20 "VineWallModel" "thrown" "I", .fieldLink RX2 7 "VineWallModel" "walls" "[I", .fieldLink RX2 57 "VineWallModel" "generation" "I", .fieldLink RX2 16 "VineWallModel" "cuts" "I", .fieldLink RX2 60 "VineWallModel" "planted" "I", .fieldLink RX2 70 "VineWallModel" "broken" "I"] ++ wsX20)
def wsX2_look : List Cond := .code yX2_look cX2_look 4 (some .char) :: ([.fieldLink RX2 20 "VineWallModel" "thrown" "I", .fieldLink RX2 7 "VineWallModel" "walls" "[I", .methodLink RX2 63 yX2_isCell, .static yX2_isCell, .initialized RX2, .code yX2_isCell cX2_isCell 2 (some .boolean), .methodLink RX2 23 yX2_isColumn, .static yX2_isColumn, .code yX2_isColumn cX2_isColumn 1 (some .boolean)] ++ wsX20)
def wsX2_shadeOf : List Cond := .code yX2_shadeOf cX2_shadeOf 3 (some .int) :: ([.fieldLink RX2 20 "VineWallModel" "thrown" "I", .methodLink RX2 63 yX2_isCell, .static yX2_isCell, .initialized RX2, .code yX2_isCell cX2_isCell 2 (some .boolean), .methodLink RX2 23 yX2_isColumn, .static yX2_isColumn, .code yX2_isColumn cX2_isColumn 1 (some .boolean), .methodLink RX2 37 yX2_shade, .instanceMethod yX2_shade, .selects RX2 yX2_shade yX2_shade, .code yX2_shade cX2_shade 6 (some .int), .methodLink RX2 30 yX2_leafAt, .instanceMethod yX2_leafAt, .selects RX2 yX2_leafAt yX2_leafAt, .code yX2_leafAt cX2_leafAt 5 (some .int), .fieldLink RX2 27 "VineWallModel" "side" "I", .fieldLink RX2 7 "VineWallModel" "walls" "[I"] ++ wsX20)
def wsX2_holdersOf : List Cond := .code yX2_holdersOf cX2_holdersOf 3 (some .int) :: ([.fieldLink RX2 20 "VineWallModel" "thrown" "I", .methodLink RX2 63 yX2_isCell, .static yX2_isCell, .initialized RX2, .code yX2_isCell cX2_isCell 2 (some .boolean), .methodLink RX2 23 yX2_isColumn, .static yX2_isColumn, .code yX2_isColumn cX2_isColumn 1 (some .boolean), .methodLink RX2 44 yX2_holders, .instanceMethod yX2_holders, .selects RX2 yX2_holders yX2_holders, .code yX2_holders cX2_holders 4 (some .int), .methodLink RX2 34 yX2_threeIn, .instanceMethod yX2_threeIn, .selects RX2 yX2_threeIn yX2_threeIn, .code yX2_threeIn cX2_threeIn 4 (some .int), .methodLink RX2 30 yX2_leafAt, .instanceMethod yX2_leafAt, .selects RX2 yX2_leafAt yX2_leafAt, .code yX2_leafAt cX2_leafAt 5 (some .int), .fieldLink RX2 27 "VineWallModel" "side" "I", .fieldLink RX2 7 "VineWallModel" "walls" "[I"] ++ wsX20)
def wsX2_neighboursOf : List Cond := .code yX2_neighboursOf cX2_neighboursOf 3 (some .int) :: ([.fieldLink RX2 20 "VineWallModel" "thrown" "I", .methodLink RX2 63 yX2_isCell, .static yX2_isCell, .initialized RX2, .code yX2_isCell cX2_isCell 2 (some .boolean), .methodLink RX2 23 yX2_isColumn, .static yX2_isColumn, .code yX2_isColumn cX2_isColumn 1 (some .boolean), .methodLink RX2 47 yX2_neighbours, .instanceMethod yX2_neighbours, .selects RX2 yX2_neighbours yX2_neighbours, .code yX2_neighbours cX2_neighbours 4 (some .int), .methodLink RX2 34 yX2_threeIn, .instanceMethod yX2_threeIn, .selects RX2 yX2_threeIn yX2_threeIn, .code yX2_threeIn cX2_threeIn 4 (some .int), .methodLink RX2 30 yX2_leafAt, .instanceMethod yX2_leafAt, .selects RX2 yX2_leafAt yX2_leafAt, .code yX2_leafAt cX2_leafAt 5 (some .int), .fieldLink RX2 27 "VineWallModel" "side" "I", .fieldLink RX2 7 "VineWallModel" "walls" "[I"] ++ wsX20)
def wsX2_leavesIn : List Cond := .code yX2_leavesIn cX2_leavesIn 2 (some .int) :: ([.fieldLink RX2 20 "VineWallModel" "thrown" "I", .methodLink RX2 23 yX2_isColumn, .static yX2_isColumn, .initialized RX2, .code yX2_isColumn cX2_isColumn 1 (some .boolean), .methodLink RX2 40 yX2_inColumn, .instanceMethod yX2_inColumn, .selects RX2 yX2_inColumn yX2_inColumn, .code yX2_inColumn cX2_inColumn 3 (some .int), .methodLink RX2 30 yX2_leafAt, .instanceMethod yX2_leafAt, .selects RX2 yX2_leafAt yX2_leafAt, .code yX2_leafAt cX2_leafAt 5 (some .int), .fieldLink RX2 27 "VineWallModel" "side" "I", .fieldLink RX2 7 "VineWallModel" "walls" "[I", .methodLink RX2 37 yX2_shade, .instanceMethod yX2_shade, .selects RX2 yX2_shade yX2_shade, .code yX2_shade cX2_shade 6 (some .int)] ++ wsX20)
def wsX2_leaves : List Cond := .code yX2_leaves cX2_leaves 1 (some .int) :: ([.fieldLink RX2 20 "VineWallModel" "thrown" "I", .methodLink RX2 67 yX2_allLeaves, .instanceMethod yX2_allLeaves, .selects RX2 yX2_allLeaves yX2_allLeaves, .initialized RX2, .code yX2_allLeaves cX2_allLeaves 4 (some .int), .methodLink RX2 40 yX2_inColumn, .instanceMethod yX2_inColumn, .selects RX2 yX2_inColumn yX2_inColumn, .code yX2_inColumn cX2_inColumn 3 (some .int), .methodLink RX2 30 yX2_leafAt, .instanceMethod yX2_leafAt, .selects RX2 yX2_leafAt yX2_leafAt, .code yX2_leafAt cX2_leafAt 5 (some .int), .fieldLink RX2 27 "VineWallModel" "side" "I", .fieldLink RX2 7 "VineWallModel" "walls" "[I", .methodLink RX2 23 yX2_isColumn, .static yX2_isColumn, .code yX2_isColumn cX2_isColumn 1 (some .boolean), .methodLink RX2 37 yX2_shade, .instanceMethod yX2_shade, .selects RX2 yX2_shade yX2_shade, .code yX2_shade cX2_shade 6 (some .int)] ++ wsX20)
def wsX2_lit : List Cond := .code yX2_lit cX2_lit 1 (some .int) :: ([.fieldLink RX2 20 "VineWallModel" "thrown" "I", .methodLink RX2 80 yX2_allLit, .instanceMethod yX2_allLit, .selects RX2 yX2_allLit yX2_allLit, .initialized RX2, .code yX2_allLit cX2_allLit 4 (some .int), .methodLink RX2 40 yX2_inColumn, .instanceMethod yX2_inColumn, .selects RX2 yX2_inColumn yX2_inColumn, .code yX2_inColumn cX2_inColumn 3 (some .int), .methodLink RX2 30 yX2_leafAt, .instanceMethod yX2_leafAt, .selects RX2 yX2_leafAt yX2_leafAt, .code yX2_leafAt cX2_leafAt 5 (some .int), .fieldLink RX2 27 "VineWallModel" "side" "I", .fieldLink RX2 7 "VineWallModel" "walls" "[I", .methodLink RX2 23 yX2_isColumn, .static yX2_isColumn, .code yX2_isColumn cX2_isColumn 1 (some .boolean), .methodLink RX2 37 yX2_shade, .instanceMethod yX2_shade, .selects RX2 yX2_shade yX2_shade, .code yX2_shade cX2_shade 6 (some .int)] ++ wsX20)
def wsX2_generation : List Cond := .code yX2_generation cX2_generation 1 (some .int) :: ([.fieldLink RX2 20 "VineWallModel" "thrown" "I", .fieldLink RX2 57 "VineWallModel" "generation" "I"] ++ wsX20)
def wsX2_cutsLeft : List Cond := .code yX2_cutsLeft cX2_cutsLeft 1 (some .int) :: ([.fieldLink RX2 20 "VineWallModel" "thrown" "I", .fieldLink RX2 16 "VineWallModel" "cuts" "I"] ++ wsX20)
def wsX2_broken : List Cond := .code yX2_broken cX2_broken 1 (some .int) :: ([.fieldLink RX2 20 "VineWallModel" "thrown" "I", .fieldLink RX2 70 "VineWallModel" "broken" "I"] ++ wsX20)
def wsX2_leavesNext_r1 : List Cond := [Cond.fieldLink RX2 20 "VineWallModel" "thrown" "I", Cond.methodLink RX2 73 yX2_grows, Cond.instanceMethod yX2_grows, Cond.selects RX2 yX2_grows yX2_grows, Cond.initialized RX2, Cond.code yX2_grows cX2_grows 5 (some .int), Cond.fieldLink RX2 7 "VineWallModel" "walls" "[I", Cond.methodLink RX2 50 yX2_becomes, Cond.instanceMethod yX2_becomes, Cond.selects RX2 yX2_becomes yX2_becomes, Cond.code yX2_becomes cX2_becomes 8 (some .int), Cond.methodLink RX2 44 yX2_holders, Cond.instanceMethod yX2_holders, Cond.selects RX2 yX2_holders yX2_holders, Cond.code yX2_holders cX2_holders 4 (some .int), Cond.methodLink RX2 34 yX2_threeIn, Cond.instanceMethod yX2_threeIn, Cond.selects RX2 yX2_threeIn yX2_threeIn, Cond.code yX2_threeIn cX2_threeIn 4 (some .int), Cond.methodLink RX2 30 yX2_leafAt, Cond.instanceMethod yX2_leafAt, Cond.selects RX2 yX2_leafAt yX2_leafAt, Cond.code yX2_leafAt cX2_leafAt 5 (some .int), Cond.fieldLink RX2 27 "VineWallModel" "side" "I"]
def wsX2_leavesNext_r2 : List Cond := [Cond.methodLink RX2 23 yX2_isColumn, Cond.static yX2_isColumn, Cond.code yX2_isColumn cX2_isColumn 1 (some .boolean), Cond.methodLink RX2 47 yX2_neighbours, Cond.instanceMethod yX2_neighbours, Cond.selects RX2 yX2_neighbours yX2_neighbours, Cond.code yX2_neighbours cX2_neighbours 4 (some .int), Cond.methodLink RX2 37 yX2_shade, Cond.instanceMethod yX2_shade, Cond.selects RX2 yX2_shade yX2_shade, Cond.code yX2_shade cX2_shade 6 (some .int), Cond.methodLink RX2 53 yX2_breaks, Cond.instanceMethod yX2_breaks, Cond.selects RX2 yX2_breaks yX2_breaks, Cond.code yX2_breaks cX2_breaks 6 (some .int), Cond.fieldLink RX2 13 "VineWallModel" "bears" "[I", Cond.methodLink RX2 40 yX2_inColumn, Cond.instanceMethod yX2_inColumn, Cond.selects RX2 yX2_inColumn yX2_inColumn, Cond.code yX2_inColumn cX2_inColumn 3 (some .int), Cond.methodLink RX2 67 yX2_allLeaves, Cond.instanceMethod yX2_allLeaves, Cond.selects RX2 yX2_allLeaves yX2_allLeaves, Cond.code yX2_allLeaves cX2_allLeaves 4 (some .int)]
def wsX2_leavesNext : List Cond := .code yX2_leavesNext cX2_leavesNext 2 (some .int) :: ((wsX2_leavesNext_r1 ++ wsX2_leavesNext_r2) ++ wsX20)
def wsX2_areAlike : List Cond := .code yX2_areAlike cX2_areAlike 4 (some .boolean) :: ([.fieldLink RX2 7 "VineWallModel" "walls" "[I"] ++ wsX20)
def wsX2_repeatsIn_r1 : List Cond := [Cond.fieldLink RX2 20 "VineWallModel" "thrown" "I", Cond.methodLink RX2 73 yX2_grows, Cond.instanceMethod yX2_grows, Cond.selects RX2 yX2_grows yX2_grows, Cond.initialized RX2, Cond.code yX2_grows cX2_grows 5 (some .int), Cond.fieldLink RX2 7 "VineWallModel" "walls" "[I", Cond.methodLink RX2 50 yX2_becomes, Cond.instanceMethod yX2_becomes, Cond.selects RX2 yX2_becomes yX2_becomes, Cond.code yX2_becomes cX2_becomes 8 (some .int), Cond.methodLink RX2 44 yX2_holders, Cond.instanceMethod yX2_holders, Cond.selects RX2 yX2_holders yX2_holders, Cond.code yX2_holders cX2_holders 4 (some .int), Cond.methodLink RX2 34 yX2_threeIn, Cond.instanceMethod yX2_threeIn, Cond.selects RX2 yX2_threeIn yX2_threeIn, Cond.code yX2_threeIn cX2_threeIn 4 (some .int), Cond.methodLink RX2 30 yX2_leafAt, Cond.instanceMethod yX2_leafAt, Cond.selects RX2 yX2_leafAt yX2_leafAt, Cond.code yX2_leafAt cX2_leafAt 5 (some .int), Cond.fieldLink RX2 27 "VineWallModel" "side" "I"]
def wsX2_repeatsIn_r2 : List Cond := [Cond.methodLink RX2 23 yX2_isColumn, Cond.static yX2_isColumn, Cond.code yX2_isColumn cX2_isColumn 1 (some .boolean), Cond.methodLink RX2 47 yX2_neighbours, Cond.instanceMethod yX2_neighbours, Cond.selects RX2 yX2_neighbours yX2_neighbours, Cond.code yX2_neighbours cX2_neighbours 4 (some .int), Cond.methodLink RX2 37 yX2_shade, Cond.instanceMethod yX2_shade, Cond.selects RX2 yX2_shade yX2_shade, Cond.code yX2_shade cX2_shade 6 (some .int), Cond.methodLink RX2 53 yX2_breaks, Cond.instanceMethod yX2_breaks, Cond.selects RX2 yX2_breaks yX2_breaks, Cond.code yX2_breaks cX2_breaks 6 (some .int), Cond.fieldLink RX2 13 "VineWallModel" "bears" "[I", Cond.methodLink RX2 40 yX2_inColumn, Cond.instanceMethod yX2_inColumn, Cond.selects RX2 yX2_inColumn yX2_inColumn, Cond.code yX2_inColumn cX2_inColumn 3 (some .int), Cond.methodLink RX2 83 yX2_areAlike, Cond.instanceMethod yX2_areAlike, Cond.selects RX2 yX2_areAlike yX2_areAlike, Cond.code yX2_areAlike cX2_areAlike 4 (some .boolean)]
def wsX2_repeatsIn : List Cond := .code yX2_repeatsIn cX2_repeatsIn 4 (some .int) :: ((wsX2_repeatsIn_r1 ++ wsX2_repeatsIn_r2) ++ wsX20)
def wsX2_bestCut_r1 : List Cond := [Cond.fieldLink RX2 20 "VineWallModel" "thrown" "I", Cond.fieldLink RX2 7 "VineWallModel" "walls" "[I", Cond.methodLink RX2 76 yX2_copies, Cond.instanceMethod yX2_copies, Cond.selects RX2 yX2_copies yX2_copies, Cond.initialized RX2, Cond.code yX2_copies cX2_copies 4 none, Cond.methodLink RX2 73 yX2_grows, Cond.instanceMethod yX2_grows, Cond.selects RX2 yX2_grows yX2_grows, Cond.code yX2_grows cX2_grows 5 (some .int), Cond.methodLink RX2 50 yX2_becomes, Cond.instanceMethod yX2_becomes, Cond.selects RX2 yX2_becomes yX2_becomes, Cond.code yX2_becomes cX2_becomes 8 (some .int), Cond.methodLink RX2 44 yX2_holders, Cond.instanceMethod yX2_holders, Cond.selects RX2 yX2_holders yX2_holders, Cond.code yX2_holders cX2_holders 4 (some .int), Cond.methodLink RX2 34 yX2_threeIn, Cond.instanceMethod yX2_threeIn, Cond.selects RX2 yX2_threeIn yX2_threeIn, Cond.code yX2_threeIn cX2_threeIn 4 (some .int), Cond.methodLink RX2 30 yX2_leafAt]
def wsX2_bestCut_r2 : List Cond := [Cond.instanceMethod yX2_leafAt, Cond.selects RX2 yX2_leafAt yX2_leafAt, Cond.code yX2_leafAt cX2_leafAt 5 (some .int), Cond.fieldLink RX2 27 "VineWallModel" "side" "I", Cond.methodLink RX2 23 yX2_isColumn, Cond.static yX2_isColumn, Cond.code yX2_isColumn cX2_isColumn 1 (some .boolean), Cond.methodLink RX2 47 yX2_neighbours, Cond.instanceMethod yX2_neighbours, Cond.selects RX2 yX2_neighbours yX2_neighbours, Cond.code yX2_neighbours cX2_neighbours 4 (some .int), Cond.methodLink RX2 37 yX2_shade, Cond.instanceMethod yX2_shade, Cond.selects RX2 yX2_shade yX2_shade, Cond.code yX2_shade cX2_shade 6 (some .int), Cond.methodLink RX2 53 yX2_breaks, Cond.instanceMethod yX2_breaks, Cond.selects RX2 yX2_breaks yX2_breaks, Cond.code yX2_breaks cX2_breaks 6 (some .int), Cond.fieldLink RX2 13 "VineWallModel" "bears" "[I", Cond.methodLink RX2 40 yX2_inColumn, Cond.instanceMethod yX2_inColumn, Cond.selects RX2 yX2_inColumn yX2_inColumn, Cond.code yX2_inColumn cX2_inColumn 3 (some .int)]
def wsX2_bestCut_r3 : List Cond := [Cond.methodLink RX2 80 yX2_allLit, Cond.instanceMethod yX2_allLit, Cond.selects RX2 yX2_allLit yX2_allLit, Cond.code yX2_allLit cX2_allLit 4 (some .int)]
def wsX2_bestCut : List Cond := .code yX2_bestCut cX2_bestCut 6 (some .int) :: ((wsX2_bestCut_r1 ++ (wsX2_bestCut_r2 ++ wsX2_bestCut_r3)) ++ wsX20)
def wsL_sides : List Cond := .codeWith yL_sides cL_sides 3 (some .int) [(0, 5, 8, 13), (0, 5, 11, 15)] :: ([.classLink RL 13 "java/lang/IllegalArgumentException", .classLink RL 15 "java/lang/IllegalStateException", .methodLink RL 7 yX1_sides, .instanceMethod yX1_sides, .selects RX1 yX1_sides yX1_sides, .initialized RX1, .code yX1_sides cX1_sides 2 none, .classLink RX1 49 "java/lang/IllegalArgumentException", .initialized "java/lang/IllegalArgumentException", .classLink RX1 56 "java/lang/IllegalStateException", .initialized "java/lang/IllegalStateException", .fieldLink RX1 43 "VineWall" "generationsGone" "I", .fieldLink RX1 33 "VineWall" "beyond" "I"] ++ wsX10 ++ (vx_atS RX1 53 "java/lang/IllegalArgumentException" ["java/lang/RuntimeException", "java/lang/Exception"]).filter goodWord ++ (vx_atS RX1 60 "java/lang/IllegalStateException" ["java/lang/RuntimeException", "java/lang/Exception"]).filter goodWord)
def wsL_plant_r1 : List Cond := [Cond.classLink RL 20 "java/lang/IndexOutOfBoundsException", Cond.classLink RL 15 "java/lang/IllegalStateException", Cond.methodLink RL 17 yX1_plant, Cond.instanceMethod yX1_plant, Cond.selects RX1 yX1_plant yX1_plant, Cond.initialized RX1, Cond.code yX1_plant cX1_plant 2 none, Cond.classLink RX1 56 "java/lang/IllegalStateException", Cond.initialized "java/lang/IllegalStateException", Cond.fieldLink RX1 10 "VineWall" "wall" "LVineWall$Wall;", Cond.fieldLink RX1 37 "VineWall" "planted" "I", Cond.methodLink RX1 61 yX1_requireColumn, Cond.static yX1_requireColumn, Cond.code yX1_requireColumn cX1_requireColumn 1 none, Cond.classLink RX1 150 "java/lang/IndexOutOfBoundsException", Cond.initialized "java/lang/IndexOutOfBoundsException", Cond.methodLink RX1 65 yX0_isBareAt, Cond.instanceMethod yX0_isBareAt, Cond.selects RX0 yX0_isBareAt yX0_isBareAt, Cond.initialized RX0, Cond.code yX0_isBareAt cX0_isBareAt 3 (some .boolean), Cond.methodLink RX0 22 yX0_hasLeafAt, Cond.instanceMethod yX0_hasLeafAt, Cond.selects RX0 yX0_hasLeafAt yX0_hasLeafAt]
def wsL_plant_r2 : List Cond := [Cond.code yX0_hasLeafAt cX0_hasLeafAt 3 (some .boolean), Cond.methodLink RX0 18 yX0_leafRow, Cond.instanceMethod yX0_leafRow, Cond.selects RX0 yX0_leafRow yX0_leafRow, Cond.code yX0_leafRow cX0_leafRow 2 (some .int), Cond.fieldLink RX0 9 "VineWall$Wall" "leafRows" "[I", Cond.methodLink RX0 26 yX0_hasCutAt, Cond.instanceMethod yX0_hasCutAt, Cond.selects RX0 yX0_hasCutAt yX0_hasCutAt, Cond.code yX0_hasCutAt cX0_hasCutAt 3 (some .boolean), Cond.fieldLink RX0 15 "VineWall$Wall" "cutRows" "[I", Cond.methodLink RX1 73 yX0_putLeaf, Cond.instanceMethod yX0_putLeaf, Cond.selects RX0 yX0_putLeaf yX0_putLeaf, Cond.code yX0_putLeaf cX0_putLeaf 3 none, Cond.static yX1_isCell, Cond.code yX1_isCell cX1_isCell 2 (some .boolean)]
def wsL_plant : List Cond := .codeWith yL_plant cL_plant 3 (some .int) [(0, 5, 8, 20), (0, 5, 11, 15)] :: ((wsL_plant_r1 ++ wsL_plant_r2) ++ wsX10 ++ wsX00 ++ (vx_atS RX1 60 "java/lang/IllegalStateException" ["java/lang/RuntimeException", "java/lang/Exception"]).filter goodWord ++ (vx_atS RX1 154 "java/lang/IndexOutOfBoundsException" ["java/lang/RuntimeException", "java/lang/Exception"]).filter goodWord)
def wsL_trellis : List Cond := .codeWith yL_trellis cL_trellis 5 (some .int) [(0, 10, 13, 20), (0, 10, 17, 13)] :: ([.classLink RL 20 "java/lang/IndexOutOfBoundsException", .classLink RL 13 "java/lang/IllegalArgumentException", .methodLink RL 22 yX1_trellis, .instanceMethod yX1_trellis, .selects RX1 yX1_trellis yX1_trellis, .initialized RX1, .code yX1_trellis cX1_trellis 4 (some .int), .classLink RX1 49 "java/lang/IllegalArgumentException", .initialized "java/lang/IllegalArgumentException", .fieldLink RX1 29 "VineWall" "bearings" "[I", .methodLink RX1 61 yX1_requireColumn, .static yX1_requireColumn, .code yX1_requireColumn cX1_requireColumn 1 none, .classLink RX1 150 "java/lang/IndexOutOfBoundsException", .initialized "java/lang/IndexOutOfBoundsException"] ++ wsX10 ++ (vx_atS RX1 53 "java/lang/IllegalArgumentException" ["java/lang/RuntimeException", "java/lang/Exception"]).filter goodWord ++ (vx_atS RX1 154 "java/lang/IndexOutOfBoundsException" ["java/lang/RuntimeException", "java/lang/Exception"]).filter goodWord)
def wsL_cut_r1 : List Cond := [Cond.classLink RL 20 "java/lang/IndexOutOfBoundsException", Cond.classLink RL 15 "java/lang/IllegalStateException", Cond.methodLink RL 26 yX1_cut, Cond.instanceMethod yX1_cut, Cond.selects RX1 yX1_cut yX1_cut, Cond.initialized RX1, Cond.code yX1_cut cX1_cut 3 (some .int), Cond.classLink RX1 56 "java/lang/IllegalStateException", Cond.initialized "java/lang/IllegalStateException", Cond.fieldLink RX1 10 "VineWall" "wall" "LVineWall$Wall;", Cond.fieldLink RX1 40 "VineWall" "cutsDone" "I", Cond.methodLink RX1 79 yX1_requireCell, Cond.static yX1_requireCell, Cond.code yX1_requireCell cX1_requireCell 2 none, Cond.classLink RX1 150 "java/lang/IndexOutOfBoundsException", Cond.initialized "java/lang/IndexOutOfBoundsException", Cond.methodLink RX1 155 yX1_isCell, Cond.static yX1_isCell, Cond.code yX1_isCell cX1_isCell 2 (some .boolean), Cond.methodLink RX1 82 yX0_hasLeafAt, Cond.instanceMethod yX0_hasLeafAt, Cond.selects RX0 yX0_hasLeafAt yX0_hasLeafAt, Cond.initialized RX0, Cond.code yX0_hasLeafAt cX0_hasLeafAt 3 (some .boolean)]
def wsL_cut_r2 : List Cond := [Cond.methodLink RX0 18 yX0_leafRow, Cond.instanceMethod yX0_leafRow, Cond.selects RX0 yX0_leafRow yX0_leafRow, Cond.code yX0_leafRow cX0_leafRow 2 (some .int), Cond.fieldLink RX0 9 "VineWall$Wall" "leafRows" "[I", Cond.methodLink RX1 87 yX1_cutsLeft, Cond.instanceMethod yX1_cutsLeft, Cond.selects RX1 yX1_cutsLeft yX1_cutsLeft, Cond.code yX1_cutsLeft cX1_cutsLeft 1 (some .int), Cond.methodLink RX1 93 yX0_cutLeaf, Cond.instanceMethod yX0_cutLeaf, Cond.selects RX0 yX0_cutLeaf yX0_cutLeaf, Cond.code yX0_cutLeaf cX0_cutLeaf 3 none, Cond.fieldLink RX0 15 "VineWall$Wall" "cutRows" "[I", Cond.methodLink RX0 32 yX0_takeLeaf, Cond.instanceMethod yX0_takeLeaf, Cond.selects RX0 yX0_takeLeaf yX0_takeLeaf, Cond.code yX0_takeLeaf cX0_takeLeaf 3 none]
def wsL_cut : List Cond := .codeWith yL_cut cL_cut 5 (some .int) [(0, 10, 13, 20), (0, 10, 17, 15)] :: ((wsL_cut_r1 ++ wsL_cut_r2) ++ wsX10 ++ wsX00 ++ (vx_atS RX1 60 "java/lang/IllegalStateException" ["java/lang/RuntimeException", "java/lang/Exception"]).filter goodWord ++ (vx_atS RX1 154 "java/lang/IndexOutOfBoundsException" ["java/lang/RuntimeException", "java/lang/Exception"]).filter goodWord)
def wsL_grow_r1 : List Cond := [Cond.classLink RL 15 "java/lang/IllegalStateException", Cond.methodLink RL 29 yX1_grow, Cond.instanceMethod yX1_grow, Cond.selects RX1 yX1_grow yX1_grow, Cond.initialized RX1, Cond.code yX1_grow cX1_grow 2 (some .int), Cond.classLink RX1 56 "java/lang/IllegalStateException", Cond.initialized "java/lang/IllegalStateException", Cond.fieldLink RX1 43 "VineWall" "generationsGone" "I", Cond.fieldLink RX1 46 "VineWall" "fallen" "I", Cond.fieldLink RX1 19 "VineWall" "behind" "LVineWall$Wall;", Cond.fieldLink RX1 10 "VineWall" "wall" "LVineWall$Wall;", Cond.fieldLink RX1 33 "VineWall" "beyond" "I", Cond.fieldLink RX1 29 "VineWall" "bearings" "[I", Cond.fieldLink RX1 40 "VineWall" "cutsDone" "I", Cond.methodLink RX1 98 yX1_leaves, Cond.instanceMethod yX1_leaves, Cond.selects RX1 yX1_leaves yX1_leaves, Cond.code yX1_leaves cX1_leaves 1 (some .int), Cond.methodLink RX1 124 yX0_countLeaves, Cond.instanceMethod yX0_countLeaves, Cond.selects RX0 yX0_countLeaves yX0_countLeaves, Cond.initialized RX0, Cond.code yX0_countLeaves cX0_countLeaves 3 (some .int)]
def wsL_grow_r2 : List Cond := [Cond.fieldLink RX0 9 "VineWall$Wall" "leafRows" "[I", Cond.methodLink RX0 50 yJ6_bitCount_0f7a4, Cond.static yJ6_bitCount_0f7a4, Cond.initialized RJ6, Cond.code yJ6_bitCount_0f7a4 cJ6_bitCount_0f7a4 1 (some .int), Cond.constant RJ6 265 (1431655765), Cond.constant RJ6 266 (858993459), Cond.constant RJ6 267 (252645135), Cond.methodLink RX1 101 yX0_becomeNextOf, Cond.instanceMethod yX0_becomeNextOf, Cond.selects RX0 yX0_becomeNextOf yX0_becomeNextOf, Cond.code yX0_becomeNextOf cX0_becomeNextOf 6 (some .int), Cond.fieldLink RX0 15 "VineWall$Wall" "cutRows" "[I", Cond.methodLink RX0 55 yX0_leafRowNext, Cond.instanceMethod yX0_leafRowNext, Cond.selects RX0 yX0_leafRowNext yX0_leafRowNext, Cond.code yX0_leafRowNext cX0_leafRowNext 10 (some .int), Cond.methodLink RX0 18 yX0_leafRow, Cond.instanceMethod yX0_leafRow, Cond.selects RX0 yX0_leafRow yX0_leafRow, Cond.code yX0_leafRow cX0_leafRow 2 (some .int), Cond.methodLink RX0 36 yX0_leafRowAsSeen, Cond.instanceMethod yX0_leafRowAsSeen, Cond.selects RX0 yX0_leafRowAsSeen yX0_leafRowAsSeen]
def wsL_grow_r3 : List Cond := [Cond.code yX0_leafRowAsSeen cX0_leafRowAsSeen 7 (some .int), Cond.methodLink RX0 40 yX0_countHolders, Cond.static yX0_countHolders, Cond.code yX0_countHolders cX0_countHolders 1 (some .int), Cond.methodLink RX0 43 yX0_countNeighbours, Cond.static yX0_countNeighbours, Cond.code yX0_countNeighbours cX0_countNeighbours 3 (some .int), Cond.methodLink RX0 64 yX0_bearsLeafNext, Cond.instanceMethod yX0_bearsLeafNext, Cond.selects RX0 yX0_bearsLeafNext yX0_bearsLeafNext, Cond.code yX0_bearsLeafNext cX0_bearsLeafNext 6 (some .boolean), Cond.methodLink RX0 26 yX0_hasCutAt, Cond.instanceMethod yX0_hasCutAt, Cond.selects RX0 yX0_hasCutAt yX0_hasCutAt, Cond.code yX0_hasCutAt cX0_hasCutAt 3 (some .boolean), Cond.methodLink RX0 47 yX0_shadeAt, Cond.instanceMethod yX0_shadeAt, Cond.selects RX0 yX0_shadeAt yX0_shadeAt, Cond.code yX0_shadeAt cX0_shadeAt 5 (some .int), Cond.methodLink RX0 22 yX0_hasLeafAt, Cond.instanceMethod yX0_hasLeafAt, Cond.selects RX0 yX0_hasLeafAt yX0_hasLeafAt, Cond.code yX0_hasLeafAt cX0_hasLeafAt 3 (some .boolean), Cond.methodLink RX0 58 yX0_countInColumn]
def wsL_grow_r4 : List Cond := [Cond.instanceMethod yX0_countInColumn, Cond.selects RX0 yX0_countInColumn yX0_countInColumn, Cond.code yX0_countInColumn cX0_countInColumn 2 (some .int), Cond.methodLink RX0 61 yX0_takeTopmost, Cond.instanceMethod yX0_takeTopmost, Cond.selects RX0 yX0_takeTopmost yX0_takeTopmost, Cond.code yX0_takeTopmost cX0_takeTopmost 5 (some .int), Cond.methodLink RX0 32 yX0_takeLeaf, Cond.instanceMethod yX0_takeLeaf, Cond.selects RX0 yX0_takeLeaf yX0_takeLeaf, Cond.code yX0_takeLeaf cX0_takeLeaf 3 none, Cond.static yX1_isCell, Cond.code yX1_isCell cX1_isCell 2 (some .boolean), Cond.methodLink RX1 105 yX0_copyFrom, Cond.instanceMethod yX0_copyFrom, Cond.selects RX0 yX0_copyFrom yX0_copyFrom, Cond.code yX0_copyFrom cX0_copyFrom 3 none]
def wsL_grow : List Cond := .codeWith yL_grow cL_grow 3 (some .int) [(0, 8, 11, 15)] :: ((wsL_grow_r1 ++ (wsL_grow_r2 ++ (wsL_grow_r3 ++ wsL_grow_r4))) ++ wsX10 ++ wsX00 ++ (vx_atS RX1 60 "java/lang/IllegalStateException" ["java/lang/RuntimeException", "java/lang/Exception"]).filter goodWord)
def wsL_look_r1 : List Cond := [Cond.classLink RL 20 "java/lang/IndexOutOfBoundsException", Cond.methodLink RL 33 yX1_look, Cond.instanceMethod yX1_look, Cond.selects RX1 yX1_look yX1_look, Cond.initialized RX1, Cond.code yX1_look cX1_look 3 (some .char), Cond.fieldLink RX1 10 "VineWall" "wall" "LVineWall$Wall;", Cond.methodLink RX1 79 yX1_requireCell, Cond.static yX1_requireCell, Cond.code yX1_requireCell cX1_requireCell 2 none, Cond.classLink RX1 150 "java/lang/IndexOutOfBoundsException", Cond.initialized "java/lang/IndexOutOfBoundsException", Cond.methodLink RX1 155 yX1_isCell, Cond.static yX1_isCell, Cond.code yX1_isCell cX1_isCell 2 (some .boolean), Cond.methodLink RX1 82 yX0_hasLeafAt, Cond.instanceMethod yX0_hasLeafAt, Cond.selects RX0 yX0_hasLeafAt yX0_hasLeafAt, Cond.initialized RX0, Cond.code yX0_hasLeafAt cX0_hasLeafAt 3 (some .boolean), Cond.methodLink RX0 18 yX0_leafRow, Cond.instanceMethod yX0_leafRow, Cond.selects RX0 yX0_leafRow yX0_leafRow, Cond.code yX0_leafRow cX0_leafRow 2 (some .int)]
def wsL_look_r2 : List Cond := [Cond.fieldLink RX0 9 "VineWall$Wall" "leafRows" "[I", Cond.methodLink RX1 65 yX0_isBareAt, Cond.instanceMethod yX0_isBareAt, Cond.selects RX0 yX0_isBareAt yX0_isBareAt, Cond.code yX0_isBareAt cX0_isBareAt 3 (some .boolean), Cond.methodLink RX0 22 yX0_hasLeafAt, Cond.methodLink RX0 26 yX0_hasCutAt, Cond.instanceMethod yX0_hasCutAt, Cond.selects RX0 yX0_hasCutAt yX0_hasCutAt, Cond.code yX0_hasCutAt cX0_hasCutAt 3 (some .boolean), Cond.fieldLink RX0 15 "VineWall$Wall" "cutRows" "[I"]
def wsL_look : List Cond := .codeWith yL_look cL_look 5 (some .int) [(0, 10, 13, 20)] :: ((wsL_look_r1 ++ wsL_look_r2) ++ wsX10 ++ wsX00 ++ (vx_atS RX1 154 "java/lang/IndexOutOfBoundsException" ["java/lang/RuntimeException", "java/lang/Exception"]).filter goodWord)
def wsL_shadeOf_r1 : List Cond := [Cond.classLink RL 20 "java/lang/IndexOutOfBoundsException", Cond.methodLink RL 37 yX1_shadeOf, Cond.instanceMethod yX1_shadeOf, Cond.selects RX1 yX1_shadeOf yX1_shadeOf, Cond.initialized RX1, Cond.code yX1_shadeOf cX1_shadeOf 3 (some .int), Cond.fieldLink RX1 10 "VineWall" "wall" "LVineWall$Wall;", Cond.methodLink RX1 79 yX1_requireCell, Cond.static yX1_requireCell, Cond.code yX1_requireCell cX1_requireCell 2 none, Cond.classLink RX1 150 "java/lang/IndexOutOfBoundsException", Cond.initialized "java/lang/IndexOutOfBoundsException", Cond.methodLink RX1 155 yX1_isCell, Cond.static yX1_isCell, Cond.code yX1_isCell cX1_isCell 2 (some .boolean), Cond.methodLink RX1 109 yX0_shadeAt, Cond.instanceMethod yX0_shadeAt, Cond.selects RX0 yX0_shadeAt yX0_shadeAt, Cond.initialized RX0, Cond.code yX0_shadeAt cX0_shadeAt 5 (some .int), Cond.methodLink RX0 18 yX0_leafRow, Cond.instanceMethod yX0_leafRow, Cond.selects RX0 yX0_leafRow yX0_leafRow, Cond.code yX0_leafRow cX0_leafRow 2 (some .int)]
def wsL_shadeOf_r2 : List Cond := [Cond.fieldLink RX0 9 "VineWall$Wall" "leafRows" "[I"]
def wsL_shadeOf : List Cond := .codeWith yL_shadeOf cL_shadeOf 5 (some .int) [(0, 10, 13, 20)] :: ((wsL_shadeOf_r1 ++ wsL_shadeOf_r2) ++ wsX10 ++ wsX00 ++ (vx_atS RX1 154 "java/lang/IndexOutOfBoundsException" ["java/lang/RuntimeException", "java/lang/Exception"]).filter goodWord)
def wsL_holdersOf_r1 : List Cond := [Cond.classLink RL 20 "java/lang/IndexOutOfBoundsException", Cond.methodLink RL 40 yX1_holdersOf, Cond.instanceMethod yX1_holdersOf, Cond.selects RX1 yX1_holdersOf yX1_holdersOf, Cond.initialized RX1, Cond.code yX1_holdersOf cX1_holdersOf 3 (some .int), Cond.fieldLink RX1 10 "VineWall" "wall" "LVineWall$Wall;", Cond.fieldLink RX1 33 "VineWall" "beyond" "I", Cond.methodLink RX1 79 yX1_requireCell, Cond.static yX1_requireCell, Cond.code yX1_requireCell cX1_requireCell 2 none, Cond.classLink RX1 150 "java/lang/IndexOutOfBoundsException", Cond.initialized "java/lang/IndexOutOfBoundsException", Cond.methodLink RX1 155 yX1_isCell, Cond.static yX1_isCell, Cond.code yX1_isCell cX1_isCell 2 (some .boolean), Cond.methodLink RX1 113 yX0_holdersAt, Cond.instanceMethod yX0_holdersAt, Cond.selects RX0 yX0_holdersAt yX0_holdersAt, Cond.initialized RX0, Cond.code yX0_holdersAt cX0_holdersAt 4 (some .int), Cond.methodLink RX0 36 yX0_leafRowAsSeen, Cond.instanceMethod yX0_leafRowAsSeen, Cond.selects RX0 yX0_leafRowAsSeen yX0_leafRowAsSeen]
def wsL_holdersOf_r2 : List Cond := [Cond.code yX0_leafRowAsSeen cX0_leafRowAsSeen 7 (some .int), Cond.methodLink RX0 18 yX0_leafRow, Cond.instanceMethod yX0_leafRow, Cond.selects RX0 yX0_leafRow yX0_leafRow, Cond.code yX0_leafRow cX0_leafRow 2 (some .int), Cond.fieldLink RX0 9 "VineWall$Wall" "leafRows" "[I", Cond.methodLink RX0 40 yX0_countHolders, Cond.static yX0_countHolders, Cond.code yX0_countHolders cX0_countHolders 1 (some .int), Cond.methodLink RX0 50 yJ6_bitCount_0f7a4, Cond.static yJ6_bitCount_0f7a4, Cond.initialized RJ6, Cond.code yJ6_bitCount_0f7a4 cJ6_bitCount_0f7a4 1 (some .int), Cond.constant RJ6 265 (1431655765), Cond.constant RJ6 266 (858993459), Cond.constant RJ6 267 (252645135)]
def wsL_holdersOf : List Cond := .codeWith yL_holdersOf cL_holdersOf 5 (some .int) [(0, 10, 13, 20)] :: ((wsL_holdersOf_r1 ++ wsL_holdersOf_r2) ++ wsX10 ++ wsX00 ++ (vx_atS RX1 154 "java/lang/IndexOutOfBoundsException" ["java/lang/RuntimeException", "java/lang/Exception"]).filter goodWord)
def wsL_neighboursOf_r1 : List Cond := [Cond.classLink RL 20 "java/lang/IndexOutOfBoundsException", Cond.methodLink RL 43 yX1_neighboursOf, Cond.instanceMethod yX1_neighboursOf, Cond.selects RX1 yX1_neighboursOf yX1_neighboursOf, Cond.initialized RX1, Cond.code yX1_neighboursOf cX1_neighboursOf 3 (some .int), Cond.fieldLink RX1 10 "VineWall" "wall" "LVineWall$Wall;", Cond.fieldLink RX1 33 "VineWall" "beyond" "I", Cond.methodLink RX1 79 yX1_requireCell, Cond.static yX1_requireCell, Cond.code yX1_requireCell cX1_requireCell 2 none, Cond.classLink RX1 150 "java/lang/IndexOutOfBoundsException", Cond.initialized "java/lang/IndexOutOfBoundsException", Cond.methodLink RX1 155 yX1_isCell, Cond.static yX1_isCell, Cond.code yX1_isCell cX1_isCell 2 (some .boolean), Cond.methodLink RX1 117 yX0_neighboursAt, Cond.instanceMethod yX0_neighboursAt, Cond.selects RX0 yX0_neighboursAt yX0_neighboursAt, Cond.initialized RX0, Cond.code yX0_neighboursAt cX0_neighboursAt 4 (some .int), Cond.methodLink RX0 36 yX0_leafRowAsSeen, Cond.instanceMethod yX0_leafRowAsSeen, Cond.selects RX0 yX0_leafRowAsSeen yX0_leafRowAsSeen]
def wsL_neighboursOf_r2 : List Cond := [Cond.code yX0_leafRowAsSeen cX0_leafRowAsSeen 7 (some .int), Cond.methodLink RX0 18 yX0_leafRow, Cond.instanceMethod yX0_leafRow, Cond.selects RX0 yX0_leafRow yX0_leafRow, Cond.code yX0_leafRow cX0_leafRow 2 (some .int), Cond.fieldLink RX0 9 "VineWall$Wall" "leafRows" "[I", Cond.methodLink RX0 43 yX0_countNeighbours, Cond.static yX0_countNeighbours, Cond.code yX0_countNeighbours cX0_countNeighbours 3 (some .int), Cond.methodLink RX0 50 yJ6_bitCount_0f7a4, Cond.static yJ6_bitCount_0f7a4, Cond.initialized RJ6, Cond.code yJ6_bitCount_0f7a4 cJ6_bitCount_0f7a4 1 (some .int), Cond.constant RJ6 265 (1431655765), Cond.constant RJ6 266 (858993459), Cond.constant RJ6 267 (252645135)]
def wsL_neighboursOf : List Cond := .codeWith yL_neighboursOf cL_neighboursOf 5 (some .int) [(0, 10, 13, 20)] :: ((wsL_neighboursOf_r1 ++ wsL_neighboursOf_r2) ++ wsX10 ++ wsX00 ++ (vx_atS RX1 154 "java/lang/IndexOutOfBoundsException" ["java/lang/RuntimeException", "java/lang/Exception"]).filter goodWord)
def wsL_leavesIn_r1 : List Cond := [Cond.classLink RL 20 "java/lang/IndexOutOfBoundsException", Cond.methodLink RL 46 yX1_leavesIn, Cond.instanceMethod yX1_leavesIn, Cond.selects RX1 yX1_leavesIn yX1_leavesIn, Cond.initialized RX1, Cond.code yX1_leavesIn cX1_leavesIn 2 (some .int), Cond.fieldLink RX1 10 "VineWall" "wall" "LVineWall$Wall;", Cond.methodLink RX1 61 yX1_requireColumn, Cond.static yX1_requireColumn, Cond.code yX1_requireColumn cX1_requireColumn 1 none, Cond.classLink RX1 150 "java/lang/IndexOutOfBoundsException", Cond.initialized "java/lang/IndexOutOfBoundsException", Cond.methodLink RX1 120 yX0_countInColumn, Cond.instanceMethod yX0_countInColumn, Cond.selects RX0 yX0_countInColumn yX0_countInColumn, Cond.initialized RX0, Cond.code yX0_countInColumn cX0_countInColumn 2 (some .int), Cond.methodLink RX0 47 yX0_shadeAt, Cond.instanceMethod yX0_shadeAt, Cond.selects RX0 yX0_shadeAt yX0_shadeAt, Cond.code yX0_shadeAt cX0_shadeAt 5 (some .int), Cond.methodLink RX0 18 yX0_leafRow, Cond.instanceMethod yX0_leafRow, Cond.selects RX0 yX0_leafRow yX0_leafRow]
def wsL_leavesIn_r2 : List Cond := [Cond.code yX0_leafRow cX0_leafRow 2 (some .int), Cond.fieldLink RX0 9 "VineWall$Wall" "leafRows" "[I"]
def wsL_leavesIn : List Cond := .codeWith yL_leavesIn cL_leavesIn 4 (some .int) [(0, 9, 12, 20)] :: ((wsL_leavesIn_r1 ++ wsL_leavesIn_r2) ++ wsX10 ++ wsX00 ++ (vx_atS RX1 154 "java/lang/IndexOutOfBoundsException" ["java/lang/RuntimeException", "java/lang/Exception"]).filter goodWord)
def wsL_law0_r1 : List Cond := [Cond.classLink RL 8 RX1, Cond.instantiable RX1 11, Cond.initialized RX1, Cond.classLink RL 51 RX2, Cond.instantiable RX2 8, Cond.initialized RX2, Cond.arrayClass .long, Cond.methodLink RL 50 yX1_init, Cond.instanceMethod yX1_init, Cond.code yX1_init cX1_init 2 none, Cond.methodLink RX1 1 objectInit, Cond.instanceMethod objectInit, Cond.code objectInit ⟨#[0xb1]⟩ 1 none, Cond.classLink RX1 7 RX0, Cond.instantiable RX0 2, Cond.initialized RX0, Cond.fieldLink RX1 10 "VineWall" "wall" "LVineWall$Wall;", Cond.fieldLink RX1 16 "VineWall" "trial" "LVineWall$Wall;", Cond.fieldLink RX1 19 "VineWall" "behind" "LVineWall$Wall;", Cond.fieldLink RX1 22 "VineWall" "lowerHalves" "[J", Cond.fieldLink RX1 26 "VineWall" "upperHalves" "[J", Cond.arrayClass .int, Cond.fieldLink RX1 29 "VineWall" "bearings" "[I", Cond.fieldLink RX1 33 "VineWall" "beyond" "I"]
def wsL_law0_r2 : List Cond := [Cond.fieldLink RX1 37 "VineWall" "planted" "I", Cond.fieldLink RX1 40 "VineWall" "cutsDone" "I", Cond.fieldLink RX1 43 "VineWall" "generationsGone" "I", Cond.fieldLink RX1 46 "VineWall" "fallen" "I", Cond.instanceMethod yX0_init, Cond.code yX0_init cX0_init 1 none, Cond.methodLink RX0 3 objectInit, Cond.fieldLink RX0 9 "VineWall$Wall" "leafRows" "[I", Cond.fieldLink RX0 15 "VineWall$Wall" "cutRows" "[I", Cond.methodLink RL 53 yX2_init, Cond.instanceMethod yX2_init, Cond.code yX2_init cX2_init 2 none, Cond.methodLink RX2 1 objectInit, Cond.fieldLink RX2 7 "VineWallModel" "walls" "[I", Cond.fieldLink RX2 13 "VineWallModel" "bears" "[I", Cond.fieldLink RX2 16 "VineWallModel" "cuts" "I", Cond.methodLink RL 54 yL_sides, Cond.static yL_sides, Cond.initialized RL, Cond.codeWith yL_sides cL_sides 3 (some .int) [(0, 5, 8, 13), (0, 5, 11, 15)], Cond.classLink RL 13 "java/lang/IllegalArgumentException", Cond.classLink RL 15 "java/lang/IllegalStateException", Cond.methodLink RL 7 yX1_sides, Cond.instanceMethod yX1_sides]
def wsL_law0_r3 : List Cond := [Cond.selects RX1 yX1_sides yX1_sides, Cond.code yX1_sides cX1_sides 2 none, Cond.classLink RX1 49 "java/lang/IllegalArgumentException", Cond.initialized "java/lang/IllegalArgumentException", Cond.classLink RX1 56 "java/lang/IllegalStateException", Cond.initialized "java/lang/IllegalStateException", Cond.methodLink RL 59 yX2_sides, Cond.instanceMethod yX2_sides, Cond.selects RX2 yX2_sides yX2_sides, Cond.code yX2_sides cX2_sides 2 none, Cond.fieldLink RX2 57 "VineWallModel" "generation" "I", Cond.fieldLink RX2 20 "VineWallModel" "thrown" "I", Cond.fieldLink RX2 27 "VineWallModel" "side" "I", Cond.methodLink RL 60 yX2_thrown, Cond.instanceMethod yX2_thrown, Cond.selects RX2 yX2_thrown yX2_thrown, Cond.code yX2_thrown cX2_thrown 1 (some .int), Cond.methodLink RL 63 yL_plant, Cond.static yL_plant, Cond.codeWith yL_plant cL_plant 3 (some .int) [(0, 5, 8, 20), (0, 5, 11, 15)], Cond.classLink RL 20 "java/lang/IndexOutOfBoundsException", Cond.methodLink RL 17 yX1_plant, Cond.instanceMethod yX1_plant, Cond.selects RX1 yX1_plant yX1_plant]
def wsL_law0_r4 : List Cond := [Cond.code yX1_plant cX1_plant 2 none, Cond.methodLink RX1 61 yX1_requireColumn, Cond.static yX1_requireColumn, Cond.code yX1_requireColumn cX1_requireColumn 1 none, Cond.classLink RX1 150 "java/lang/IndexOutOfBoundsException", Cond.initialized "java/lang/IndexOutOfBoundsException", Cond.methodLink RX1 65 yX0_isBareAt, Cond.instanceMethod yX0_isBareAt, Cond.selects RX0 yX0_isBareAt yX0_isBareAt, Cond.code yX0_isBareAt cX0_isBareAt 3 (some .boolean), Cond.methodLink RX0 22 yX0_hasLeafAt, Cond.instanceMethod yX0_hasLeafAt, Cond.selects RX0 yX0_hasLeafAt yX0_hasLeafAt, Cond.code yX0_hasLeafAt cX0_hasLeafAt 3 (some .boolean), Cond.methodLink RX0 18 yX0_leafRow, Cond.instanceMethod yX0_leafRow, Cond.selects RX0 yX0_leafRow yX0_leafRow, Cond.code yX0_leafRow cX0_leafRow 2 (some .int), Cond.methodLink RX0 26 yX0_hasCutAt, Cond.instanceMethod yX0_hasCutAt, Cond.selects RX0 yX0_hasCutAt yX0_hasCutAt, Cond.code yX0_hasCutAt cX0_hasCutAt 3 (some .boolean), Cond.methodLink RX1 73 yX0_putLeaf, Cond.instanceMethod yX0_putLeaf]
def wsL_law0_r5 : List Cond := [Cond.selects RX0 yX0_putLeaf yX0_putLeaf, Cond.code yX0_putLeaf cX0_putLeaf 3 none, Cond.static yX1_isCell, Cond.code yX1_isCell cX1_isCell 2 (some .boolean), Cond.methodLink RL 65 yX2_plant, Cond.instanceMethod yX2_plant, Cond.selects RX2 yX2_plant yX2_plant, Cond.code yX2_plant cX2_plant 2 none, Cond.fieldLink RX2 60 "VineWallModel" "planted" "I", Cond.methodLink RX2 23 yX2_isColumn, Cond.static yX2_isColumn, Cond.code yX2_isColumn cX2_isColumn 1 (some .boolean), Cond.methodLink RL 66 yL_trellis, Cond.static yL_trellis, Cond.codeWith yL_trellis cL_trellis 5 (some .int) [(0, 10, 13, 20), (0, 10, 17, 13)], Cond.methodLink RL 22 yX1_trellis, Cond.instanceMethod yX1_trellis, Cond.selects RX1 yX1_trellis yX1_trellis, Cond.code yX1_trellis cX1_trellis 4 (some .int), Cond.methodLink RL 69 yX2_trellis, Cond.instanceMethod yX2_trellis, Cond.selects RX2 yX2_trellis yX2_trellis, Cond.code yX2_trellis cX2_trellis 4 (some .int), Cond.methodLink RL 70 yL_cut]
def wsL_law0_r6 : List Cond := [Cond.static yL_cut, Cond.codeWith yL_cut cL_cut 5 (some .int) [(0, 10, 13, 20), (0, 10, 17, 15)], Cond.methodLink RL 26 yX1_cut, Cond.instanceMethod yX1_cut, Cond.selects RX1 yX1_cut yX1_cut, Cond.code yX1_cut cX1_cut 3 (some .int), Cond.methodLink RX1 79 yX1_requireCell, Cond.static yX1_requireCell, Cond.code yX1_requireCell cX1_requireCell 2 none, Cond.methodLink RX1 155 yX1_isCell, Cond.methodLink RX1 82 yX0_hasLeafAt, Cond.methodLink RX1 87 yX1_cutsLeft, Cond.instanceMethod yX1_cutsLeft, Cond.selects RX1 yX1_cutsLeft yX1_cutsLeft, Cond.code yX1_cutsLeft cX1_cutsLeft 1 (some .int), Cond.methodLink RX1 93 yX0_cutLeaf, Cond.instanceMethod yX0_cutLeaf, Cond.selects RX0 yX0_cutLeaf yX0_cutLeaf, Cond.code yX0_cutLeaf cX0_cutLeaf 3 none, Cond.methodLink RX0 32 yX0_takeLeaf, Cond.instanceMethod yX0_takeLeaf, Cond.selects RX0 yX0_takeLeaf yX0_takeLeaf, Cond.code yX0_takeLeaf cX0_takeLeaf 3 none, Cond.methodLink RL 72 yX2_cut]
def wsL_law0_r7 : List Cond := [Cond.instanceMethod yX2_cut, Cond.selects RX2 yX2_cut yX2_cut, Cond.code yX2_cut cX2_cut 3 (some .int), Cond.methodLink RX2 63 yX2_isCell, Cond.static yX2_isCell, Cond.code yX2_isCell cX2_isCell 2 (some .boolean), Cond.methodLink RL 73 yL_grow, Cond.static yL_grow, Cond.codeWith yL_grow cL_grow 3 (some .int) [(0, 8, 11, 15)], Cond.methodLink RL 29 yX1_grow, Cond.instanceMethod yX1_grow, Cond.selects RX1 yX1_grow yX1_grow, Cond.code yX1_grow cX1_grow 2 (some .int), Cond.methodLink RX1 98 yX1_leaves, Cond.instanceMethod yX1_leaves, Cond.selects RX1 yX1_leaves yX1_leaves, Cond.code yX1_leaves cX1_leaves 1 (some .int), Cond.methodLink RX1 124 yX0_countLeaves, Cond.instanceMethod yX0_countLeaves, Cond.selects RX0 yX0_countLeaves yX0_countLeaves, Cond.code yX0_countLeaves cX0_countLeaves 3 (some .int), Cond.methodLink RX0 50 yJ6_bitCount_0f7a4, Cond.static yJ6_bitCount_0f7a4, Cond.initialized RJ6]
def wsL_law0_r8 : List Cond := [Cond.code yJ6_bitCount_0f7a4 cJ6_bitCount_0f7a4 1 (some .int), Cond.constant RJ6 265 (1431655765), Cond.constant RJ6 266 (858993459), Cond.constant RJ6 267 (252645135), Cond.methodLink RX1 101 yX0_becomeNextOf, Cond.instanceMethod yX0_becomeNextOf, Cond.selects RX0 yX0_becomeNextOf yX0_becomeNextOf, Cond.code yX0_becomeNextOf cX0_becomeNextOf 6 (some .int), Cond.methodLink RX0 55 yX0_leafRowNext, Cond.instanceMethod yX0_leafRowNext, Cond.selects RX0 yX0_leafRowNext yX0_leafRowNext, Cond.code yX0_leafRowNext cX0_leafRowNext 10 (some .int), Cond.methodLink RX0 36 yX0_leafRowAsSeen, Cond.instanceMethod yX0_leafRowAsSeen, Cond.selects RX0 yX0_leafRowAsSeen yX0_leafRowAsSeen, Cond.code yX0_leafRowAsSeen cX0_leafRowAsSeen 7 (some .int), Cond.methodLink RX0 40 yX0_countHolders, Cond.static yX0_countHolders, Cond.code yX0_countHolders cX0_countHolders 1 (some .int), Cond.methodLink RX0 43 yX0_countNeighbours, Cond.static yX0_countNeighbours, Cond.code yX0_countNeighbours cX0_countNeighbours 3 (some .int), Cond.methodLink RX0 64 yX0_bearsLeafNext, Cond.instanceMethod yX0_bearsLeafNext]
def wsL_law0_r9 : List Cond := [Cond.selects RX0 yX0_bearsLeafNext yX0_bearsLeafNext, Cond.code yX0_bearsLeafNext cX0_bearsLeafNext 6 (some .boolean), Cond.methodLink RX0 47 yX0_shadeAt, Cond.instanceMethod yX0_shadeAt, Cond.selects RX0 yX0_shadeAt yX0_shadeAt, Cond.code yX0_shadeAt cX0_shadeAt 5 (some .int), Cond.methodLink RX0 58 yX0_countInColumn, Cond.instanceMethod yX0_countInColumn, Cond.selects RX0 yX0_countInColumn yX0_countInColumn, Cond.code yX0_countInColumn cX0_countInColumn 2 (some .int), Cond.methodLink RX0 61 yX0_takeTopmost, Cond.instanceMethod yX0_takeTopmost, Cond.selects RX0 yX0_takeTopmost yX0_takeTopmost, Cond.code yX0_takeTopmost cX0_takeTopmost 5 (some .int), Cond.methodLink RX1 105 yX0_copyFrom, Cond.instanceMethod yX0_copyFrom, Cond.selects RX0 yX0_copyFrom yX0_copyFrom, Cond.code yX0_copyFrom cX0_copyFrom 3 none, Cond.methodLink RL 76 yX2_grow, Cond.instanceMethod yX2_grow, Cond.selects RX2 yX2_grow yX2_grow, Cond.code yX2_grow cX2_grow 2 (some .int), Cond.fieldLink RX2 70 "VineWallModel" "broken" "I", Cond.methodLink RX2 67 yX2_allLeaves]
def wsL_law0_r10 : List Cond := [Cond.instanceMethod yX2_allLeaves, Cond.selects RX2 yX2_allLeaves yX2_allLeaves, Cond.code yX2_allLeaves cX2_allLeaves 4 (some .int), Cond.methodLink RX2 40 yX2_inColumn, Cond.instanceMethod yX2_inColumn, Cond.selects RX2 yX2_inColumn yX2_inColumn, Cond.code yX2_inColumn cX2_inColumn 3 (some .int), Cond.methodLink RX2 30 yX2_leafAt, Cond.instanceMethod yX2_leafAt, Cond.selects RX2 yX2_leafAt yX2_leafAt, Cond.code yX2_leafAt cX2_leafAt 5 (some .int), Cond.methodLink RX2 37 yX2_shade, Cond.instanceMethod yX2_shade, Cond.selects RX2 yX2_shade yX2_shade, Cond.code yX2_shade cX2_shade 6 (some .int), Cond.methodLink RX2 73 yX2_grows, Cond.instanceMethod yX2_grows, Cond.selects RX2 yX2_grows yX2_grows, Cond.code yX2_grows cX2_grows 5 (some .int), Cond.methodLink RX2 50 yX2_becomes, Cond.instanceMethod yX2_becomes, Cond.selects RX2 yX2_becomes yX2_becomes, Cond.code yX2_becomes cX2_becomes 8 (some .int), Cond.methodLink RX2 44 yX2_holders]
def wsL_law0_r11 : List Cond := [Cond.instanceMethod yX2_holders, Cond.selects RX2 yX2_holders yX2_holders, Cond.code yX2_holders cX2_holders 4 (some .int), Cond.methodLink RX2 34 yX2_threeIn, Cond.instanceMethod yX2_threeIn, Cond.selects RX2 yX2_threeIn yX2_threeIn, Cond.code yX2_threeIn cX2_threeIn 4 (some .int), Cond.methodLink RX2 47 yX2_neighbours, Cond.instanceMethod yX2_neighbours, Cond.selects RX2 yX2_neighbours yX2_neighbours, Cond.code yX2_neighbours cX2_neighbours 4 (some .int), Cond.methodLink RX2 53 yX2_breaks, Cond.instanceMethod yX2_breaks, Cond.selects RX2 yX2_breaks yX2_breaks, Cond.code yX2_breaks cX2_breaks 6 (some .int), Cond.methodLink RX2 76 yX2_copies, Cond.instanceMethod yX2_copies, Cond.selects RX2 yX2_copies yX2_copies, Cond.code yX2_copies cX2_copies 4 none, Cond.methodLink RL 77 yL_look, Cond.static yL_look, Cond.codeWith yL_look cL_look 5 (some .int) [(0, 10, 13, 20)], Cond.methodLink RL 33 yX1_look, Cond.instanceMethod yX1_look]
def wsL_law0_r12 : List Cond := [Cond.selects RX1 yX1_look yX1_look, Cond.code yX1_look cX1_look 3 (some .char), Cond.methodLink RL 79 yX2_look, Cond.instanceMethod yX2_look, Cond.selects RX2 yX2_look yX2_look, Cond.code yX2_look cX2_look 4 (some .char), Cond.methodLink RL 80 yL_shadeOf, Cond.static yL_shadeOf, Cond.codeWith yL_shadeOf cL_shadeOf 5 (some .int) [(0, 10, 13, 20)], Cond.methodLink RL 37 yX1_shadeOf, Cond.instanceMethod yX1_shadeOf, Cond.selects RX1 yX1_shadeOf yX1_shadeOf, Cond.code yX1_shadeOf cX1_shadeOf 3 (some .int), Cond.methodLink RX1 109 yX0_shadeAt, Cond.methodLink RL 82 yX2_shadeOf, Cond.instanceMethod yX2_shadeOf, Cond.selects RX2 yX2_shadeOf yX2_shadeOf, Cond.code yX2_shadeOf cX2_shadeOf 3 (some .int), Cond.methodLink RL 83 yL_holdersOf, Cond.static yL_holdersOf, Cond.codeWith yL_holdersOf cL_holdersOf 5 (some .int) [(0, 10, 13, 20)], Cond.methodLink RL 40 yX1_holdersOf, Cond.instanceMethod yX1_holdersOf, Cond.selects RX1 yX1_holdersOf yX1_holdersOf]
def wsL_law0_r13 : List Cond := [Cond.code yX1_holdersOf cX1_holdersOf 3 (some .int), Cond.methodLink RX1 113 yX0_holdersAt, Cond.instanceMethod yX0_holdersAt, Cond.selects RX0 yX0_holdersAt yX0_holdersAt, Cond.code yX0_holdersAt cX0_holdersAt 4 (some .int), Cond.methodLink RL 85 yX2_holdersOf, Cond.instanceMethod yX2_holdersOf, Cond.selects RX2 yX2_holdersOf yX2_holdersOf, Cond.code yX2_holdersOf cX2_holdersOf 3 (some .int), Cond.methodLink RL 86 yL_neighboursOf, Cond.static yL_neighboursOf, Cond.codeWith yL_neighboursOf cL_neighboursOf 5 (some .int) [(0, 10, 13, 20)], Cond.methodLink RL 43 yX1_neighboursOf, Cond.instanceMethod yX1_neighboursOf, Cond.selects RX1 yX1_neighboursOf yX1_neighboursOf, Cond.code yX1_neighboursOf cX1_neighboursOf 3 (some .int), Cond.methodLink RX1 117 yX0_neighboursAt, Cond.instanceMethod yX0_neighboursAt, Cond.selects RX0 yX0_neighboursAt yX0_neighboursAt, Cond.code yX0_neighboursAt cX0_neighboursAt 4 (some .int), Cond.methodLink RL 88 yX2_neighboursOf, Cond.instanceMethod yX2_neighboursOf, Cond.selects RX2 yX2_neighboursOf yX2_neighboursOf, Cond.code yX2_neighboursOf cX2_neighboursOf 3 (some .int)]
def wsL_law0_r14 : List Cond := [Cond.methodLink RL 89 yL_leavesIn, Cond.static yL_leavesIn, Cond.codeWith yL_leavesIn cL_leavesIn 4 (some .int) [(0, 9, 12, 20)], Cond.methodLink RL 46 yX1_leavesIn, Cond.instanceMethod yX1_leavesIn, Cond.selects RX1 yX1_leavesIn yX1_leavesIn, Cond.code yX1_leavesIn cX1_leavesIn 2 (some .int), Cond.methodLink RX1 120 yX0_countInColumn, Cond.methodLink RL 92 yX2_leavesIn, Cond.instanceMethod yX2_leavesIn, Cond.selects RX2 yX2_leavesIn yX2_leavesIn, Cond.code yX2_leavesIn cX2_leavesIn 2 (some .int), Cond.methodLink RL 93 yX1_leaves, Cond.methodLink RL 96 yX2_leaves, Cond.instanceMethod yX2_leaves, Cond.selects RX2 yX2_leaves yX2_leaves, Cond.code yX2_leaves cX2_leaves 1 (some .int), Cond.methodLink RL 97 yX1_lit, Cond.instanceMethod yX1_lit, Cond.selects RX1 yX1_lit yX1_lit, Cond.code yX1_lit cX1_lit 1 (some .int), Cond.methodLink RX1 127 yX0_countLit, Cond.instanceMethod yX0_countLit, Cond.selects RX0 yX0_countLit yX0_countLit]
def wsL_law0_r15 : List Cond := [Cond.code yX0_countLit cX0_countLit 3 (some .int), Cond.methodLink RL 100 yX2_lit, Cond.instanceMethod yX2_lit, Cond.selects RX2 yX2_lit yX2_lit, Cond.code yX2_lit cX2_lit 1 (some .int), Cond.methodLink RX2 80 yX2_allLit, Cond.instanceMethod yX2_allLit, Cond.selects RX2 yX2_allLit yX2_allLit, Cond.code yX2_allLit cX2_allLit 4 (some .int), Cond.methodLink RL 101 yX1_generation, Cond.instanceMethod yX1_generation, Cond.selects RX1 yX1_generation yX1_generation, Cond.code yX1_generation cX1_generation 1 (some .int), Cond.methodLink RL 104 yX2_generation, Cond.instanceMethod yX2_generation, Cond.selects RX2 yX2_generation yX2_generation, Cond.code yX2_generation cX2_generation 1 (some .int), Cond.methodLink RL 105 yX1_cutsLeft, Cond.methodLink RL 108 yX2_cutsLeft, Cond.instanceMethod yX2_cutsLeft, Cond.selects RX2 yX2_cutsLeft yX2_cutsLeft, Cond.code yX2_cutsLeft cX2_cutsLeft 1 (some .int), Cond.methodLink RL 109 yX1_broken, Cond.instanceMethod yX1_broken]
def wsL_law0_r16 : List Cond := [Cond.selects RX1 yX1_broken yX1_broken, Cond.code yX1_broken cX1_broken 1 (some .int), Cond.methodLink RL 112 yX2_broken, Cond.instanceMethod yX2_broken, Cond.selects RX2 yX2_broken yX2_broken, Cond.code yX2_broken cX2_broken 1 (some .int), Cond.methodLink RL 113 yX1_leavesNext, Cond.instanceMethod yX1_leavesNext, Cond.selects RX1 yX1_leavesNext yX1_leavesNext, Cond.code yX1_leavesNext cX1_leavesNext 1 (some .int), Cond.methodLink RL 116 yX2_leavesNext, Cond.instanceMethod yX2_leavesNext, Cond.selects RX2 yX2_leavesNext yX2_leavesNext, Cond.code yX2_leavesNext cX2_leavesNext 2 (some .int), Cond.methodLink RL 117 yX1_repeatsIn, Cond.instanceMethod yX1_repeatsIn, Cond.selects RX1 yX1_repeatsIn yX1_repeatsIn, Cond.code yX1_repeatsIn cX1_repeatsIn 3 (some .int), Cond.methodLink RX1 130 yX0_hasCuts, Cond.instanceMethod yX0_hasCuts, Cond.selects RX0 yX0_hasCuts yX0_hasCuts, Cond.code yX0_hasCuts cX0_hasCuts 3 (some .boolean), Cond.methodLink RX1 134 yX1_remember, Cond.instanceMethod yX1_remember]
def wsL_law0_r17 : List Cond := [Cond.selects RX1 yX1_remember yX1_remember, Cond.code yX1_remember cX1_remember 2 none, Cond.methodLink RX1 146 yX0_leavesOfHalf, Cond.instanceMethod yX0_leavesOfHalf, Cond.selects RX0 yX0_leavesOfHalf yX0_leavesOfHalf, Cond.code yX0_leavesOfHalf cX0_leavesOfHalf 5 (some .long), Cond.methodLink RX1 137 yX1_looksAsBefore, Cond.instanceMethod yX1_looksAsBefore, Cond.selects RX1 yX1_looksAsBefore yX1_looksAsBefore, Cond.code yX1_looksAsBefore cX1_looksAsBefore 4 (some .boolean), Cond.methodLink RL 120 yX2_repeatsIn, Cond.instanceMethod yX2_repeatsIn, Cond.selects RX2 yX2_repeatsIn yX2_repeatsIn, Cond.code yX2_repeatsIn cX2_repeatsIn 4 (some .int), Cond.methodLink RX2 83 yX2_areAlike, Cond.instanceMethod yX2_areAlike, Cond.selects RX2 yX2_areAlike yX2_areAlike, Cond.code yX2_areAlike cX2_areAlike 4 (some .boolean), Cond.methodLink RL 121 yX1_bestCut, Cond.instanceMethod yX1_bestCut, Cond.selects RX1 yX1_bestCut yX1_bestCut, Cond.code yX1_bestCut cX1_bestCut 7 (some .int), Cond.methodLink RX1 140 yX1_litBehindCut, Cond.instanceMethod yX1_litBehindCut]
def wsL_law0_r18 : List Cond := [Cond.selects RX1 yX1_litBehindCut yX1_litBehindCut, Cond.code yX1_litBehindCut cX1_litBehindCut 3 (some .int), Cond.methodLink RL 124 yX2_bestCut, Cond.instanceMethod yX2_bestCut, Cond.selects RX2 yX2_bestCut yX2_bestCut, Cond.code yX2_bestCut cX2_bestCut 6 (some .int), Cond.methodLink RL 125 yX1_clear, Cond.instanceMethod yX1_clear, Cond.selects RX1 yX1_clear yX1_clear, Cond.code yX1_clear cX1_clear 1 none, Cond.methodLink RX1 143 yX0_strip, Cond.instanceMethod yX0_strip, Cond.selects RX0 yX0_strip yX0_strip, Cond.code yX0_strip cX0_strip 2 none, Cond.methodLink RL 128 yX2_clear, Cond.instanceMethod yX2_clear, Cond.selects RX2 yX2_clear yX2_clear, Cond.code yX2_clear cX2_clear 2 none]
def wsL_law0 : List Cond := (wsL_law0_r1 ++ (wsL_law0_r2 ++ (wsL_law0_r3 ++ (wsL_law0_r4 ++ (wsL_law0_r5 ++ (wsL_law0_r6 ++ (wsL_law0_r7 ++ (wsL_law0_r8 ++ (wsL_law0_r9 ++ (wsL_law0_r10 ++ (wsL_law0_r11 ++ (wsL_law0_r12 ++ (wsL_law0_r13 ++ (wsL_law0_r14 ++ (wsL_law0_r15 ++ (wsL_law0_r16 ++ (wsL_law0_r17 ++ wsL_law0_r18))))))))))))))))) ++ wsX10 ++ wsX20 ++ wsX00 ++ ([] : List Cond)
def wsL_law : List Cond := wsL_law0 ++ (vx_atS RX1 53 "java/lang/IllegalArgumentException" ["java/lang/RuntimeException", "java/lang/Exception"]).filter goodWord ++ (vx_atS RX1 60 "java/lang/IllegalStateException" ["java/lang/RuntimeException", "java/lang/Exception"]).filter goodWord ++ (vx_atS RX1 154 "java/lang/IndexOutOfBoundsException" ["java/lang/RuntimeException", "java/lang/Exception"]).filter goodWord
abbrev vwCl : List vw_C := [(RX0, TX0, 2), (RX1, TX1, 11), (RX2, TX2, 8)]
end
section
theorem inJ6 : ∀ w ∈ wsJ60, w ∈ lw_tbl := by decide +kernel
theorem inJ0 : ∀ w ∈ wsJ00, w ∈ lw_tbl := by decide +kernel
theorem dX0_init_0 : decode cX0_init 0 = .ok (.aload_n 0, 1) := by decide +kernel
theorem dX0_init_1 : decode cX0_init 1 = .ok (.invokespecial 3, 3) := by decide +kernel
theorem dX0_init_4 : decode cX0_init 4 = .ok (.aload_n 0, 1) := by decide +kernel
theorem dX0_init_5 : decode cX0_init 5 = .ok (.bipush 8, 2) := by decide +kernel
theorem dX0_init_7 : decode cX0_init 7 = .ok (.newarray .int, 2) := by decide +kernel
theorem dX0_init_9 : decode cX0_init 9 = .ok (.putfield 9, 3) := by decide +kernel
theorem dX0_init_12 : decode cX0_init 12 = .ok (.aload_n 0, 1) := by decide +kernel
theorem dX0_init_13 : decode cX0_init 13 = .ok (.bipush 8, 2) := by decide +kernel
theorem dX0_init_15 : decode cX0_init 15 = .ok (.newarray .int, 2) := by decide +kernel
theorem dX0_init_17 : decode cX0_init 17 = .ok (.putfield 15, 3) := by decide +kernel
theorem dX0_init_20 : decode cX0_init 20 = .ok (.return_, 1) := by decide +kernel
set_option maxRecDepth 20000 in
theorem ggX0_hasLeafAt_X0_leafRow : GoodIn wsX0_hasLeafAt wsX0_leafRow := goodIn_r _ [5, 6, 7, 8] (by decide +kernel) (by decide +kernel)
set_option maxRecDepth 20000 in
theorem gX0_hasLeafAt_X0_leafRow : GoodIn wsX0_hasLeafAt (wsV RX0 18 RX0 yX0_leafRow wsX0_leafRow) := goodIn_app (goodIn_of _ (by decide +kernel)) ggX0_hasLeafAt_X0_leafRow
theorem dX0_hasLeafAt_0 : decode cX0_hasLeafAt 0 = .ok (.aload_n 0, 1) := by decide +kernel
theorem dX0_hasLeafAt_1 : decode cX0_hasLeafAt 1 = .ok (.iload_n 1, 1) := by decide +kernel
theorem dX0_hasLeafAt_2 : decode cX0_hasLeafAt 2 = .ok (.invokevirtual 18, 3) := by decide +kernel
theorem dX0_hasLeafAt_5 : decode cX0_hasLeafAt 5 = .ok (.iload_n 2, 1) := by decide +kernel
theorem dX0_hasLeafAt_6 : decode cX0_hasLeafAt 6 = .ok (.ishr, 1) := by decide +kernel
theorem dX0_hasLeafAt_7 : decode cX0_hasLeafAt 7 = .ok (.iconst 1, 1) := by decide +kernel
theorem dX0_hasLeafAt_8 : decode cX0_hasLeafAt 8 = .ok (.iand, 1) := by decide +kernel
theorem dX0_hasLeafAt_9 : decode cX0_hasLeafAt 9 = .ok (.iconst 1, 1) := by decide +kernel
theorem dX0_hasLeafAt_10 : decode cX0_hasLeafAt 10 = .ok (.if_icmp .ne 7, 3) := by decide +kernel
theorem dX0_hasLeafAt_13 : decode cX0_hasLeafAt 13 = .ok (.iconst 1, 1) := by decide +kernel
theorem dX0_hasLeafAt_14 : decode cX0_hasLeafAt 14 = .ok (.goto 4, 3) := by decide +kernel
theorem dX0_hasLeafAt_17 : decode cX0_hasLeafAt 17 = .ok (.iconst 0, 1) := by decide +kernel
theorem dX0_hasLeafAt_18 : decode cX0_hasLeafAt 18 = .ok (.ireturn, 1) := by decide +kernel
set_option maxRecDepth 20000 in
theorem ggX0_isBareAt_X0_hasLeafAt : GoodIn wsX0_isBareAt wsX0_hasLeafAt := goodIn_r _ [5, 6, 7, 8, 4, 9, 10, 16, 17] (by decide +kernel) (by decide +kernel)
set_option maxRecDepth 20000 in
theorem gX0_isBareAt_X0_hasLeafAt : GoodIn wsX0_isBareAt (wsV RX0 22 RX0 yX0_hasLeafAt wsX0_hasLeafAt) := goodIn_app (goodIn_of _ (by decide +kernel)) ggX0_isBareAt_X0_hasLeafAt
set_option maxRecDepth 20000 in
theorem ggX0_isBareAt_X0_hasCutAt : GoodIn wsX0_isBareAt wsX0_hasCutAt := goodIn_r _ [14, 15, 16, 17] (by decide +kernel) (by decide +kernel)
set_option maxRecDepth 20000 in
theorem gX0_isBareAt_X0_hasCutAt : GoodIn wsX0_isBareAt (wsV RX0 26 RX0 yX0_hasCutAt wsX0_hasCutAt) := goodIn_app (goodIn_of _ (by decide +kernel)) ggX0_isBareAt_X0_hasCutAt
theorem dX0_isBareAt_0 : decode cX0_isBareAt 0 = .ok (.aload_n 0, 1) := by decide +kernel
theorem dX0_isBareAt_1 : decode cX0_isBareAt 1 = .ok (.iload_n 1, 1) := by decide +kernel
theorem dX0_isBareAt_2 : decode cX0_isBareAt 2 = .ok (.iload_n 2, 1) := by decide +kernel
theorem dX0_isBareAt_3 : decode cX0_isBareAt 3 = .ok (.invokevirtual 22, 3) := by decide +kernel
theorem dX0_isBareAt_6 : decode cX0_isBareAt 6 = .ok (.ifCond .ne 16, 3) := by decide +kernel
theorem dX0_isBareAt_9 : decode cX0_isBareAt 9 = .ok (.aload_n 0, 1) := by decide +kernel
theorem dX0_isBareAt_10 : decode cX0_isBareAt 10 = .ok (.iload_n 1, 1) := by decide +kernel
theorem dX0_isBareAt_11 : decode cX0_isBareAt 11 = .ok (.iload_n 2, 1) := by decide +kernel
theorem dX0_isBareAt_12 : decode cX0_isBareAt 12 = .ok (.invokevirtual 26, 3) := by decide +kernel
theorem dX0_isBareAt_15 : decode cX0_isBareAt 15 = .ok (.ifCond .ne 7, 3) := by decide +kernel
theorem dX0_isBareAt_18 : decode cX0_isBareAt 18 = .ok (.iconst 1, 1) := by decide +kernel
theorem dX0_isBareAt_19 : decode cX0_isBareAt 19 = .ok (.goto 4, 3) := by decide +kernel
theorem dX0_isBareAt_22 : decode cX0_isBareAt 22 = .ok (.iconst 0, 1) := by decide +kernel
theorem dX0_isBareAt_23 : decode cX0_isBareAt 23 = .ok (.ireturn, 1) := by decide +kernel
theorem dX0_hasCuts_0 : decode cX0_hasCuts 0 = .ok (.iconst 0, 1) := by decide +kernel
theorem dX0_hasCuts_1 : decode cX0_hasCuts 1 = .ok (.istore_n 1, 1) := by decide +kernel
theorem dX0_hasCuts_2 : decode cX0_hasCuts 2 = .ok (.iconst 0, 1) := by decide +kernel
theorem dX0_hasCuts_3 : decode cX0_hasCuts 3 = .ok (.istore_n 2, 1) := by decide +kernel
theorem dX0_hasCuts_4 : decode cX0_hasCuts 4 = .ok (.iload_n 2, 1) := by decide +kernel
theorem dX0_hasCuts_5 : decode cX0_hasCuts 5 = .ok (.bipush 8, 2) := by decide +kernel
theorem dX0_hasCuts_7 : decode cX0_hasCuts 7 = .ok (.if_icmp .ge 18, 3) := by decide +kernel
theorem dX0_hasCuts_10 : decode cX0_hasCuts 10 = .ok (.iload_n 1, 1) := by decide +kernel
theorem dX0_hasCuts_11 : decode cX0_hasCuts 11 = .ok (.aload_n 0, 1) := by decide +kernel
theorem dX0_hasCuts_12 : decode cX0_hasCuts 12 = .ok (.getfield 15, 3) := by decide +kernel
theorem dX0_hasCuts_15 : decode cX0_hasCuts 15 = .ok (.iload_n 2, 1) := by decide +kernel
theorem dX0_hasCuts_16 : decode cX0_hasCuts 16 = .ok (.iaload, 1) := by decide +kernel
theorem dX0_hasCuts_17 : decode cX0_hasCuts 17 = .ok (.ior, 1) := by decide +kernel
theorem dX0_hasCuts_18 : decode cX0_hasCuts 18 = .ok (.istore_n 1, 1) := by decide +kernel
theorem dX0_hasCuts_19 : decode cX0_hasCuts 19 = .ok (.iinc 2 1, 3) := by decide +kernel
theorem dX0_hasCuts_22 : decode cX0_hasCuts 22 = .ok (.goto (-18), 3) := by decide +kernel
theorem dX0_hasCuts_25 : decode cX0_hasCuts 25 = .ok (.iload_n 1, 1) := by decide +kernel
theorem dX0_hasCuts_26 : decode cX0_hasCuts 26 = .ok (.ifCond .eq 7, 3) := by decide +kernel
theorem dX0_hasCuts_29 : decode cX0_hasCuts 29 = .ok (.iconst 1, 1) := by decide +kernel
theorem dX0_hasCuts_30 : decode cX0_hasCuts 30 = .ok (.goto 4, 3) := by decide +kernel
theorem dX0_hasCuts_33 : decode cX0_hasCuts 33 = .ok (.iconst 0, 1) := by decide +kernel
theorem dX0_hasCuts_34 : decode cX0_hasCuts 34 = .ok (.ireturn, 1) := by decide +kernel
set_option maxRecDepth 20000 in
theorem ggX0_putLeaf_X1_isCell : GoodIn wsX0_putLeaf wsX1_isCell := goodIn_r _ [4] (by decide +kernel) (by decide +kernel)
set_option maxRecDepth 20000 in
theorem gX0_putLeaf_X1_isCell_n29 : GoodIn wsX0_putLeaf (wsX1_isCell) := ggX0_putLeaf_X1_isCell
theorem dX0_putLeaf_0 : decode cX0_putLeaf 0 = .ok (.iload_n 1, 1) := by decide +kernel
theorem dX0_putLeaf_1 : decode cX0_putLeaf 1 = .ok (.iload_n 2, 1) := by decide +kernel
theorem dX0_putLeaf_2 : decode cX0_putLeaf 2 = .ok (.invokestatic 29, 3) := by decide +kernel
theorem dX0_putLeaf_5 : decode cX0_putLeaf 5 = .ok (.ifCond .eq 15, 3) := by decide +kernel
theorem dX0_putLeaf_8 : decode cX0_putLeaf 8 = .ok (.aload_n 0, 1) := by decide +kernel
theorem dX0_putLeaf_9 : decode cX0_putLeaf 9 = .ok (.getfield 9, 3) := by decide +kernel
theorem dX0_putLeaf_12 : decode cX0_putLeaf 12 = .ok (.iload_n 1, 1) := by decide +kernel
theorem dX0_putLeaf_13 : decode cX0_putLeaf 13 = .ok (.dup2, 1) := by decide +kernel
theorem dX0_putLeaf_14 : decode cX0_putLeaf 14 = .ok (.iaload, 1) := by decide +kernel
theorem dX0_putLeaf_15 : decode cX0_putLeaf 15 = .ok (.iconst 1, 1) := by decide +kernel
theorem dX0_putLeaf_16 : decode cX0_putLeaf 16 = .ok (.iload_n 2, 1) := by decide +kernel
theorem dX0_putLeaf_17 : decode cX0_putLeaf 17 = .ok (.ishl, 1) := by decide +kernel
theorem dX0_putLeaf_18 : decode cX0_putLeaf 18 = .ok (.ior, 1) := by decide +kernel
theorem dX0_putLeaf_19 : decode cX0_putLeaf 19 = .ok (.iastore, 1) := by decide +kernel
theorem dX0_putLeaf_20 : decode cX0_putLeaf 20 = .ok (.return_, 1) := by decide +kernel
set_option maxRecDepth 20000 in
theorem ggX0_cutLeaf_X0_takeLeaf : GoodIn wsX0_cutLeaf wsX0_takeLeaf := goodIn_r _ [6, 7, 8, 9, 10, 11, 12] (by decide +kernel) (by decide +kernel)
set_option maxRecDepth 20000 in
theorem gX0_cutLeaf_X0_takeLeaf : GoodIn wsX0_cutLeaf (wsV RX0 32 RX0 yX0_takeLeaf wsX0_takeLeaf) := goodIn_app (goodIn_of _ (by decide +kernel)) ggX0_cutLeaf_X0_takeLeaf
set_option maxRecDepth 20000 in
theorem ggX0_cutLeaf_X1_isCell : GoodIn wsX0_cutLeaf wsX1_isCell := goodIn_r _ [10] (by decide +kernel) (by decide +kernel)
set_option maxRecDepth 20000 in
theorem gX0_cutLeaf_X1_isCell_n29 : GoodIn wsX0_cutLeaf (wsX1_isCell) := ggX0_cutLeaf_X1_isCell
theorem dX0_cutLeaf_0 : decode cX0_cutLeaf 0 = .ok (.aload_n 0, 1) := by decide +kernel
theorem dX0_cutLeaf_1 : decode cX0_cutLeaf 1 = .ok (.iload_n 1, 1) := by decide +kernel
theorem dX0_cutLeaf_2 : decode cX0_cutLeaf 2 = .ok (.iload_n 2, 1) := by decide +kernel
theorem dX0_cutLeaf_3 : decode cX0_cutLeaf 3 = .ok (.invokevirtual 32, 3) := by decide +kernel
theorem dX0_cutLeaf_6 : decode cX0_cutLeaf 6 = .ok (.iload_n 1, 1) := by decide +kernel
theorem dX0_cutLeaf_7 : decode cX0_cutLeaf 7 = .ok (.iload_n 2, 1) := by decide +kernel
theorem dX0_cutLeaf_8 : decode cX0_cutLeaf 8 = .ok (.invokestatic 29, 3) := by decide +kernel
theorem dX0_cutLeaf_11 : decode cX0_cutLeaf 11 = .ok (.ifCond .eq 15, 3) := by decide +kernel
theorem dX0_cutLeaf_14 : decode cX0_cutLeaf 14 = .ok (.aload_n 0, 1) := by decide +kernel
theorem dX0_cutLeaf_15 : decode cX0_cutLeaf 15 = .ok (.getfield 15, 3) := by decide +kernel
theorem dX0_cutLeaf_18 : decode cX0_cutLeaf 18 = .ok (.iload_n 1, 1) := by decide +kernel
theorem dX0_cutLeaf_19 : decode cX0_cutLeaf 19 = .ok (.dup2, 1) := by decide +kernel
theorem dX0_cutLeaf_20 : decode cX0_cutLeaf 20 = .ok (.iaload, 1) := by decide +kernel
theorem dX0_cutLeaf_21 : decode cX0_cutLeaf 21 = .ok (.iconst 1, 1) := by decide +kernel
theorem dX0_cutLeaf_22 : decode cX0_cutLeaf 22 = .ok (.iload_n 2, 1) := by decide +kernel
theorem dX0_cutLeaf_23 : decode cX0_cutLeaf 23 = .ok (.ishl, 1) := by decide +kernel
theorem dX0_cutLeaf_24 : decode cX0_cutLeaf 24 = .ok (.ior, 1) := by decide +kernel
theorem dX0_cutLeaf_25 : decode cX0_cutLeaf 25 = .ok (.iastore, 1) := by decide +kernel
theorem dX0_cutLeaf_26 : decode cX0_cutLeaf 26 = .ok (.return_, 1) := by decide +kernel
theorem dX0_strip_0 : decode cX0_strip 0 = .ok (.iconst 0, 1) := by decide +kernel
theorem dX0_strip_1 : decode cX0_strip 1 = .ok (.istore_n 1, 1) := by decide +kernel
theorem dX0_strip_2 : decode cX0_strip 2 = .ok (.iload_n 1, 1) := by decide +kernel
theorem dX0_strip_3 : decode cX0_strip 3 = .ok (.bipush 8, 2) := by decide +kernel
theorem dX0_strip_5 : decode cX0_strip 5 = .ok (.if_icmp .ge 23, 3) := by decide +kernel
theorem dX0_strip_8 : decode cX0_strip 8 = .ok (.aload_n 0, 1) := by decide +kernel
theorem dX0_strip_9 : decode cX0_strip 9 = .ok (.getfield 9, 3) := by decide +kernel
theorem dX0_strip_12 : decode cX0_strip 12 = .ok (.iload_n 1, 1) := by decide +kernel
theorem dX0_strip_13 : decode cX0_strip 13 = .ok (.iconst 0, 1) := by decide +kernel
theorem dX0_strip_14 : decode cX0_strip 14 = .ok (.iastore, 1) := by decide +kernel
theorem dX0_strip_15 : decode cX0_strip 15 = .ok (.aload_n 0, 1) := by decide +kernel
theorem dX0_strip_16 : decode cX0_strip 16 = .ok (.getfield 15, 3) := by decide +kernel
theorem dX0_strip_19 : decode cX0_strip 19 = .ok (.iload_n 1, 1) := by decide +kernel
theorem dX0_strip_20 : decode cX0_strip 20 = .ok (.iconst 0, 1) := by decide +kernel
theorem dX0_strip_21 : decode cX0_strip 21 = .ok (.iastore, 1) := by decide +kernel
theorem dX0_strip_22 : decode cX0_strip 22 = .ok (.iinc 1 1, 3) := by decide +kernel
theorem dX0_strip_25 : decode cX0_strip 25 = .ok (.goto (-23), 3) := by decide +kernel
theorem dX0_strip_28 : decode cX0_strip 28 = .ok (.return_, 1) := by decide +kernel
theorem dX0_copyFrom_0 : decode cX0_copyFrom 0 = .ok (.iconst 0, 1) := by decide +kernel
theorem dX0_copyFrom_1 : decode cX0_copyFrom 1 = .ok (.istore_n 2, 1) := by decide +kernel
theorem dX0_copyFrom_2 : decode cX0_copyFrom 2 = .ok (.iload_n 2, 1) := by decide +kernel
theorem dX0_copyFrom_3 : decode cX0_copyFrom 3 = .ok (.bipush 8, 2) := by decide +kernel
theorem dX0_copyFrom_5 : decode cX0_copyFrom 5 = .ok (.if_icmp .ge 33, 3) := by decide +kernel
theorem dX0_copyFrom_8 : decode cX0_copyFrom 8 = .ok (.aload_n 0, 1) := by decide +kernel
theorem dX0_copyFrom_9 : decode cX0_copyFrom 9 = .ok (.getfield 9, 3) := by decide +kernel
theorem dX0_copyFrom_12 : decode cX0_copyFrom 12 = .ok (.iload_n 2, 1) := by decide +kernel
theorem dX0_copyFrom_13 : decode cX0_copyFrom 13 = .ok (.aload_n 1, 1) := by decide +kernel
theorem dX0_copyFrom_14 : decode cX0_copyFrom 14 = .ok (.getfield 9, 3) := by decide +kernel
theorem dX0_copyFrom_17 : decode cX0_copyFrom 17 = .ok (.iload_n 2, 1) := by decide +kernel
theorem dX0_copyFrom_18 : decode cX0_copyFrom 18 = .ok (.iaload, 1) := by decide +kernel
theorem dX0_copyFrom_19 : decode cX0_copyFrom 19 = .ok (.iastore, 1) := by decide +kernel
theorem dX0_copyFrom_20 : decode cX0_copyFrom 20 = .ok (.aload_n 0, 1) := by decide +kernel
theorem dX0_copyFrom_21 : decode cX0_copyFrom 21 = .ok (.getfield 15, 3) := by decide +kernel
theorem dX0_copyFrom_24 : decode cX0_copyFrom 24 = .ok (.iload_n 2, 1) := by decide +kernel
theorem dX0_copyFrom_25 : decode cX0_copyFrom 25 = .ok (.aload_n 1, 1) := by decide +kernel
theorem dX0_copyFrom_26 : decode cX0_copyFrom 26 = .ok (.getfield 15, 3) := by decide +kernel
theorem dX0_copyFrom_29 : decode cX0_copyFrom 29 = .ok (.iload_n 2, 1) := by decide +kernel
theorem dX0_copyFrom_30 : decode cX0_copyFrom 30 = .ok (.iaload, 1) := by decide +kernel
theorem dX0_copyFrom_31 : decode cX0_copyFrom 31 = .ok (.iastore, 1) := by decide +kernel
theorem dX0_copyFrom_32 : decode cX0_copyFrom 32 = .ok (.iinc 2 1, 3) := by decide +kernel
theorem dX0_copyFrom_35 : decode cX0_copyFrom 35 = .ok (.goto (-33), 3) := by decide +kernel
theorem dX0_copyFrom_38 : decode cX0_copyFrom 38 = .ok (.return_, 1) := by decide +kernel
set_option maxRecDepth 20000 in
theorem ggX0_shadeAt_X0_leafRow : GoodIn wsX0_shadeAt wsX0_leafRow := goodIn_r _ [5, 6, 7, 8] (by decide +kernel) (by decide +kernel)
set_option maxRecDepth 20000 in
theorem gX0_shadeAt_X0_leafRow : GoodIn wsX0_shadeAt (wsV RX0 18 RX0 yX0_leafRow wsX0_leafRow) := goodIn_app (goodIn_of _ (by decide +kernel)) ggX0_shadeAt_X0_leafRow
theorem dX0_shadeAt_0 : decode cX0_shadeAt 0 = .ok (.iconst 0, 1) := by decide +kernel
theorem dX0_shadeAt_1 : decode cX0_shadeAt 1 = .ok (.istore_n 3, 1) := by decide +kernel
theorem dX0_shadeAt_2 : decode cX0_shadeAt 2 = .ok (.iload_n 1, 1) := by decide +kernel
theorem dX0_shadeAt_3 : decode cX0_shadeAt 3 = .ok (.iconst 1, 1) := by decide +kernel
theorem dX0_shadeAt_4 : decode cX0_shadeAt 4 = .ok (.iadd, 1) := by decide +kernel
theorem dX0_shadeAt_5 : decode cX0_shadeAt 5 = .ok (.istore 4, 2) := by decide +kernel
theorem dX0_shadeAt_7 : decode cX0_shadeAt 7 = .ok (.iload 4, 2) := by decide +kernel
theorem dX0_shadeAt_9 : decode cX0_shadeAt 9 = .ok (.bipush 8, 2) := by decide +kernel
theorem dX0_shadeAt_11 : decode cX0_shadeAt 11 = .ok (.if_icmp .ge 22, 3) := by decide +kernel
theorem dX0_shadeAt_14 : decode cX0_shadeAt 14 = .ok (.iload_n 3, 1) := by decide +kernel
theorem dX0_shadeAt_15 : decode cX0_shadeAt 15 = .ok (.aload_n 0, 1) := by decide +kernel
theorem dX0_shadeAt_16 : decode cX0_shadeAt 16 = .ok (.iload 4, 2) := by decide +kernel
theorem dX0_shadeAt_18 : decode cX0_shadeAt 18 = .ok (.invokevirtual 18, 3) := by decide +kernel
theorem dX0_shadeAt_21 : decode cX0_shadeAt 21 = .ok (.iload_n 2, 1) := by decide +kernel
theorem dX0_shadeAt_22 : decode cX0_shadeAt 22 = .ok (.ishr, 1) := by decide +kernel
theorem dX0_shadeAt_23 : decode cX0_shadeAt 23 = .ok (.iconst 1, 1) := by decide +kernel
theorem dX0_shadeAt_24 : decode cX0_shadeAt 24 = .ok (.iand, 1) := by decide +kernel
theorem dX0_shadeAt_25 : decode cX0_shadeAt 25 = .ok (.iadd, 1) := by decide +kernel
theorem dX0_shadeAt_26 : decode cX0_shadeAt 26 = .ok (.istore_n 3, 1) := by decide +kernel
theorem dX0_shadeAt_27 : decode cX0_shadeAt 27 = .ok (.iinc 4 1, 3) := by decide +kernel
theorem dX0_shadeAt_30 : decode cX0_shadeAt 30 = .ok (.goto (-23), 3) := by decide +kernel
theorem dX0_shadeAt_33 : decode cX0_shadeAt 33 = .ok (.iload_n 3, 1) := by decide +kernel
theorem dX0_shadeAt_34 : decode cX0_shadeAt 34 = .ok (.ireturn, 1) := by decide +kernel
set_option maxRecDepth 20000 in
theorem ggX0_holdersAt_X0_leafRowAsSeen : GoodIn wsX0_holdersAt wsX0_leafRowAsSeen := goodIn_r _ [5, 6, 7, 8, 4, 9, 10, 21, 22] (by decide +kernel) (by decide +kernel)
set_option maxRecDepth 20000 in
theorem gX0_holdersAt_X0_leafRowAsSeen : GoodIn wsX0_holdersAt (wsV RX0 36 RX0 yX0_leafRowAsSeen wsX0_leafRowAsSeen) := goodIn_app (goodIn_of _ (by decide +kernel)) ggX0_holdersAt_X0_leafRowAsSeen
set_option maxRecDepth 20000 in
theorem ggX0_holdersAt_X0_countHolders : GoodIn wsX0_holdersAt wsX0_countHolders := goodIn_r _ [13, 14, 15, 16, 17, 18, 19, 20] (by decide +kernel) (by decide +kernel)
set_option maxRecDepth 20000 in
theorem gX0_holdersAt_X0_countHolders : GoodIn wsX0_holdersAt (va_wsS RX0 40 yX0_countHolders wsX0_countHolders) := goodIn_app (goodIn_of _ (by decide +kernel)) ggX0_holdersAt_X0_countHolders
theorem dX0_holdersAt_0 : decode cX0_holdersAt 0 = .ok (.aload_n 0, 1) := by decide +kernel
theorem dX0_holdersAt_1 : decode cX0_holdersAt 1 = .ok (.iload_n 1, 1) := by decide +kernel
theorem dX0_holdersAt_2 : decode cX0_holdersAt 2 = .ok (.iconst 1, 1) := by decide +kernel
theorem dX0_holdersAt_3 : decode cX0_holdersAt 3 = .ok (.isub, 1) := by decide +kernel
theorem dX0_holdersAt_4 : decode cX0_holdersAt 4 = .ok (.iload_n 3, 1) := by decide +kernel
theorem dX0_holdersAt_5 : decode cX0_holdersAt 5 = .ok (.invokevirtual 36, 3) := by decide +kernel
theorem dX0_holdersAt_8 : decode cX0_holdersAt 8 = .ok (.iload_n 2, 1) := by decide +kernel
theorem dX0_holdersAt_9 : decode cX0_holdersAt 9 = .ok (.ishr, 1) := by decide +kernel
theorem dX0_holdersAt_10 : decode cX0_holdersAt 10 = .ok (.invokestatic 40, 3) := by decide +kernel
theorem dX0_holdersAt_13 : decode cX0_holdersAt 13 = .ok (.ireturn, 1) := by decide +kernel
set_option maxRecDepth 20000 in
theorem ggX0_neighboursAt_X0_leafRowAsSeen : GoodIn wsX0_neighboursAt wsX0_leafRowAsSeen := goodIn_r _ [5, 6, 7, 8, 4, 9, 10, 21, 22] (by decide +kernel) (by decide +kernel)
set_option maxRecDepth 20000 in
theorem gX0_neighboursAt_X0_leafRowAsSeen : GoodIn wsX0_neighboursAt (wsV RX0 36 RX0 yX0_leafRowAsSeen wsX0_leafRowAsSeen) := goodIn_app (goodIn_of _ (by decide +kernel)) ggX0_neighboursAt_X0_leafRowAsSeen
set_option maxRecDepth 20000 in
theorem ggX0_neighboursAt_X0_countNeighbours : GoodIn wsX0_neighboursAt wsX0_countNeighbours := goodIn_r _ [13, 14, 15, 16, 17, 18, 19, 20] (by decide +kernel) (by decide +kernel)
set_option maxRecDepth 20000 in
theorem gX0_neighboursAt_X0_countNeighbours : GoodIn wsX0_neighboursAt (va_wsS RX0 43 yX0_countNeighbours wsX0_countNeighbours) := goodIn_app (goodIn_of _ (by decide +kernel)) ggX0_neighboursAt_X0_countNeighbours
theorem dX0_neighboursAt_0 : decode cX0_neighboursAt 0 = .ok (.aload_n 0, 1) := by decide +kernel
theorem dX0_neighboursAt_1 : decode cX0_neighboursAt 1 = .ok (.iload_n 1, 1) := by decide +kernel
theorem dX0_neighboursAt_2 : decode cX0_neighboursAt 2 = .ok (.iconst 1, 1) := by decide +kernel
theorem dX0_neighboursAt_3 : decode cX0_neighboursAt 3 = .ok (.isub, 1) := by decide +kernel
theorem dX0_neighboursAt_4 : decode cX0_neighboursAt 4 = .ok (.iload_n 3, 1) := by decide +kernel
theorem dX0_neighboursAt_5 : decode cX0_neighboursAt 5 = .ok (.invokevirtual 36, 3) := by decide +kernel
theorem dX0_neighboursAt_8 : decode cX0_neighboursAt 8 = .ok (.iload_n 2, 1) := by decide +kernel
theorem dX0_neighboursAt_9 : decode cX0_neighboursAt 9 = .ok (.ishr, 1) := by decide +kernel
theorem dX0_neighboursAt_10 : decode cX0_neighboursAt 10 = .ok (.aload_n 0, 1) := by decide +kernel
theorem dX0_neighboursAt_11 : decode cX0_neighboursAt 11 = .ok (.iload_n 1, 1) := by decide +kernel
theorem dX0_neighboursAt_12 : decode cX0_neighboursAt 12 = .ok (.iload_n 3, 1) := by decide +kernel
theorem dX0_neighboursAt_13 : decode cX0_neighboursAt 13 = .ok (.invokevirtual 36, 3) := by decide +kernel
theorem dX0_neighboursAt_16 : decode cX0_neighboursAt 16 = .ok (.iload_n 2, 1) := by decide +kernel
theorem dX0_neighboursAt_17 : decode cX0_neighboursAt 17 = .ok (.ishr, 1) := by decide +kernel
theorem dX0_neighboursAt_18 : decode cX0_neighboursAt 18 = .ok (.aload_n 0, 1) := by decide +kernel
theorem dX0_neighboursAt_19 : decode cX0_neighboursAt 19 = .ok (.iload_n 1, 1) := by decide +kernel
theorem dX0_neighboursAt_20 : decode cX0_neighboursAt 20 = .ok (.iconst 1, 1) := by decide +kernel
theorem dX0_neighboursAt_21 : decode cX0_neighboursAt 21 = .ok (.iadd, 1) := by decide +kernel
theorem dX0_neighboursAt_22 : decode cX0_neighboursAt 22 = .ok (.iload_n 3, 1) := by decide +kernel
theorem dX0_neighboursAt_23 : decode cX0_neighboursAt 23 = .ok (.invokevirtual 36, 3) := by decide +kernel
theorem dX0_neighboursAt_26 : decode cX0_neighboursAt 26 = .ok (.iload_n 2, 1) := by decide +kernel
theorem dX0_neighboursAt_27 : decode cX0_neighboursAt 27 = .ok (.ishr, 1) := by decide +kernel
theorem dX0_neighboursAt_28 : decode cX0_neighboursAt 28 = .ok (.invokestatic 43, 3) := by decide +kernel
theorem dX0_neighboursAt_31 : decode cX0_neighboursAt 31 = .ok (.ireturn, 1) := by decide +kernel
set_option maxRecDepth 20000 in
theorem ggX0_countInColumn_X0_shadeAt : GoodIn wsX0_countInColumn wsX0_shadeAt := goodIn_r _ [5, 6, 7, 8, 4, 9, 10, 11, 12] (by decide +kernel) (by decide +kernel)
set_option maxRecDepth 20000 in
theorem gX0_countInColumn_X0_shadeAt : GoodIn wsX0_countInColumn (wsV RX0 47 RX0 yX0_shadeAt wsX0_shadeAt) := goodIn_app (goodIn_of _ (by decide +kernel)) ggX0_countInColumn_X0_shadeAt
theorem dX0_countInColumn_0 : decode cX0_countInColumn 0 = .ok (.aload_n 0, 1) := by decide +kernel
theorem dX0_countInColumn_1 : decode cX0_countInColumn 1 = .ok (.iconst (-1), 1) := by decide +kernel
theorem dX0_countInColumn_2 : decode cX0_countInColumn 2 = .ok (.iload_n 1, 1) := by decide +kernel
theorem dX0_countInColumn_3 : decode cX0_countInColumn 3 = .ok (.invokevirtual 47, 3) := by decide +kernel
theorem dX0_countInColumn_6 : decode cX0_countInColumn 6 = .ok (.ireturn, 1) := by decide +kernel
set_option maxRecDepth 20000 in
theorem ggX0_countLeaves_J6_bitCount_0f7a4 : GoodIn wsX0_countLeaves wsJ6_bitCount_0f7a4 := goodIn_r _ [5, 6, 7, 8] (by decide +kernel) (by decide +kernel)
set_option maxRecDepth 20000 in
theorem gX0_countLeaves_J6_bitCount_0f7a4 : GoodIn wsX0_countLeaves (va_wsS RX0 50 yJ6_bitCount_0f7a4 wsJ6_bitCount_0f7a4) := goodIn_app (goodIn_of _ (by decide +kernel)) ggX0_countLeaves_J6_bitCount_0f7a4
theorem dX0_countLeaves_0 : decode cX0_countLeaves 0 = .ok (.iconst 0, 1) := by decide +kernel
theorem dX0_countLeaves_1 : decode cX0_countLeaves 1 = .ok (.istore_n 1, 1) := by decide +kernel
theorem dX0_countLeaves_2 : decode cX0_countLeaves 2 = .ok (.iconst 0, 1) := by decide +kernel
theorem dX0_countLeaves_3 : decode cX0_countLeaves 3 = .ok (.istore_n 2, 1) := by decide +kernel
theorem dX0_countLeaves_4 : decode cX0_countLeaves 4 = .ok (.iload_n 2, 1) := by decide +kernel
theorem dX0_countLeaves_5 : decode cX0_countLeaves 5 = .ok (.bipush 8, 2) := by decide +kernel
theorem dX0_countLeaves_7 : decode cX0_countLeaves 7 = .ok (.if_icmp .ge 21, 3) := by decide +kernel
theorem dX0_countLeaves_10 : decode cX0_countLeaves 10 = .ok (.iload_n 1, 1) := by decide +kernel
theorem dX0_countLeaves_11 : decode cX0_countLeaves 11 = .ok (.aload_n 0, 1) := by decide +kernel
theorem dX0_countLeaves_12 : decode cX0_countLeaves 12 = .ok (.getfield 9, 3) := by decide +kernel
theorem dX0_countLeaves_15 : decode cX0_countLeaves 15 = .ok (.iload_n 2, 1) := by decide +kernel
theorem dX0_countLeaves_16 : decode cX0_countLeaves 16 = .ok (.iaload, 1) := by decide +kernel
theorem dX0_countLeaves_17 : decode cX0_countLeaves 17 = .ok (.invokestatic 50, 3) := by decide +kernel
theorem dX0_countLeaves_20 : decode cX0_countLeaves 20 = .ok (.iadd, 1) := by decide +kernel
theorem dX0_countLeaves_21 : decode cX0_countLeaves 21 = .ok (.istore_n 1, 1) := by decide +kernel
theorem dX0_countLeaves_22 : decode cX0_countLeaves 22 = .ok (.iinc 2 1, 3) := by decide +kernel
theorem dX0_countLeaves_25 : decode cX0_countLeaves 25 = .ok (.goto (-21), 3) := by decide +kernel
theorem dX0_countLeaves_28 : decode cX0_countLeaves 28 = .ok (.iload_n 1, 1) := by decide +kernel
theorem dX0_countLeaves_29 : decode cX0_countLeaves 29 = .ok (.ireturn, 1) := by decide +kernel
set_option maxRecDepth 20000 in
theorem ggX0_countLit_J6_bitCount_0f7a4 : GoodIn wsX0_countLit wsJ6_bitCount_0f7a4 := goodIn_r _ [5, 6, 7, 8] (by decide +kernel) (by decide +kernel)
set_option maxRecDepth 20000 in
theorem gX0_countLit_J6_bitCount_0f7a4 : GoodIn wsX0_countLit (va_wsS RX0 50 yJ6_bitCount_0f7a4 wsJ6_bitCount_0f7a4) := goodIn_app (goodIn_of _ (by decide +kernel)) ggX0_countLit_J6_bitCount_0f7a4
theorem dX0_countLit_0 : decode cX0_countLit 0 = .ok (.iconst 0, 1) := by decide +kernel
theorem dX0_countLit_1 : decode cX0_countLit 1 = .ok (.istore_n 1, 1) := by decide +kernel
theorem dX0_countLit_2 : decode cX0_countLit 2 = .ok (.iconst 0, 1) := by decide +kernel
theorem dX0_countLit_3 : decode cX0_countLit 3 = .ok (.istore_n 2, 1) := by decide +kernel
theorem dX0_countLit_4 : decode cX0_countLit 4 = .ok (.iload_n 2, 1) := by decide +kernel
theorem dX0_countLit_5 : decode cX0_countLit 5 = .ok (.bipush 8, 2) := by decide +kernel
theorem dX0_countLit_7 : decode cX0_countLit 7 = .ok (.if_icmp .ge 18, 3) := by decide +kernel
theorem dX0_countLit_10 : decode cX0_countLit 10 = .ok (.iload_n 1, 1) := by decide +kernel
theorem dX0_countLit_11 : decode cX0_countLit 11 = .ok (.aload_n 0, 1) := by decide +kernel
theorem dX0_countLit_12 : decode cX0_countLit 12 = .ok (.getfield 9, 3) := by decide +kernel
theorem dX0_countLit_15 : decode cX0_countLit 15 = .ok (.iload_n 2, 1) := by decide +kernel
theorem dX0_countLit_16 : decode cX0_countLit 16 = .ok (.iaload, 1) := by decide +kernel
theorem dX0_countLit_17 : decode cX0_countLit 17 = .ok (.ior, 1) := by decide +kernel
theorem dX0_countLit_18 : decode cX0_countLit 18 = .ok (.istore_n 1, 1) := by decide +kernel
theorem dX0_countLit_19 : decode cX0_countLit 19 = .ok (.iinc 2 1, 3) := by decide +kernel
theorem dX0_countLit_22 : decode cX0_countLit 22 = .ok (.goto (-18), 3) := by decide +kernel
theorem dX0_countLit_25 : decode cX0_countLit 25 = .ok (.iload_n 1, 1) := by decide +kernel
theorem dX0_countLit_26 : decode cX0_countLit 26 = .ok (.invokestatic 50, 3) := by decide +kernel
theorem dX0_countLit_29 : decode cX0_countLit 29 = .ok (.ireturn, 1) := by decide +kernel
set_option maxRecDepth 20000 in
theorem ggX0_leavesOfHalf_X0_leafRow : GoodIn wsX0_leavesOfHalf wsX0_leafRow := goodIn_r _ [5, 6, 7, 8] (by decide +kernel) (by decide +kernel)
set_option maxRecDepth 20000 in
theorem gX0_leavesOfHalf_X0_leafRow : GoodIn wsX0_leavesOfHalf (wsV RX0 18 RX0 yX0_leafRow wsX0_leafRow) := goodIn_app (goodIn_of _ (by decide +kernel)) ggX0_leavesOfHalf_X0_leafRow
theorem dX0_leavesOfHalf_0 : decode cX0_leavesOfHalf 0 = .ok (.lconst 0, 1) := by decide +kernel
theorem dX0_leavesOfHalf_1 : decode cX0_leavesOfHalf 1 = .ok (.lstore_n 2, 1) := by decide +kernel
theorem dX0_leavesOfHalf_2 : decode cX0_leavesOfHalf 2 = .ok (.iload_n 1, 1) := by decide +kernel
theorem dX0_leavesOfHalf_3 : decode cX0_leavesOfHalf 3 = .ok (.istore 4, 2) := by decide +kernel
theorem dX0_leavesOfHalf_5 : decode cX0_leavesOfHalf 5 = .ok (.iload 4, 2) := by decide +kernel
theorem dX0_leavesOfHalf_7 : decode cX0_leavesOfHalf 7 = .ok (.iload_n 1, 1) := by decide +kernel
theorem dX0_leavesOfHalf_8 : decode cX0_leavesOfHalf 8 = .ok (.iconst 4, 1) := by decide +kernel
theorem dX0_leavesOfHalf_9 : decode cX0_leavesOfHalf 9 = .ok (.iadd, 1) := by decide +kernel
theorem dX0_leavesOfHalf_10 : decode cX0_leavesOfHalf 10 = .ok (.if_icmp .ge 22, 3) := by decide +kernel
theorem dX0_leavesOfHalf_13 : decode cX0_leavesOfHalf 13 = .ok (.lload_n 2, 1) := by decide +kernel
theorem dX0_leavesOfHalf_14 : decode cX0_leavesOfHalf 14 = .ok (.bipush 12, 2) := by decide +kernel
theorem dX0_leavesOfHalf_16 : decode cX0_leavesOfHalf 16 = .ok (.lshl, 1) := by decide +kernel
theorem dX0_leavesOfHalf_17 : decode cX0_leavesOfHalf 17 = .ok (.aload_n 0, 1) := by decide +kernel
theorem dX0_leavesOfHalf_18 : decode cX0_leavesOfHalf 18 = .ok (.iload 4, 2) := by decide +kernel
theorem dX0_leavesOfHalf_20 : decode cX0_leavesOfHalf 20 = .ok (.invokevirtual 18, 3) := by decide +kernel
theorem dX0_leavesOfHalf_23 : decode cX0_leavesOfHalf 23 = .ok (.i2l, 1) := by decide +kernel
theorem dX0_leavesOfHalf_24 : decode cX0_leavesOfHalf 24 = .ok (.lor, 1) := by decide +kernel
theorem dX0_leavesOfHalf_25 : decode cX0_leavesOfHalf 25 = .ok (.lstore_n 2, 1) := by decide +kernel
theorem dX0_leavesOfHalf_26 : decode cX0_leavesOfHalf 26 = .ok (.iinc 4 1, 3) := by decide +kernel
theorem dX0_leavesOfHalf_29 : decode cX0_leavesOfHalf 29 = .ok (.goto (-24), 3) := by decide +kernel
theorem dX0_leavesOfHalf_32 : decode cX0_leavesOfHalf 32 = .ok (.lload_n 2, 1) := by decide +kernel
theorem dX0_leavesOfHalf_33 : decode cX0_leavesOfHalf 33 = .ok (.lreturn, 1) := by decide +kernel
set_option maxRecDepth 20000 in
theorem ggX0_becomeNextOf_X0_leafRowNext : GoodIn wsX0_becomeNextOf wsX0_leafRowNext := goodIn_r _ [7, 8, 9, 10, 6, 11, 1, 12, 13, 14, 15, 16, 17, 18, 19, 20, 21, 22, 23, 24, 25, 26, 27, 28, 29, 30, 31, 32, 33, 34, 35, 36, 2, 37, 38, 39, 40, 41, 42, 43, 44, 60, 61] (by decide +kernel) (by decide +kernel)
set_option maxRecDepth 20000 in
theorem gX0_becomeNextOf_X0_leafRowNext : GoodIn wsX0_becomeNextOf (wsV RX0 55 RX0 yX0_leafRowNext wsX0_leafRowNext) := goodIn_app (goodIn_of _ (by decide +kernel)) ggX0_becomeNextOf_X0_leafRowNext
set_option maxRecDepth 20000 in
theorem ggX0_becomeNextOf_X0_countInColumn : GoodIn wsX0_becomeNextOf wsX0_countInColumn := goodIn_r _ [48, 37, 38, 39, 6, 40, 8, 9, 10, 11, 1, 60, 61] (by decide +kernel) (by decide +kernel)
set_option maxRecDepth 20000 in
theorem gX0_becomeNextOf_X0_countInColumn : GoodIn wsX0_becomeNextOf (wsV RX0 58 RX0 yX0_countInColumn wsX0_countInColumn) := goodIn_app (goodIn_of _ (by decide +kernel)) ggX0_becomeNextOf_X0_countInColumn
set_option maxRecDepth 20000 in
theorem ggX0_becomeNextOf_X0_takeTopmost : GoodIn wsX0_becomeNextOf wsX0_takeTopmost := goodIn_r _ [52, 41, 42, 43, 6, 44, 8, 9, 10, 11, 1, 53, 54, 55, 56, 57, 58, 59, 60, 61] (by decide +kernel) (by decide +kernel)
set_option maxRecDepth 20000 in
theorem gX0_becomeNextOf_X0_takeTopmost : GoodIn wsX0_becomeNextOf (wsV RX0 61 RX0 yX0_takeTopmost wsX0_takeTopmost) := goodIn_app (goodIn_of _ (by decide +kernel)) ggX0_becomeNextOf_X0_takeTopmost
theorem dX0_becomeNextOf_0 : decode cX0_becomeNextOf 0 = .ok (.iconst 0, 1) := by decide +kernel
theorem dX0_becomeNextOf_1 : decode cX0_becomeNextOf 1 = .ok (.istore 4, 2) := by decide +kernel
theorem dX0_becomeNextOf_3 : decode cX0_becomeNextOf 3 = .ok (.iload 4, 2) := by decide +kernel
theorem dX0_becomeNextOf_5 : decode cX0_becomeNextOf 5 = .ok (.bipush 8, 2) := by decide +kernel
theorem dX0_becomeNextOf_7 : decode cX0_becomeNextOf 7 = .ok (.if_icmp .ge 31, 3) := by decide +kernel
theorem dX0_becomeNextOf_10 : decode cX0_becomeNextOf 10 = .ok (.aload_n 0, 1) := by decide +kernel
theorem dX0_becomeNextOf_11 : decode cX0_becomeNextOf 11 = .ok (.getfield 9, 3) := by decide +kernel
theorem dX0_becomeNextOf_14 : decode cX0_becomeNextOf 14 = .ok (.iload 4, 2) := by decide +kernel
theorem dX0_becomeNextOf_16 : decode cX0_becomeNextOf 16 = .ok (.aload_n 1, 1) := by decide +kernel
theorem dX0_becomeNextOf_17 : decode cX0_becomeNextOf 17 = .ok (.iload 4, 2) := by decide +kernel
theorem dX0_becomeNextOf_19 : decode cX0_becomeNextOf 19 = .ok (.iload_n 2, 1) := by decide +kernel
theorem dX0_becomeNextOf_20 : decode cX0_becomeNextOf 20 = .ok (.invokevirtual 55, 3) := by decide +kernel
theorem dX0_becomeNextOf_23 : decode cX0_becomeNextOf 23 = .ok (.iastore, 1) := by decide +kernel
theorem dX0_becomeNextOf_24 : decode cX0_becomeNextOf 24 = .ok (.aload_n 0, 1) := by decide +kernel
theorem dX0_becomeNextOf_25 : decode cX0_becomeNextOf 25 = .ok (.getfield 15, 3) := by decide +kernel
theorem dX0_becomeNextOf_28 : decode cX0_becomeNextOf 28 = .ok (.iload 4, 2) := by decide +kernel
theorem dX0_becomeNextOf_30 : decode cX0_becomeNextOf 30 = .ok (.iconst 0, 1) := by decide +kernel
theorem dX0_becomeNextOf_31 : decode cX0_becomeNextOf 31 = .ok (.iastore, 1) := by decide +kernel
theorem dX0_becomeNextOf_32 : decode cX0_becomeNextOf 32 = .ok (.iinc 4 1, 3) := by decide +kernel
theorem dX0_becomeNextOf_35 : decode cX0_becomeNextOf 35 = .ok (.goto (-32), 3) := by decide +kernel
theorem dX0_becomeNextOf_38 : decode cX0_becomeNextOf 38 = .ok (.iconst 0, 1) := by decide +kernel
theorem dX0_becomeNextOf_39 : decode cX0_becomeNextOf 39 = .ok (.istore 4, 2) := by decide +kernel
theorem dX0_becomeNextOf_41 : decode cX0_becomeNextOf 41 = .ok (.iconst 0, 1) := by decide +kernel
theorem dX0_becomeNextOf_42 : decode cX0_becomeNextOf 42 = .ok (.istore 5, 2) := by decide +kernel
theorem dX0_becomeNextOf_44 : decode cX0_becomeNextOf 44 = .ok (.iload 5, 2) := by decide +kernel
theorem dX0_becomeNextOf_46 : decode cX0_becomeNextOf 46 = .ok (.bipush 12, 2) := by decide +kernel
theorem dX0_becomeNextOf_48 : decode cX0_becomeNextOf 48 = .ok (.if_icmp .ge 31, 3) := by decide +kernel
theorem dX0_becomeNextOf_51 : decode cX0_becomeNextOf 51 = .ok (.iload 4, 2) := by decide +kernel
theorem dX0_becomeNextOf_53 : decode cX0_becomeNextOf 53 = .ok (.aload_n 0, 1) := by decide +kernel
theorem dX0_becomeNextOf_54 : decode cX0_becomeNextOf 54 = .ok (.iload 5, 2) := by decide +kernel
theorem dX0_becomeNextOf_56 : decode cX0_becomeNextOf 56 = .ok (.aload_n 0, 1) := by decide +kernel
theorem dX0_becomeNextOf_57 : decode cX0_becomeNextOf 57 = .ok (.iload 5, 2) := by decide +kernel
theorem dX0_becomeNextOf_59 : decode cX0_becomeNextOf 59 = .ok (.invokevirtual 58, 3) := by decide +kernel
theorem dX0_becomeNextOf_62 : decode cX0_becomeNextOf 62 = .ok (.aload_n 3, 1) := by decide +kernel
theorem dX0_becomeNextOf_63 : decode cX0_becomeNextOf 63 = .ok (.iload 5, 2) := by decide +kernel
theorem dX0_becomeNextOf_65 : decode cX0_becomeNextOf 65 = .ok (.iaload, 1) := by decide +kernel
theorem dX0_becomeNextOf_66 : decode cX0_becomeNextOf 66 = .ok (.isub, 1) := by decide +kernel
theorem dX0_becomeNextOf_67 : decode cX0_becomeNextOf 67 = .ok (.invokevirtual 61, 3) := by decide +kernel
theorem dX0_becomeNextOf_70 : decode cX0_becomeNextOf 70 = .ok (.iadd, 1) := by decide +kernel
theorem dX0_becomeNextOf_71 : decode cX0_becomeNextOf 71 = .ok (.istore 4, 2) := by decide +kernel
theorem dX0_becomeNextOf_73 : decode cX0_becomeNextOf 73 = .ok (.iinc 5 1, 3) := by decide +kernel
theorem dX0_becomeNextOf_76 : decode cX0_becomeNextOf 76 = .ok (.goto (-32), 3) := by decide +kernel
theorem dX0_becomeNextOf_79 : decode cX0_becomeNextOf 79 = .ok (.iload 4, 2) := by decide +kernel
theorem dX0_becomeNextOf_81 : decode cX0_becomeNextOf 81 = .ok (.ireturn, 1) := by decide +kernel
set_option maxRecDepth 20000 in
theorem ggX0_leafRowNext_X0_leafRow : GoodIn wsX0_leafRowNext wsX0_leafRow := goodIn_r _ [5, 6, 41, 42] (by decide +kernel) (by decide +kernel)
set_option maxRecDepth 20000 in
theorem gX0_leafRowNext_X0_leafRow : GoodIn wsX0_leafRowNext (wsV RX0 18 RX0 yX0_leafRow wsX0_leafRow) := goodIn_app (goodIn_of _ (by decide +kernel)) ggX0_leafRowNext_X0_leafRow
set_option maxRecDepth 20000 in
theorem ggX0_leafRowNext_X0_leafRowAsSeen : GoodIn wsX0_leafRowNext wsX0_leafRowAsSeen := goodIn_r _ [10, 1, 2, 3, 4, 5, 6, 41, 42] (by decide +kernel) (by decide +kernel)
set_option maxRecDepth 20000 in
theorem gX0_leafRowNext_X0_leafRowAsSeen : GoodIn wsX0_leafRowNext (wsV RX0 36 RX0 yX0_leafRowAsSeen wsX0_leafRowAsSeen) := goodIn_app (goodIn_of _ (by decide +kernel)) ggX0_leafRowNext_X0_leafRowAsSeen
set_option maxRecDepth 20000 in
theorem ggX0_leafRowNext_X0_countHolders : GoodIn wsX0_leafRowNext wsX0_countHolders := goodIn_r _ [13, 14, 15, 16, 17, 18, 19, 20] (by decide +kernel) (by decide +kernel)
set_option maxRecDepth 20000 in
theorem gX0_leafRowNext_X0_countHolders : GoodIn wsX0_leafRowNext (va_wsS RX0 40 yX0_countHolders wsX0_countHolders) := goodIn_app (goodIn_of _ (by decide +kernel)) ggX0_leafRowNext_X0_countHolders
set_option maxRecDepth 20000 in
theorem ggX0_leafRowNext_X0_countNeighbours : GoodIn wsX0_leafRowNext wsX0_countNeighbours := goodIn_r _ [23, 14, 15, 16, 17, 18, 19, 20] (by decide +kernel) (by decide +kernel)
set_option maxRecDepth 20000 in
theorem gX0_leafRowNext_X0_countNeighbours : GoodIn wsX0_leafRowNext (va_wsS RX0 43 yX0_countNeighbours wsX0_countNeighbours) := goodIn_app (goodIn_of _ (by decide +kernel)) ggX0_leafRowNext_X0_countNeighbours
set_option maxRecDepth 20000 in
theorem ggX0_leafRowNext_X0_bearsLeafNext : GoodIn wsX0_leafRowNext wsX0_bearsLeafNext := goodIn_r _ [27, 28, 29, 30, 4, 31, 32, 33, 34, 35, 36, 1, 2, 3, 5, 6, 37, 38, 39, 40, 41, 42] (by decide +kernel) (by decide +kernel)
set_option maxRecDepth 20000 in
theorem gX0_leafRowNext_X0_bearsLeafNext : GoodIn wsX0_leafRowNext (wsV RX0 64 RX0 yX0_bearsLeafNext wsX0_bearsLeafNext) := goodIn_app (goodIn_of _ (by decide +kernel)) ggX0_leafRowNext_X0_bearsLeafNext
theorem dX0_leafRowNext_0 : decode cX0_leafRowNext 0 = .ok (.iload_n 1, 1) := by decide +kernel
theorem dX0_leafRowNext_1 : decode cX0_leafRowNext 1 = .ok (.ifCond .ne 9, 3) := by decide +kernel
theorem dX0_leafRowNext_4 : decode cX0_leafRowNext 4 = .ok (.aload_n 0, 1) := by decide +kernel
theorem dX0_leafRowNext_5 : decode cX0_leafRowNext 5 = .ok (.iconst 0, 1) := by decide +kernel
theorem dX0_leafRowNext_6 : decode cX0_leafRowNext 6 = .ok (.invokevirtual 18, 3) := by decide +kernel
theorem dX0_leafRowNext_9 : decode cX0_leafRowNext 9 = .ok (.ireturn, 1) := by decide +kernel
theorem dX0_leafRowNext_10 : decode cX0_leafRowNext 10 = .ok (.aload_n 0, 1) := by decide +kernel
theorem dX0_leafRowNext_11 : decode cX0_leafRowNext 11 = .ok (.iload_n 1, 1) := by decide +kernel
theorem dX0_leafRowNext_12 : decode cX0_leafRowNext 12 = .ok (.iconst 1, 1) := by decide +kernel
theorem dX0_leafRowNext_13 : decode cX0_leafRowNext 13 = .ok (.isub, 1) := by decide +kernel
theorem dX0_leafRowNext_14 : decode cX0_leafRowNext 14 = .ok (.iload_n 2, 1) := by decide +kernel
theorem dX0_leafRowNext_15 : decode cX0_leafRowNext 15 = .ok (.invokevirtual 36, 3) := by decide +kernel
theorem dX0_leafRowNext_18 : decode cX0_leafRowNext 18 = .ok (.istore_n 3, 1) := by decide +kernel
theorem dX0_leafRowNext_19 : decode cX0_leafRowNext 19 = .ok (.aload_n 0, 1) := by decide +kernel
theorem dX0_leafRowNext_20 : decode cX0_leafRowNext 20 = .ok (.iload_n 1, 1) := by decide +kernel
theorem dX0_leafRowNext_21 : decode cX0_leafRowNext 21 = .ok (.iload_n 2, 1) := by decide +kernel
theorem dX0_leafRowNext_22 : decode cX0_leafRowNext 22 = .ok (.invokevirtual 36, 3) := by decide +kernel
theorem dX0_leafRowNext_25 : decode cX0_leafRowNext 25 = .ok (.istore 4, 2) := by decide +kernel
theorem dX0_leafRowNext_27 : decode cX0_leafRowNext 27 = .ok (.aload_n 0, 1) := by decide +kernel
theorem dX0_leafRowNext_28 : decode cX0_leafRowNext 28 = .ok (.iload_n 1, 1) := by decide +kernel
theorem dX0_leafRowNext_29 : decode cX0_leafRowNext 29 = .ok (.iconst 1, 1) := by decide +kernel
theorem dX0_leafRowNext_30 : decode cX0_leafRowNext 30 = .ok (.iadd, 1) := by decide +kernel
theorem dX0_leafRowNext_31 : decode cX0_leafRowNext 31 = .ok (.iload_n 2, 1) := by decide +kernel
theorem dX0_leafRowNext_32 : decode cX0_leafRowNext 32 = .ok (.invokevirtual 36, 3) := by decide +kernel
theorem dX0_leafRowNext_35 : decode cX0_leafRowNext 35 = .ok (.istore 5, 2) := by decide +kernel
theorem dX0_leafRowNext_37 : decode cX0_leafRowNext 37 = .ok (.iconst 0, 1) := by decide +kernel
theorem dX0_leafRowNext_38 : decode cX0_leafRowNext 38 = .ok (.istore 6, 2) := by decide +kernel
theorem dX0_leafRowNext_40 : decode cX0_leafRowNext 40 = .ok (.iconst 0, 1) := by decide +kernel
theorem dX0_leafRowNext_41 : decode cX0_leafRowNext 41 = .ok (.istore 7, 2) := by decide +kernel
theorem dX0_leafRowNext_43 : decode cX0_leafRowNext 43 = .ok (.iload 7, 2) := by decide +kernel
theorem dX0_leafRowNext_45 : decode cX0_leafRowNext 45 = .ok (.bipush 12, 2) := by decide +kernel
theorem dX0_leafRowNext_47 : decode cX0_leafRowNext 47 = .ok (.if_icmp .ge 60, 3) := by decide +kernel
theorem dX0_leafRowNext_50 : decode cX0_leafRowNext 50 = .ok (.iload_n 3, 1) := by decide +kernel
theorem dX0_leafRowNext_51 : decode cX0_leafRowNext 51 = .ok (.iload 7, 2) := by decide +kernel
theorem dX0_leafRowNext_53 : decode cX0_leafRowNext 53 = .ok (.ishr, 1) := by decide +kernel
theorem dX0_leafRowNext_54 : decode cX0_leafRowNext 54 = .ok (.invokestatic 40, 3) := by decide +kernel
theorem dX0_leafRowNext_57 : decode cX0_leafRowNext 57 = .ok (.istore 8, 2) := by decide +kernel
theorem dX0_leafRowNext_59 : decode cX0_leafRowNext 59 = .ok (.iload_n 3, 1) := by decide +kernel
theorem dX0_leafRowNext_60 : decode cX0_leafRowNext 60 = .ok (.iload 7, 2) := by decide +kernel
theorem dX0_leafRowNext_62 : decode cX0_leafRowNext 62 = .ok (.ishr, 1) := by decide +kernel
theorem dX0_leafRowNext_63 : decode cX0_leafRowNext 63 = .ok (.iload 4, 2) := by decide +kernel
theorem dX0_leafRowNext_65 : decode cX0_leafRowNext 65 = .ok (.iload 7, 2) := by decide +kernel
theorem dX0_leafRowNext_67 : decode cX0_leafRowNext 67 = .ok (.ishr, 1) := by decide +kernel
theorem dX0_leafRowNext_68 : decode cX0_leafRowNext 68 = .ok (.iload 5, 2) := by decide +kernel
theorem dX0_leafRowNext_70 : decode cX0_leafRowNext 70 = .ok (.iload 7, 2) := by decide +kernel
theorem dX0_leafRowNext_72 : decode cX0_leafRowNext 72 = .ok (.ishr, 1) := by decide +kernel
theorem dX0_leafRowNext_73 : decode cX0_leafRowNext 73 = .ok (.invokestatic 43, 3) := by decide +kernel
theorem dX0_leafRowNext_76 : decode cX0_leafRowNext 76 = .ok (.istore 9, 2) := by decide +kernel
theorem dX0_leafRowNext_78 : decode cX0_leafRowNext 78 = .ok (.aload_n 0, 1) := by decide +kernel
theorem dX0_leafRowNext_79 : decode cX0_leafRowNext 79 = .ok (.iload_n 1, 1) := by decide +kernel
theorem dX0_leafRowNext_80 : decode cX0_leafRowNext 80 = .ok (.iload 7, 2) := by decide +kernel
theorem dX0_leafRowNext_82 : decode cX0_leafRowNext 82 = .ok (.iload 8, 2) := by decide +kernel
theorem dX0_leafRowNext_84 : decode cX0_leafRowNext 84 = .ok (.iload 9, 2) := by decide +kernel
theorem dX0_leafRowNext_86 : decode cX0_leafRowNext 86 = .ok (.invokevirtual 64, 3) := by decide +kernel
theorem dX0_leafRowNext_89 : decode cX0_leafRowNext 89 = .ok (.ifCond .eq 12, 3) := by decide +kernel
theorem dX0_leafRowNext_92 : decode cX0_leafRowNext 92 = .ok (.iload 6, 2) := by decide +kernel
theorem dX0_leafRowNext_94 : decode cX0_leafRowNext 94 = .ok (.iconst 1, 1) := by decide +kernel
theorem dX0_leafRowNext_95 : decode cX0_leafRowNext 95 = .ok (.iload 7, 2) := by decide +kernel
theorem dX0_leafRowNext_97 : decode cX0_leafRowNext 97 = .ok (.ishl, 1) := by decide +kernel
theorem dX0_leafRowNext_98 : decode cX0_leafRowNext 98 = .ok (.ior, 1) := by decide +kernel
theorem dX0_leafRowNext_99 : decode cX0_leafRowNext 99 = .ok (.istore 6, 2) := by decide +kernel
theorem dX0_leafRowNext_101 : decode cX0_leafRowNext 101 = .ok (.iinc 7 1, 3) := by decide +kernel
theorem dX0_leafRowNext_104 : decode cX0_leafRowNext 104 = .ok (.goto (-61), 3) := by decide +kernel
theorem dX0_leafRowNext_107 : decode cX0_leafRowNext 107 = .ok (.iload 6, 2) := by decide +kernel
theorem dX0_leafRowNext_109 : decode cX0_leafRowNext 109 = .ok (.ireturn, 1) := by decide +kernel
set_option maxRecDepth 20000 in
theorem ggX0_bearsLeafNext_X0_hasCutAt : GoodIn wsX0_bearsLeafNext wsX0_hasCutAt := goodIn_r _ [5, 6, 20, 21] (by decide +kernel) (by decide +kernel)
set_option maxRecDepth 20000 in
theorem gX0_bearsLeafNext_X0_hasCutAt : GoodIn wsX0_bearsLeafNext (wsV RX0 26 RX0 yX0_hasCutAt wsX0_hasCutAt) := goodIn_app (goodIn_of _ (by decide +kernel)) ggX0_bearsLeafNext_X0_hasCutAt
set_option maxRecDepth 20000 in
theorem ggX0_bearsLeafNext_X0_shadeAt : GoodIn wsX0_bearsLeafNext wsX0_shadeAt := goodIn_r _ [10, 11, 12, 13, 4, 14, 15, 20, 21] (by decide +kernel) (by decide +kernel)
set_option maxRecDepth 20000 in
theorem gX0_bearsLeafNext_X0_shadeAt : GoodIn wsX0_bearsLeafNext (wsV RX0 47 RX0 yX0_shadeAt wsX0_shadeAt) := goodIn_app (goodIn_of _ (by decide +kernel)) ggX0_bearsLeafNext_X0_shadeAt
set_option maxRecDepth 20000 in
theorem ggX0_bearsLeafNext_X0_hasLeafAt : GoodIn wsX0_bearsLeafNext wsX0_hasLeafAt := goodIn_r _ [19, 11, 12, 13, 4, 14, 15, 20, 21] (by decide +kernel) (by decide +kernel)
set_option maxRecDepth 20000 in
theorem gX0_bearsLeafNext_X0_hasLeafAt : GoodIn wsX0_bearsLeafNext (wsV RX0 22 RX0 yX0_hasLeafAt wsX0_hasLeafAt) := goodIn_app (goodIn_of _ (by decide +kernel)) ggX0_bearsLeafNext_X0_hasLeafAt
theorem dX0_bearsLeafNext_0 : decode cX0_bearsLeafNext 0 = .ok (.iload_n 3, 1) := by decide +kernel
theorem dX0_bearsLeafNext_1 : decode cX0_bearsLeafNext 1 = .ok (.ifCond .eq 12, 3) := by decide +kernel
theorem dX0_bearsLeafNext_4 : decode cX0_bearsLeafNext 4 = .ok (.aload_n 0, 1) := by decide +kernel
theorem dX0_bearsLeafNext_5 : decode cX0_bearsLeafNext 5 = .ok (.iload_n 1, 1) := by decide +kernel
theorem dX0_bearsLeafNext_6 : decode cX0_bearsLeafNext 6 = .ok (.iload_n 2, 1) := by decide +kernel
theorem dX0_bearsLeafNext_7 : decode cX0_bearsLeafNext 7 = .ok (.invokevirtual 26, 3) := by decide +kernel
theorem dX0_bearsLeafNext_10 : decode cX0_bearsLeafNext 10 = .ok (.ifCond .eq 5, 3) := by decide +kernel
theorem dX0_bearsLeafNext_13 : decode cX0_bearsLeafNext 13 = .ok (.iconst 0, 1) := by decide +kernel
theorem dX0_bearsLeafNext_14 : decode cX0_bearsLeafNext 14 = .ok (.ireturn, 1) := by decide +kernel
theorem dX0_bearsLeafNext_15 : decode cX0_bearsLeafNext 15 = .ok (.aload_n 0, 1) := by decide +kernel
theorem dX0_bearsLeafNext_16 : decode cX0_bearsLeafNext 16 = .ok (.iload_n 1, 1) := by decide +kernel
theorem dX0_bearsLeafNext_17 : decode cX0_bearsLeafNext 17 = .ok (.iload_n 2, 1) := by decide +kernel
theorem dX0_bearsLeafNext_18 : decode cX0_bearsLeafNext 18 = .ok (.invokevirtual 47, 3) := by decide +kernel
theorem dX0_bearsLeafNext_21 : decode cX0_bearsLeafNext 21 = .ok (.istore 5, 2) := by decide +kernel
theorem dX0_bearsLeafNext_23 : decode cX0_bearsLeafNext 23 = .ok (.aload_n 0, 1) := by decide +kernel
theorem dX0_bearsLeafNext_24 : decode cX0_bearsLeafNext 24 = .ok (.iload_n 1, 1) := by decide +kernel
theorem dX0_bearsLeafNext_25 : decode cX0_bearsLeafNext 25 = .ok (.iload_n 2, 1) := by decide +kernel
theorem dX0_bearsLeafNext_26 : decode cX0_bearsLeafNext 26 = .ok (.invokevirtual 22, 3) := by decide +kernel
theorem dX0_bearsLeafNext_29 : decode cX0_bearsLeafNext 29 = .ok (.ifCond .eq 21, 3) := by decide +kernel
theorem dX0_bearsLeafNext_32 : decode cX0_bearsLeafNext 32 = .ok (.iload 4, 2) := by decide +kernel
theorem dX0_bearsLeafNext_34 : decode cX0_bearsLeafNext 34 = .ok (.iconst 5, 1) := by decide +kernel
theorem dX0_bearsLeafNext_35 : decode cX0_bearsLeafNext 35 = .ok (.if_icmp .gt 13, 3) := by decide +kernel
theorem dX0_bearsLeafNext_38 : decode cX0_bearsLeafNext 38 = .ok (.iload 5, 2) := by decide +kernel
theorem dX0_bearsLeafNext_40 : decode cX0_bearsLeafNext 40 = .ok (.iconst 4, 1) := by decide +kernel
theorem dX0_bearsLeafNext_41 : decode cX0_bearsLeafNext 41 = .ok (.if_icmp .gt 7, 3) := by decide +kernel
theorem dX0_bearsLeafNext_44 : decode cX0_bearsLeafNext 44 = .ok (.iconst 1, 1) := by decide +kernel
theorem dX0_bearsLeafNext_45 : decode cX0_bearsLeafNext 45 = .ok (.goto 4, 3) := by decide +kernel
theorem dX0_bearsLeafNext_48 : decode cX0_bearsLeafNext 48 = .ok (.iconst 0, 1) := by decide +kernel
theorem dX0_bearsLeafNext_49 : decode cX0_bearsLeafNext 49 = .ok (.ireturn, 1) := by decide +kernel
theorem dX0_bearsLeafNext_50 : decode cX0_bearsLeafNext 50 = .ok (.iload_n 3, 1) := by decide +kernel
theorem dX0_bearsLeafNext_51 : decode cX0_bearsLeafNext 51 = .ok (.iconst 2, 1) := by decide +kernel
theorem dX0_bearsLeafNext_52 : decode cX0_bearsLeafNext 52 = .ok (.if_icmp .gt 19, 3) := by decide +kernel
theorem dX0_bearsLeafNext_55 : decode cX0_bearsLeafNext 55 = .ok (.iload 4, 2) := by decide +kernel
theorem dX0_bearsLeafNext_57 : decode cX0_bearsLeafNext 57 = .ok (.iconst 3, 1) := by decide +kernel
theorem dX0_bearsLeafNext_58 : decode cX0_bearsLeafNext 58 = .ok (.if_icmp .gt 13, 3) := by decide +kernel
theorem dX0_bearsLeafNext_61 : decode cX0_bearsLeafNext 61 = .ok (.iload 5, 2) := by decide +kernel
theorem dX0_bearsLeafNext_63 : decode cX0_bearsLeafNext 63 = .ok (.iconst 2, 1) := by decide +kernel
theorem dX0_bearsLeafNext_64 : decode cX0_bearsLeafNext 64 = .ok (.if_icmp .gt 7, 3) := by decide +kernel
theorem dX0_bearsLeafNext_67 : decode cX0_bearsLeafNext 67 = .ok (.iconst 1, 1) := by decide +kernel
theorem dX0_bearsLeafNext_68 : decode cX0_bearsLeafNext 68 = .ok (.goto 4, 3) := by decide +kernel
theorem dX0_bearsLeafNext_71 : decode cX0_bearsLeafNext 71 = .ok (.iconst 0, 1) := by decide +kernel
theorem dX0_bearsLeafNext_72 : decode cX0_bearsLeafNext 72 = .ok (.ireturn, 1) := by decide +kernel
set_option maxRecDepth 20000 in
theorem ggX0_takeTopmost_X0_hasLeafAt : GoodIn wsX0_takeTopmost wsX0_hasLeafAt := goodIn_r _ [5, 6, 7, 8, 4, 9, 10, 18, 19] (by decide +kernel) (by decide +kernel)
set_option maxRecDepth 20000 in
theorem gX0_takeTopmost_X0_hasLeafAt : GoodIn wsX0_takeTopmost (wsV RX0 22 RX0 yX0_hasLeafAt wsX0_hasLeafAt) := goodIn_app (goodIn_of _ (by decide +kernel)) ggX0_takeTopmost_X0_hasLeafAt
set_option maxRecDepth 20000 in
theorem ggX0_takeTopmost_X0_takeLeaf : GoodIn wsX0_takeTopmost wsX0_takeLeaf := goodIn_r _ [14, 10, 15, 16, 17, 18, 19] (by decide +kernel) (by decide +kernel)
set_option maxRecDepth 20000 in
theorem gX0_takeTopmost_X0_takeLeaf : GoodIn wsX0_takeTopmost (wsV RX0 32 RX0 yX0_takeLeaf wsX0_takeLeaf) := goodIn_app (goodIn_of _ (by decide +kernel)) ggX0_takeTopmost_X0_takeLeaf
theorem dX0_takeTopmost_0 : decode cX0_takeTopmost 0 = .ok (.iconst 0, 1) := by decide +kernel
theorem dX0_takeTopmost_1 : decode cX0_takeTopmost 1 = .ok (.istore_n 3, 1) := by decide +kernel
theorem dX0_takeTopmost_2 : decode cX0_takeTopmost 2 = .ok (.bipush 7, 2) := by decide +kernel
theorem dX0_takeTopmost_4 : decode cX0_takeTopmost 4 = .ok (.istore 4, 2) := by decide +kernel
theorem dX0_takeTopmost_6 : decode cX0_takeTopmost 6 = .ok (.iload 4, 2) := by decide +kernel
theorem dX0_takeTopmost_8 : decode cX0_takeTopmost 8 = .ok (.ifCond .lt 34, 3) := by decide +kernel
theorem dX0_takeTopmost_11 : decode cX0_takeTopmost 11 = .ok (.iload_n 3, 1) := by decide +kernel
theorem dX0_takeTopmost_12 : decode cX0_takeTopmost 12 = .ok (.iload_n 2, 1) := by decide +kernel
theorem dX0_takeTopmost_13 : decode cX0_takeTopmost 13 = .ok (.if_icmp .ge 29, 3) := by decide +kernel
theorem dX0_takeTopmost_16 : decode cX0_takeTopmost 16 = .ok (.aload_n 0, 1) := by decide +kernel
theorem dX0_takeTopmost_17 : decode cX0_takeTopmost 17 = .ok (.iload 4, 2) := by decide +kernel
theorem dX0_takeTopmost_19 : decode cX0_takeTopmost 19 = .ok (.iload_n 1, 1) := by decide +kernel
theorem dX0_takeTopmost_20 : decode cX0_takeTopmost 20 = .ok (.invokevirtual 22, 3) := by decide +kernel
theorem dX0_takeTopmost_23 : decode cX0_takeTopmost 23 = .ok (.ifCond .eq 13, 3) := by decide +kernel
theorem dX0_takeTopmost_26 : decode cX0_takeTopmost 26 = .ok (.aload_n 0, 1) := by decide +kernel
theorem dX0_takeTopmost_27 : decode cX0_takeTopmost 27 = .ok (.iload 4, 2) := by decide +kernel
theorem dX0_takeTopmost_29 : decode cX0_takeTopmost 29 = .ok (.iload_n 1, 1) := by decide +kernel
theorem dX0_takeTopmost_30 : decode cX0_takeTopmost 30 = .ok (.invokevirtual 32, 3) := by decide +kernel
theorem dX0_takeTopmost_33 : decode cX0_takeTopmost 33 = .ok (.iinc 3 1, 3) := by decide +kernel
theorem dX0_takeTopmost_36 : decode cX0_takeTopmost 36 = .ok (.iinc 4 (-1), 3) := by decide +kernel
theorem dX0_takeTopmost_39 : decode cX0_takeTopmost 39 = .ok (.goto (-33), 3) := by decide +kernel
theorem dX0_takeTopmost_42 : decode cX0_takeTopmost 42 = .ok (.iload_n 3, 1) := by decide +kernel
theorem dX0_takeTopmost_43 : decode cX0_takeTopmost 43 = .ok (.ireturn, 1) := by decide +kernel
set_option maxRecDepth 20000 in
theorem ggX0_takeLeaf_X1_isCell : GoodIn wsX0_takeLeaf wsX1_isCell := goodIn_r _ [4] (by decide +kernel) (by decide +kernel)
set_option maxRecDepth 20000 in
theorem gX0_takeLeaf_X1_isCell_n29 : GoodIn wsX0_takeLeaf (wsX1_isCell) := ggX0_takeLeaf_X1_isCell
theorem dX0_takeLeaf_0 : decode cX0_takeLeaf 0 = .ok (.iload_n 1, 1) := by decide +kernel
theorem dX0_takeLeaf_1 : decode cX0_takeLeaf 1 = .ok (.iload_n 2, 1) := by decide +kernel
theorem dX0_takeLeaf_2 : decode cX0_takeLeaf 2 = .ok (.invokestatic 29, 3) := by decide +kernel
theorem dX0_takeLeaf_5 : decode cX0_takeLeaf 5 = .ok (.ifCond .eq 17, 3) := by decide +kernel
theorem dX0_takeLeaf_8 : decode cX0_takeLeaf 8 = .ok (.aload_n 0, 1) := by decide +kernel
theorem dX0_takeLeaf_9 : decode cX0_takeLeaf 9 = .ok (.getfield 9, 3) := by decide +kernel
theorem dX0_takeLeaf_12 : decode cX0_takeLeaf 12 = .ok (.iload_n 1, 1) := by decide +kernel
theorem dX0_takeLeaf_13 : decode cX0_takeLeaf 13 = .ok (.dup2, 1) := by decide +kernel
theorem dX0_takeLeaf_14 : decode cX0_takeLeaf 14 = .ok (.iaload, 1) := by decide +kernel
theorem dX0_takeLeaf_15 : decode cX0_takeLeaf 15 = .ok (.iconst 1, 1) := by decide +kernel
theorem dX0_takeLeaf_16 : decode cX0_takeLeaf 16 = .ok (.iload_n 2, 1) := by decide +kernel
theorem dX0_takeLeaf_17 : decode cX0_takeLeaf 17 = .ok (.ishl, 1) := by decide +kernel
theorem dX0_takeLeaf_18 : decode cX0_takeLeaf 18 = .ok (.iconst (-1), 1) := by decide +kernel
theorem dX0_takeLeaf_19 : decode cX0_takeLeaf 19 = .ok (.ixor, 1) := by decide +kernel
theorem dX0_takeLeaf_20 : decode cX0_takeLeaf 20 = .ok (.iand, 1) := by decide +kernel
theorem dX0_takeLeaf_21 : decode cX0_takeLeaf 21 = .ok (.iastore, 1) := by decide +kernel
theorem dX0_takeLeaf_22 : decode cX0_takeLeaf 22 = .ok (.return_, 1) := by decide +kernel
theorem dX0_hasCutAt_0 : decode cX0_hasCutAt 0 = .ok (.iload_n 1, 1) := by decide +kernel
theorem dX0_hasCutAt_1 : decode cX0_hasCutAt 1 = .ok (.ifCond .lt 27, 3) := by decide +kernel
theorem dX0_hasCutAt_4 : decode cX0_hasCutAt 4 = .ok (.iload_n 1, 1) := by decide +kernel
theorem dX0_hasCutAt_5 : decode cX0_hasCutAt 5 = .ok (.bipush 8, 2) := by decide +kernel
theorem dX0_hasCutAt_7 : decode cX0_hasCutAt 7 = .ok (.if_icmp .ge 21, 3) := by decide +kernel
theorem dX0_hasCutAt_10 : decode cX0_hasCutAt 10 = .ok (.aload_n 0, 1) := by decide +kernel
theorem dX0_hasCutAt_11 : decode cX0_hasCutAt 11 = .ok (.getfield 15, 3) := by decide +kernel
theorem dX0_hasCutAt_14 : decode cX0_hasCutAt 14 = .ok (.iload_n 1, 1) := by decide +kernel
theorem dX0_hasCutAt_15 : decode cX0_hasCutAt 15 = .ok (.iaload, 1) := by decide +kernel
theorem dX0_hasCutAt_16 : decode cX0_hasCutAt 16 = .ok (.iload_n 2, 1) := by decide +kernel
theorem dX0_hasCutAt_17 : decode cX0_hasCutAt 17 = .ok (.ishr, 1) := by decide +kernel
theorem dX0_hasCutAt_18 : decode cX0_hasCutAt 18 = .ok (.iconst 1, 1) := by decide +kernel
theorem dX0_hasCutAt_19 : decode cX0_hasCutAt 19 = .ok (.iand, 1) := by decide +kernel
theorem dX0_hasCutAt_20 : decode cX0_hasCutAt 20 = .ok (.iconst 1, 1) := by decide +kernel
theorem dX0_hasCutAt_21 : decode cX0_hasCutAt 21 = .ok (.if_icmp .ne 7, 3) := by decide +kernel
theorem dX0_hasCutAt_24 : decode cX0_hasCutAt 24 = .ok (.iconst 1, 1) := by decide +kernel
theorem dX0_hasCutAt_25 : decode cX0_hasCutAt 25 = .ok (.goto 4, 3) := by decide +kernel
theorem dX0_hasCutAt_28 : decode cX0_hasCutAt 28 = .ok (.iconst 0, 1) := by decide +kernel
theorem dX0_hasCutAt_29 : decode cX0_hasCutAt 29 = .ok (.ireturn, 1) := by decide +kernel
theorem dX0_leafRow_0 : decode cX0_leafRow 0 = .ok (.iload_n 1, 1) := by decide +kernel
theorem dX0_leafRow_1 : decode cX0_leafRow 1 = .ok (.ifCond .lt 18, 3) := by decide +kernel
theorem dX0_leafRow_4 : decode cX0_leafRow 4 = .ok (.iload_n 1, 1) := by decide +kernel
theorem dX0_leafRow_5 : decode cX0_leafRow 5 = .ok (.bipush 8, 2) := by decide +kernel
theorem dX0_leafRow_7 : decode cX0_leafRow 7 = .ok (.if_icmp .ge 12, 3) := by decide +kernel
theorem dX0_leafRow_10 : decode cX0_leafRow 10 = .ok (.aload_n 0, 1) := by decide +kernel
theorem dX0_leafRow_11 : decode cX0_leafRow 11 = .ok (.getfield 9, 3) := by decide +kernel
theorem dX0_leafRow_14 : decode cX0_leafRow 14 = .ok (.iload_n 1, 1) := by decide +kernel
theorem dX0_leafRow_15 : decode cX0_leafRow 15 = .ok (.iaload, 1) := by decide +kernel
theorem dX0_leafRow_16 : decode cX0_leafRow 16 = .ok (.goto 4, 3) := by decide +kernel
theorem dX0_leafRow_19 : decode cX0_leafRow 19 = .ok (.iconst 0, 1) := by decide +kernel
theorem dX0_leafRow_20 : decode cX0_leafRow 20 = .ok (.ireturn, 1) := by decide +kernel
set_option maxRecDepth 20000 in
theorem ggX0_countHolders_J6_bitCount_0f7a4 : GoodIn wsX0_countHolders wsJ6_bitCount_0f7a4 := goodIn_r _ [4, 5, 6, 7] (by decide +kernel) (by decide +kernel)
set_option maxRecDepth 20000 in
theorem gX0_countHolders_J6_bitCount_0f7a4 : GoodIn wsX0_countHolders (va_wsS RX0 50 yJ6_bitCount_0f7a4 wsJ6_bitCount_0f7a4) := goodIn_app (goodIn_of _ (by decide +kernel)) ggX0_countHolders_J6_bitCount_0f7a4
theorem dX0_countHolders_0 : decode cX0_countHolders 0 = .ok (.iload_n 0, 1) := by decide +kernel
theorem dX0_countHolders_1 : decode cX0_countHolders 1 = .ok (.bipush 7, 2) := by decide +kernel
theorem dX0_countHolders_3 : decode cX0_countHolders 3 = .ok (.iand, 1) := by decide +kernel
theorem dX0_countHolders_4 : decode cX0_countHolders 4 = .ok (.invokestatic 50, 3) := by decide +kernel
theorem dX0_countHolders_7 : decode cX0_countHolders 7 = .ok (.ireturn, 1) := by decide +kernel
set_option maxRecDepth 20000 in
theorem ggX0_countNeighbours_J6_bitCount_0f7a4 : GoodIn wsX0_countNeighbours wsJ6_bitCount_0f7a4 := goodIn_r _ [4, 5, 6, 7] (by decide +kernel) (by decide +kernel)
set_option maxRecDepth 20000 in
theorem gX0_countNeighbours_J6_bitCount_0f7a4 : GoodIn wsX0_countNeighbours (va_wsS RX0 50 yJ6_bitCount_0f7a4 wsJ6_bitCount_0f7a4) := goodIn_app (goodIn_of _ (by decide +kernel)) ggX0_countNeighbours_J6_bitCount_0f7a4
theorem dX0_countNeighbours_0 : decode cX0_countNeighbours 0 = .ok (.iload_n 0, 1) := by decide +kernel
theorem dX0_countNeighbours_1 : decode cX0_countNeighbours 1 = .ok (.bipush 7, 2) := by decide +kernel
theorem dX0_countNeighbours_3 : decode cX0_countNeighbours 3 = .ok (.iand, 1) := by decide +kernel
theorem dX0_countNeighbours_4 : decode cX0_countNeighbours 4 = .ok (.invokestatic 50, 3) := by decide +kernel
theorem dX0_countNeighbours_7 : decode cX0_countNeighbours 7 = .ok (.iload_n 1, 1) := by decide +kernel
theorem dX0_countNeighbours_8 : decode cX0_countNeighbours 8 = .ok (.iconst 5, 1) := by decide +kernel
theorem dX0_countNeighbours_9 : decode cX0_countNeighbours 9 = .ok (.iand, 1) := by decide +kernel
theorem dX0_countNeighbours_10 : decode cX0_countNeighbours 10 = .ok (.invokestatic 50, 3) := by decide +kernel
theorem dX0_countNeighbours_13 : decode cX0_countNeighbours 13 = .ok (.iadd, 1) := by decide +kernel
theorem dX0_countNeighbours_14 : decode cX0_countNeighbours 14 = .ok (.iload_n 2, 1) := by decide +kernel
theorem dX0_countNeighbours_15 : decode cX0_countNeighbours 15 = .ok (.bipush 7, 2) := by decide +kernel
theorem dX0_countNeighbours_17 : decode cX0_countNeighbours 17 = .ok (.iand, 1) := by decide +kernel
theorem dX0_countNeighbours_18 : decode cX0_countNeighbours 18 = .ok (.invokestatic 50, 3) := by decide +kernel
theorem dX0_countNeighbours_21 : decode cX0_countNeighbours 21 = .ok (.iadd, 1) := by decide +kernel
theorem dX0_countNeighbours_22 : decode cX0_countNeighbours 22 = .ok (.ireturn, 1) := by decide +kernel
set_option maxRecDepth 20000 in
theorem ggX0_leafRowAsSeen_X0_leafRow : GoodIn wsX0_leafRowAsSeen wsX0_leafRow := goodIn_r _ [5, 6, 7, 8] (by decide +kernel) (by decide +kernel)
set_option maxRecDepth 20000 in
theorem gX0_leafRowAsSeen_X0_leafRow : GoodIn wsX0_leafRowAsSeen (wsV RX0 18 RX0 yX0_leafRow wsX0_leafRow) := goodIn_app (goodIn_of _ (by decide +kernel)) ggX0_leafRowAsSeen_X0_leafRow
theorem dX0_leafRowAsSeen_0 : decode cX0_leafRowAsSeen 0 = .ok (.aload_n 0, 1) := by decide +kernel
theorem dX0_leafRowAsSeen_1 : decode cX0_leafRowAsSeen 1 = .ok (.iload_n 1, 1) := by decide +kernel
theorem dX0_leafRowAsSeen_2 : decode cX0_leafRowAsSeen 2 = .ok (.invokevirtual 18, 3) := by decide +kernel
theorem dX0_leafRowAsSeen_5 : decode cX0_leafRowAsSeen 5 = .ok (.istore_n 3, 1) := by decide +kernel
theorem dX0_leafRowAsSeen_6 : decode cX0_leafRowAsSeen 6 = .ok (.iload_n 3, 1) := by decide +kernel
theorem dX0_leafRowAsSeen_7 : decode cX0_leafRowAsSeen 7 = .ok (.iconst 1, 1) := by decide +kernel
theorem dX0_leafRowAsSeen_8 : decode cX0_leafRowAsSeen 8 = .ok (.iand, 1) := by decide +kernel
theorem dX0_leafRowAsSeen_9 : decode cX0_leafRowAsSeen 9 = .ok (.istore 4, 2) := by decide +kernel
theorem dX0_leafRowAsSeen_11 : decode cX0_leafRowAsSeen 11 = .ok (.iload_n 3, 1) := by decide +kernel
theorem dX0_leafRowAsSeen_12 : decode cX0_leafRowAsSeen 12 = .ok (.bipush 11, 2) := by decide +kernel
theorem dX0_leafRowAsSeen_14 : decode cX0_leafRowAsSeen 14 = .ok (.ishr, 1) := by decide +kernel
theorem dX0_leafRowAsSeen_15 : decode cX0_leafRowAsSeen 15 = .ok (.iconst 1, 1) := by decide +kernel
theorem dX0_leafRowAsSeen_16 : decode cX0_leafRowAsSeen 16 = .ok (.iand, 1) := by decide +kernel
theorem dX0_leafRowAsSeen_17 : decode cX0_leafRowAsSeen 17 = .ok (.istore 5, 2) := by decide +kernel
theorem dX0_leafRowAsSeen_19 : decode cX0_leafRowAsSeen 19 = .ok (.iload_n 3, 1) := by decide +kernel
theorem dX0_leafRowAsSeen_20 : decode cX0_leafRowAsSeen 20 = .ok (.iconst 1, 1) := by decide +kernel
theorem dX0_leafRowAsSeen_21 : decode cX0_leafRowAsSeen 21 = .ok (.ishl, 1) := by decide +kernel
theorem dX0_leafRowAsSeen_22 : decode cX0_leafRowAsSeen 22 = .ok (.istore 6, 2) := by decide +kernel
theorem dX0_leafRowAsSeen_24 : decode cX0_leafRowAsSeen 24 = .ok (.iload_n 2, 1) := by decide +kernel
theorem dX0_leafRowAsSeen_25 : decode cX0_leafRowAsSeen 25 = .ok (.iconst 1, 1) := by decide +kernel
theorem dX0_leafRowAsSeen_26 : decode cX0_leafRowAsSeen 26 = .ok (.if_icmp .ne 19, 3) := by decide +kernel
theorem dX0_leafRowAsSeen_29 : decode cX0_leafRowAsSeen 29 = .ok (.iload 6, 2) := by decide +kernel
theorem dX0_leafRowAsSeen_31 : decode cX0_leafRowAsSeen 31 = .ok (.iload 5, 2) := by decide +kernel
theorem dX0_leafRowAsSeen_33 : decode cX0_leafRowAsSeen 33 = .ok (.iload 4, 2) := by decide +kernel
theorem dX0_leafRowAsSeen_35 : decode cX0_leafRowAsSeen 35 = .ok (.bipush 13, 2) := by decide +kernel
theorem dX0_leafRowAsSeen_37 : decode cX0_leafRowAsSeen 37 = .ok (.ishl, 1) := by decide +kernel
theorem dX0_leafRowAsSeen_38 : decode cX0_leafRowAsSeen 38 = .ok (.ior, 1) := by decide +kernel
theorem dX0_leafRowAsSeen_39 : decode cX0_leafRowAsSeen 39 = .ok (.ior, 1) := by decide +kernel
theorem dX0_leafRowAsSeen_40 : decode cX0_leafRowAsSeen 40 = .ok (.istore 6, 2) := by decide +kernel
theorem dX0_leafRowAsSeen_42 : decode cX0_leafRowAsSeen 42 = .ok (.goto 21, 3) := by decide +kernel
theorem dX0_leafRowAsSeen_45 : decode cX0_leafRowAsSeen 45 = .ok (.iload_n 2, 1) := by decide +kernel
theorem dX0_leafRowAsSeen_46 : decode cX0_leafRowAsSeen 46 = .ok (.iconst 2, 1) := by decide +kernel
theorem dX0_leafRowAsSeen_47 : decode cX0_leafRowAsSeen 47 = .ok (.if_icmp .ne 16, 3) := by decide +kernel
theorem dX0_leafRowAsSeen_50 : decode cX0_leafRowAsSeen 50 = .ok (.iload 6, 2) := by decide +kernel
theorem dX0_leafRowAsSeen_52 : decode cX0_leafRowAsSeen 52 = .ok (.iload 4, 2) := by decide +kernel
theorem dX0_leafRowAsSeen_54 : decode cX0_leafRowAsSeen 54 = .ok (.iload 5, 2) := by decide +kernel
theorem dX0_leafRowAsSeen_56 : decode cX0_leafRowAsSeen 56 = .ok (.bipush 13, 2) := by decide +kernel
theorem dX0_leafRowAsSeen_58 : decode cX0_leafRowAsSeen 58 = .ok (.ishl, 1) := by decide +kernel
theorem dX0_leafRowAsSeen_59 : decode cX0_leafRowAsSeen 59 = .ok (.ior, 1) := by decide +kernel
theorem dX0_leafRowAsSeen_60 : decode cX0_leafRowAsSeen 60 = .ok (.ior, 1) := by decide +kernel
theorem dX0_leafRowAsSeen_61 : decode cX0_leafRowAsSeen 61 = .ok (.istore 6, 2) := by decide +kernel
theorem dX0_leafRowAsSeen_63 : decode cX0_leafRowAsSeen 63 = .ok (.iload 6, 2) := by decide +kernel
theorem dX0_leafRowAsSeen_65 : decode cX0_leafRowAsSeen 65 = .ok (.ireturn, 1) := by decide +kernel
set_option maxRecDepth 20000 in
theorem ggX1_init_X0_init : GoodIn wsX1_init wsX0_init := goodIn_r _ [21, 22, 2, 3, 13, 23, 24, 25, 26] (by decide +kernel) (by decide +kernel)
set_option maxRecDepth 20000 in
theorem gX1_init_X0_init_n9 : GoodIn wsX1_init (wsX0_init) := ggX1_init_X0_init
theorem dX1_init_0 : decode cX1_init 0 = .ok (.aload_n 0, 1) := by decide +kernel
theorem dX1_init_1 : decode cX1_init 1 = .ok (.invokespecial 1, 3) := by decide +kernel
theorem dX1_init_4 : decode cX1_init 4 = .ok (.aload_n 0, 1) := by decide +kernel
theorem dX1_init_5 : decode cX1_init 5 = .ok (.new 7, 3) := by decide +kernel
theorem dX1_init_8 : decode cX1_init 8 = .ok (.dup, 1) := by decide +kernel
theorem dX1_init_9 : decode cX1_init 9 = .ok (.invokespecial 9, 3) := by decide +kernel
theorem dX1_init_12 : decode cX1_init 12 = .ok (.putfield 10, 3) := by decide +kernel
theorem dX1_init_15 : decode cX1_init 15 = .ok (.aload_n 0, 1) := by decide +kernel
theorem dX1_init_16 : decode cX1_init 16 = .ok (.new 7, 3) := by decide +kernel
theorem dX1_init_19 : decode cX1_init 19 = .ok (.dup, 1) := by decide +kernel
theorem dX1_init_20 : decode cX1_init 20 = .ok (.invokespecial 9, 3) := by decide +kernel
theorem dX1_init_23 : decode cX1_init 23 = .ok (.putfield 16, 3) := by decide +kernel
theorem dX1_init_26 : decode cX1_init 26 = .ok (.aload_n 0, 1) := by decide +kernel
theorem dX1_init_27 : decode cX1_init 27 = .ok (.new 7, 3) := by decide +kernel
theorem dX1_init_30 : decode cX1_init 30 = .ok (.dup, 1) := by decide +kernel
theorem dX1_init_31 : decode cX1_init 31 = .ok (.invokespecial 9, 3) := by decide +kernel
theorem dX1_init_34 : decode cX1_init 34 = .ok (.putfield 19, 3) := by decide +kernel
theorem dX1_init_37 : decode cX1_init 37 = .ok (.aload_n 0, 1) := by decide +kernel
theorem dX1_init_38 : decode cX1_init 38 = .ok (.bipush 61, 2) := by decide +kernel
theorem dX1_init_40 : decode cX1_init 40 = .ok (.newarray .long, 2) := by decide +kernel
theorem dX1_init_42 : decode cX1_init 42 = .ok (.putfield 22, 3) := by decide +kernel
theorem dX1_init_45 : decode cX1_init 45 = .ok (.aload_n 0, 1) := by decide +kernel
theorem dX1_init_46 : decode cX1_init 46 = .ok (.bipush 61, 2) := by decide +kernel
theorem dX1_init_48 : decode cX1_init 48 = .ok (.newarray .long, 2) := by decide +kernel
theorem dX1_init_50 : decode cX1_init 50 = .ok (.putfield 26, 3) := by decide +kernel
theorem dX1_init_53 : decode cX1_init 53 = .ok (.aload_n 0, 1) := by decide +kernel
theorem dX1_init_54 : decode cX1_init 54 = .ok (.bipush 12, 2) := by decide +kernel
theorem dX1_init_56 : decode cX1_init 56 = .ok (.newarray .int, 2) := by decide +kernel
theorem dX1_init_58 : decode cX1_init 58 = .ok (.putfield 29, 3) := by decide +kernel
theorem dX1_init_61 : decode cX1_init 61 = .ok (.aload_n 0, 1) := by decide +kernel
theorem dX1_init_62 : decode cX1_init 62 = .ok (.iconst 0, 1) := by decide +kernel
theorem dX1_init_63 : decode cX1_init 63 = .ok (.putfield 33, 3) := by decide +kernel
theorem dX1_init_66 : decode cX1_init 66 = .ok (.aload_n 0, 1) := by decide +kernel
theorem dX1_init_67 : decode cX1_init 67 = .ok (.iconst 0, 1) := by decide +kernel
theorem dX1_init_68 : decode cX1_init 68 = .ok (.putfield 37, 3) := by decide +kernel
theorem dX1_init_71 : decode cX1_init 71 = .ok (.aload_n 0, 1) := by decide +kernel
theorem dX1_init_72 : decode cX1_init 72 = .ok (.iconst 0, 1) := by decide +kernel
theorem dX1_init_73 : decode cX1_init 73 = .ok (.putfield 40, 3) := by decide +kernel
theorem dX1_init_76 : decode cX1_init 76 = .ok (.aload_n 0, 1) := by decide +kernel
theorem dX1_init_77 : decode cX1_init 77 = .ok (.iconst 0, 1) := by decide +kernel
theorem dX1_init_78 : decode cX1_init 78 = .ok (.putfield 43, 3) := by decide +kernel
theorem dX1_init_81 : decode cX1_init 81 = .ok (.aload_n 0, 1) := by decide +kernel
theorem dX1_init_82 : decode cX1_init 82 = .ok (.iconst 0, 1) := by decide +kernel
theorem dX1_init_83 : decode cX1_init 83 = .ok (.putfield 46, 3) := by decide +kernel
theorem dX1_init_86 : decode cX1_init 86 = .ok (.iconst 0, 1) := by decide +kernel
theorem dX1_init_87 : decode cX1_init 87 = .ok (.istore_n 1, 1) := by decide +kernel
theorem dX1_init_88 : decode cX1_init 88 = .ok (.iload_n 1, 1) := by decide +kernel
theorem dX1_init_89 : decode cX1_init 89 = .ok (.bipush 12, 2) := by decide +kernel
theorem dX1_init_91 : decode cX1_init 91 = .ok (.if_icmp .ge 16, 3) := by decide +kernel
theorem dX1_init_94 : decode cX1_init 94 = .ok (.aload_n 0, 1) := by decide +kernel
theorem dX1_init_95 : decode cX1_init 95 = .ok (.getfield 29, 3) := by decide +kernel
theorem dX1_init_98 : decode cX1_init 98 = .ok (.iload_n 1, 1) := by decide +kernel
theorem dX1_init_99 : decode cX1_init 99 = .ok (.iconst 5, 1) := by decide +kernel
theorem dX1_init_100 : decode cX1_init 100 = .ok (.iastore, 1) := by decide +kernel
theorem dX1_init_101 : decode cX1_init 101 = .ok (.iinc 1 1, 3) := by decide +kernel
theorem dX1_init_104 : decode cX1_init 104 = .ok (.goto (-16), 3) := by decide +kernel
theorem dX1_init_107 : decode cX1_init 107 = .ok (.return_, 1) := by decide +kernel
theorem dX1_sides_0 : decode cX1_sides 0 = .ok (.iload_n 1, 1) := by decide +kernel
theorem dX1_sides_1 : decode cX1_sides 1 = .ok (.ifCond .eq 23, 3) := by decide +kernel
theorem dX1_sides_4 : decode cX1_sides 4 = .ok (.iload_n 1, 1) := by decide +kernel
theorem dX1_sides_5 : decode cX1_sides 5 = .ok (.iconst 1, 1) := by decide +kernel
theorem dX1_sides_6 : decode cX1_sides 6 = .ok (.if_icmp .eq 18, 3) := by decide +kernel
theorem dX1_sides_9 : decode cX1_sides 9 = .ok (.iload_n 1, 1) := by decide +kernel
theorem dX1_sides_10 : decode cX1_sides 10 = .ok (.iconst 2, 1) := by decide +kernel
theorem dX1_sides_11 : decode cX1_sides 11 = .ok (.if_icmp .eq 13, 3) := by decide +kernel
theorem dX1_sides_14 : decode cX1_sides 14 = .ok (.new 49, 3) := by decide +kernel
theorem dX1_sides_17 : decode cX1_sides 17 = .ok (.dup, 1) := by decide +kernel
theorem dX1_sides_18 : decode cX1_sides 18 = .ok (.ldc 51, 2) := by decide +kernel
theorem dX1_sides_20 : decode cX1_sides 20 = .ok (.invokespecial 53, 3) := by decide +kernel
theorem dX1_sides_23 : decode cX1_sides 23 = .ok (.athrow, 1) := by decide +kernel
theorem dX1_sides_24 : decode cX1_sides 24 = .ok (.aload_n 0, 1) := by decide +kernel
theorem dX1_sides_25 : decode cX1_sides 25 = .ok (.getfield 43, 3) := by decide +kernel
theorem dX1_sides_28 : decode cX1_sides 28 = .ok (.ifCond .le 13, 3) := by decide +kernel
theorem dX1_sides_31 : decode cX1_sides 31 = .ok (.new 56, 3) := by decide +kernel
theorem dX1_sides_34 : decode cX1_sides 34 = .ok (.dup, 1) := by decide +kernel
theorem dX1_sides_35 : decode cX1_sides 35 = .ok (.ldc 58, 2) := by decide +kernel
theorem dX1_sides_37 : decode cX1_sides 37 = .ok (.invokespecial 60, 3) := by decide +kernel
theorem dX1_sides_40 : decode cX1_sides 40 = .ok (.athrow, 1) := by decide +kernel
theorem dX1_sides_41 : decode cX1_sides 41 = .ok (.aload_n 0, 1) := by decide +kernel
theorem dX1_sides_42 : decode cX1_sides 42 = .ok (.iload_n 1, 1) := by decide +kernel
theorem dX1_sides_43 : decode cX1_sides 43 = .ok (.putfield 33, 3) := by decide +kernel
theorem dX1_sides_46 : decode cX1_sides 46 = .ok (.return_, 1) := by decide +kernel
set_option maxRecDepth 20000 in
theorem ggX1_plant_X1_requireColumn : GoodIn wsX1_plant wsX1_requireColumn := goodIn_ca (goodIn_r _ [8, 9, 10] (by decide +kernel) (by decide +kernel)) (goodIn_sub (fun _ h => List.mem_cons_of_mem _ (List.mem_append_right _ h)) (by decide +kernel))
set_option maxRecDepth 20000 in
theorem gX1_plant_X1_requireColumn : GoodIn wsX1_plant (va_wsS RX1 61 yX1_requireColumn wsX1_requireColumn) := goodIn_app (goodIn_of _ (by decide +kernel)) ggX1_plant_X1_requireColumn
set_option maxRecDepth 20000 in
theorem ggX1_plant_X0_isBareAt : GoodIn wsX1_plant wsX0_isBareAt := goodIn_r _ [15, 16, 17, 18, 14, 19, 20, 21, 22, 23, 24, 25, 26, 27, 28, 29, 47, 48] (by decide +kernel) (by decide +kernel)
set_option maxRecDepth 20000 in
theorem gX1_plant_X0_isBareAt : GoodIn wsX1_plant (wsV RX1 65 RX0 yX0_isBareAt wsX0_isBareAt) := goodIn_app (goodIn_of _ (by decide +kernel)) ggX1_plant_X0_isBareAt
set_option maxRecDepth 20000 in
theorem ggX1_plant_X0_putLeaf : GoodIn wsX1_plant wsX0_putLeaf := goodIn_r _ [33, 24, 34, 7, 35, 47, 48] (by decide +kernel) (by decide +kernel)
set_option maxRecDepth 20000 in
theorem gX1_plant_X0_putLeaf : GoodIn wsX1_plant (wsV RX1 73 RX0 yX0_putLeaf wsX0_putLeaf) := goodIn_app (goodIn_of _ (by decide +kernel)) ggX1_plant_X0_putLeaf
theorem dX1_plant_0 : decode cX1_plant 0 = .ok (.iload_n 1, 1) := by decide +kernel
theorem dX1_plant_1 : decode cX1_plant 1 = .ok (.invokestatic 61, 3) := by decide +kernel
theorem dX1_plant_4 : decode cX1_plant 4 = .ok (.aload_n 0, 1) := by decide +kernel
theorem dX1_plant_5 : decode cX1_plant 5 = .ok (.getfield 10, 3) := by decide +kernel
theorem dX1_plant_8 : decode cX1_plant 8 = .ok (.iconst 0, 1) := by decide +kernel
theorem dX1_plant_9 : decode cX1_plant 9 = .ok (.iload_n 1, 1) := by decide +kernel
theorem dX1_plant_10 : decode cX1_plant 10 = .ok (.invokevirtual 65, 3) := by decide +kernel
theorem dX1_plant_13 : decode cX1_plant 13 = .ok (.ifCond .ne 13, 3) := by decide +kernel
theorem dX1_plant_16 : decode cX1_plant 16 = .ok (.new 56, 3) := by decide +kernel
theorem dX1_plant_19 : decode cX1_plant 19 = .ok (.dup, 1) := by decide +kernel
theorem dX1_plant_20 : decode cX1_plant 20 = .ok (.ldc 69, 2) := by decide +kernel
theorem dX1_plant_22 : decode cX1_plant 22 = .ok (.invokespecial 60, 3) := by decide +kernel
theorem dX1_plant_25 : decode cX1_plant 25 = .ok (.athrow, 1) := by decide +kernel
theorem dX1_plant_26 : decode cX1_plant 26 = .ok (.aload_n 0, 1) := by decide +kernel
theorem dX1_plant_27 : decode cX1_plant 27 = .ok (.getfield 37, 3) := by decide +kernel
theorem dX1_plant_30 : decode cX1_plant 30 = .ok (.iconst 4, 1) := by decide +kernel
theorem dX1_plant_31 : decode cX1_plant 31 = .ok (.if_icmp .lt 13, 3) := by decide +kernel
theorem dX1_plant_34 : decode cX1_plant 34 = .ok (.new 56, 3) := by decide +kernel
theorem dX1_plant_37 : decode cX1_plant 37 = .ok (.dup, 1) := by decide +kernel
theorem dX1_plant_38 : decode cX1_plant 38 = .ok (.ldc 71, 2) := by decide +kernel
theorem dX1_plant_40 : decode cX1_plant 40 = .ok (.invokespecial 60, 3) := by decide +kernel
theorem dX1_plant_43 : decode cX1_plant 43 = .ok (.athrow, 1) := by decide +kernel
theorem dX1_plant_44 : decode cX1_plant 44 = .ok (.aload_n 0, 1) := by decide +kernel
theorem dX1_plant_45 : decode cX1_plant 45 = .ok (.getfield 10, 3) := by decide +kernel
theorem dX1_plant_48 : decode cX1_plant 48 = .ok (.iconst 0, 1) := by decide +kernel
theorem dX1_plant_49 : decode cX1_plant 49 = .ok (.iload_n 1, 1) := by decide +kernel
theorem dX1_plant_50 : decode cX1_plant 50 = .ok (.invokevirtual 73, 3) := by decide +kernel
theorem dX1_plant_53 : decode cX1_plant 53 = .ok (.aload_n 0, 1) := by decide +kernel
theorem dX1_plant_54 : decode cX1_plant 54 = .ok (.dup, 1) := by decide +kernel
end
section
theorem dX1_plant_55 : decode cX1_plant 55 = .ok (.getfield 37, 3) := by decide +kernel
theorem dX1_plant_58 : decode cX1_plant 58 = .ok (.iconst 1, 1) := by decide +kernel
theorem dX1_plant_59 : decode cX1_plant 59 = .ok (.iadd, 1) := by decide +kernel
theorem dX1_plant_60 : decode cX1_plant 60 = .ok (.putfield 37, 3) := by decide +kernel
theorem dX1_plant_63 : decode cX1_plant 63 = .ok (.return_, 1) := by decide +kernel
set_option maxRecDepth 20000 in
theorem ggX1_trellis_X1_requireColumn : GoodIn wsX1_trellis wsX1_requireColumn := goodIn_ca (goodIn_r _ [7, 8, 9] (by decide +kernel) (by decide +kernel)) (goodIn_sub (fun _ h => List.mem_cons_of_mem _ (List.mem_append_right _ h)) (by decide +kernel))
set_option maxRecDepth 20000 in
theorem gX1_trellis_X1_requireColumn : GoodIn wsX1_trellis (va_wsS RX1 61 yX1_requireColumn wsX1_requireColumn) := goodIn_app (goodIn_of _ (by decide +kernel)) ggX1_trellis_X1_requireColumn
theorem dX1_trellis_0 : decode cX1_trellis 0 = .ok (.iload_n 1, 1) := by decide +kernel
theorem dX1_trellis_1 : decode cX1_trellis 1 = .ok (.invokestatic 61, 3) := by decide +kernel
theorem dX1_trellis_4 : decode cX1_trellis 4 = .ok (.iload_n 2, 1) := by decide +kernel
theorem dX1_trellis_5 : decode cX1_trellis 5 = .ok (.iconst 1, 1) := by decide +kernel
theorem dX1_trellis_6 : decode cX1_trellis 6 = .ok (.if_icmp .lt 9, 3) := by decide +kernel
theorem dX1_trellis_9 : decode cX1_trellis 9 = .ok (.iload_n 2, 1) := by decide +kernel
theorem dX1_trellis_10 : decode cX1_trellis 10 = .ok (.bipush 8, 2) := by decide +kernel
theorem dX1_trellis_12 : decode cX1_trellis 12 = .ok (.if_icmp .le 13, 3) := by decide +kernel
theorem dX1_trellis_15 : decode cX1_trellis 15 = .ok (.new 49, 3) := by decide +kernel
theorem dX1_trellis_18 : decode cX1_trellis 18 = .ok (.dup, 1) := by decide +kernel
theorem dX1_trellis_19 : decode cX1_trellis 19 = .ok (.ldc 77, 2) := by decide +kernel
theorem dX1_trellis_21 : decode cX1_trellis 21 = .ok (.invokespecial 53, 3) := by decide +kernel
theorem dX1_trellis_24 : decode cX1_trellis 24 = .ok (.athrow, 1) := by decide +kernel
theorem dX1_trellis_25 : decode cX1_trellis 25 = .ok (.aload_n 0, 1) := by decide +kernel
theorem dX1_trellis_26 : decode cX1_trellis 26 = .ok (.getfield 29, 3) := by decide +kernel
theorem dX1_trellis_29 : decode cX1_trellis 29 = .ok (.iload_n 1, 1) := by decide +kernel
theorem dX1_trellis_30 : decode cX1_trellis 30 = .ok (.iaload, 1) := by decide +kernel
theorem dX1_trellis_31 : decode cX1_trellis 31 = .ok (.istore_n 3, 1) := by decide +kernel
theorem dX1_trellis_32 : decode cX1_trellis 32 = .ok (.aload_n 0, 1) := by decide +kernel
theorem dX1_trellis_33 : decode cX1_trellis 33 = .ok (.getfield 29, 3) := by decide +kernel
theorem dX1_trellis_36 : decode cX1_trellis 36 = .ok (.iload_n 1, 1) := by decide +kernel
theorem dX1_trellis_37 : decode cX1_trellis 37 = .ok (.iload_n 2, 1) := by decide +kernel
theorem dX1_trellis_38 : decode cX1_trellis 38 = .ok (.iastore, 1) := by decide +kernel
theorem dX1_trellis_39 : decode cX1_trellis 39 = .ok (.iload_n 3, 1) := by decide +kernel
theorem dX1_trellis_40 : decode cX1_trellis 40 = .ok (.ireturn, 1) := by decide +kernel
set_option maxRecDepth 20000 in
theorem ggX1_cut_X1_requireCell : GoodIn wsX1_cut wsX1_requireCell := goodIn_ca (goodIn_r _ [8, 9, 10, 11, 12, 7, 13] (by decide +kernel) (by decide +kernel)) (goodIn_sub (fun _ h => List.mem_cons_of_mem _ (List.mem_append_right _ h)) (by decide +kernel))
set_option maxRecDepth 20000 in
theorem gX1_cut_X1_requireCell : GoodIn wsX1_cut (va_wsS RX1 79 yX1_requireCell wsX1_requireCell) := goodIn_app (goodIn_of _ (by decide +kernel)) ggX1_cut_X1_requireCell
set_option maxRecDepth 20000 in
theorem ggX1_cut_X0_hasLeafAt : GoodIn wsX1_cut wsX0_hasLeafAt := goodIn_r _ [18, 19, 20, 21, 17, 22, 23, 48, 49] (by decide +kernel) (by decide +kernel)
set_option maxRecDepth 20000 in
theorem gX1_cut_X0_hasLeafAt : GoodIn wsX1_cut (wsV RX1 82 RX0 yX0_hasLeafAt wsX0_hasLeafAt) := goodIn_app (goodIn_of _ (by decide +kernel)) ggX1_cut_X0_hasLeafAt
set_option maxRecDepth 20000 in
theorem ggX1_cut_X1_cutsLeft : GoodIn wsX1_cut wsX1_cutsLeft := goodIn_r _ [27, 4, 37, 38, 39, 40, 41, 42, 43, 44, 45, 46, 47] (by decide +kernel) (by decide +kernel)
set_option maxRecDepth 20000 in
theorem gX1_cut_X1_cutsLeft : GoodIn wsX1_cut (wsV RX1 87 RX1 yX1_cutsLeft wsX1_cutsLeft) := goodIn_app (goodIn_of _ (by decide +kernel)) ggX1_cut_X1_cutsLeft
set_option maxRecDepth 20000 in
theorem ggX1_cut_X0_cutLeaf : GoodIn wsX1_cut wsX0_cutLeaf := goodIn_r _ [31, 32, 33, 34, 35, 17, 36, 23, 12, 7, 13, 48, 49] (by decide +kernel) (by decide +kernel)
set_option maxRecDepth 20000 in
theorem gX1_cut_X0_cutLeaf : GoodIn wsX1_cut (wsV RX1 93 RX0 yX0_cutLeaf wsX0_cutLeaf) := goodIn_app (goodIn_of _ (by decide +kernel)) ggX1_cut_X0_cutLeaf
theorem dX1_cut_0 : decode cX1_cut 0 = .ok (.iload_n 1, 1) := by decide +kernel
theorem dX1_cut_1 : decode cX1_cut 1 = .ok (.iload_n 2, 1) := by decide +kernel
theorem dX1_cut_2 : decode cX1_cut 2 = .ok (.invokestatic 79, 3) := by decide +kernel
theorem dX1_cut_5 : decode cX1_cut 5 = .ok (.aload_n 0, 1) := by decide +kernel
theorem dX1_cut_6 : decode cX1_cut 6 = .ok (.getfield 10, 3) := by decide +kernel
theorem dX1_cut_9 : decode cX1_cut 9 = .ok (.iload_n 1, 1) := by decide +kernel
theorem dX1_cut_10 : decode cX1_cut 10 = .ok (.iload_n 2, 1) := by decide +kernel
theorem dX1_cut_11 : decode cX1_cut 11 = .ok (.invokevirtual 82, 3) := by decide +kernel
theorem dX1_cut_14 : decode cX1_cut 14 = .ok (.ifCond .ne 13, 3) := by decide +kernel
theorem dX1_cut_17 : decode cX1_cut 17 = .ok (.new 56, 3) := by decide +kernel
theorem dX1_cut_20 : decode cX1_cut 20 = .ok (.dup, 1) := by decide +kernel
theorem dX1_cut_21 : decode cX1_cut 21 = .ok (.ldc 85, 2) := by decide +kernel
theorem dX1_cut_23 : decode cX1_cut 23 = .ok (.invokespecial 60, 3) := by decide +kernel
theorem dX1_cut_26 : decode cX1_cut 26 = .ok (.athrow, 1) := by decide +kernel
theorem dX1_cut_27 : decode cX1_cut 27 = .ok (.aload_n 0, 1) := by decide +kernel
theorem dX1_cut_28 : decode cX1_cut 28 = .ok (.invokevirtual 87, 3) := by decide +kernel
theorem dX1_cut_31 : decode cX1_cut 31 = .ok (.ifCond .ne 13, 3) := by decide +kernel
theorem dX1_cut_34 : decode cX1_cut 34 = .ok (.new 56, 3) := by decide +kernel
theorem dX1_cut_37 : decode cX1_cut 37 = .ok (.dup, 1) := by decide +kernel
theorem dX1_cut_38 : decode cX1_cut 38 = .ok (.ldc 91, 2) := by decide +kernel
theorem dX1_cut_40 : decode cX1_cut 40 = .ok (.invokespecial 60, 3) := by decide +kernel
theorem dX1_cut_43 : decode cX1_cut 43 = .ok (.athrow, 1) := by decide +kernel
theorem dX1_cut_44 : decode cX1_cut 44 = .ok (.aload_n 0, 1) := by decide +kernel
theorem dX1_cut_45 : decode cX1_cut 45 = .ok (.getfield 10, 3) := by decide +kernel
theorem dX1_cut_48 : decode cX1_cut 48 = .ok (.iload_n 1, 1) := by decide +kernel
theorem dX1_cut_49 : decode cX1_cut 49 = .ok (.iload_n 2, 1) := by decide +kernel
theorem dX1_cut_50 : decode cX1_cut 50 = .ok (.invokevirtual 93, 3) := by decide +kernel
theorem dX1_cut_53 : decode cX1_cut 53 = .ok (.aload_n 0, 1) := by decide +kernel
theorem dX1_cut_54 : decode cX1_cut 54 = .ok (.dup, 1) := by decide +kernel
theorem dX1_cut_55 : decode cX1_cut 55 = .ok (.getfield 40, 3) := by decide +kernel
theorem dX1_cut_58 : decode cX1_cut 58 = .ok (.iconst 1, 1) := by decide +kernel
theorem dX1_cut_59 : decode cX1_cut 59 = .ok (.iadd, 1) := by decide +kernel
theorem dX1_cut_60 : decode cX1_cut 60 = .ok (.putfield 40, 3) := by decide +kernel
theorem dX1_cut_63 : decode cX1_cut 63 = .ok (.aload_n 0, 1) := by decide +kernel
theorem dX1_cut_64 : decode cX1_cut 64 = .ok (.invokevirtual 87, 3) := by decide +kernel
theorem dX1_cut_67 : decode cX1_cut 67 = .ok (.ireturn, 1) := by decide +kernel
set_option maxRecDepth 20000 in
theorem ggX1_grow_X1_leaves : GoodIn wsX1_grow wsX1_leaves := goodIn_r _ [14, 6, 15, 16, 17, 18, 19, 20, 21, 22, 23, 24, 25, 26, 27, 85, 86, 87, 88, 89, 90, 91, 92, 93, 94, 95, 96, 97] (by decide +kernel) (by decide +kernel)
set_option maxRecDepth 20000 in
theorem gX1_grow_X1_leaves : GoodIn wsX1_grow (wsV RX1 98 RX1 yX1_leaves wsX1_leaves) := goodIn_app (goodIn_of _ (by decide +kernel)) ggX1_grow_X1_leaves
set_option maxRecDepth 20000 in
theorem ggX1_grow_X0_becomeNextOf : GoodIn wsX1_grow wsX0_becomeNextOf := goodIn_r _ [31, 20, 32, 33, 34, 35, 18, 36, 37, 38, 39, 40, 41, 42, 43, 44, 45, 46, 47, 21, 22, 23, 24, 25, 26, 27, 48, 49, 50, 51, 52, 53, 54, 55, 56, 57, 58, 59, 60, 61, 62, 63, 64, 65, 66, 67, 68, 69, 70, 71, 72, 73, 74, 75, 76, 77, 78, 79, 13, 80, 96, 97] (by decide +kernel) (by decide +kernel)
set_option maxRecDepth 20000 in
theorem gX1_grow_X0_becomeNextOf : GoodIn wsX1_grow (wsV RX1 101 RX0 yX0_becomeNextOf wsX0_becomeNextOf) := goodIn_app (goodIn_of _ (by decide +kernel)) ggX1_grow_X0_becomeNextOf
set_option maxRecDepth 20000 in
theorem ggX1_grow_X0_copyFrom : GoodIn wsX1_grow wsX0_copyFrom := goodIn_r _ [84, 20, 32, 96, 97] (by decide +kernel) (by decide +kernel)
set_option maxRecDepth 20000 in
theorem gX1_grow_X0_copyFrom : GoodIn wsX1_grow (wsV RX1 105 RX0 yX0_copyFrom wsX0_copyFrom) := goodIn_app (goodIn_of _ (by decide +kernel)) ggX1_grow_X0_copyFrom
theorem dX1_grow_0 : decode cX1_grow 0 = .ok (.aload_n 0, 1) := by decide +kernel
theorem dX1_grow_1 : decode cX1_grow 1 = .ok (.getfield 43, 3) := by decide +kernel
theorem dX1_grow_4 : decode cX1_grow 4 = .ok (.bipush 60, 2) := by decide +kernel
theorem dX1_grow_6 : decode cX1_grow 6 = .ok (.if_icmp .lt 13, 3) := by decide +kernel
theorem dX1_grow_9 : decode cX1_grow 9 = .ok (.new 56, 3) := by decide +kernel
theorem dX1_grow_12 : decode cX1_grow 12 = .ok (.dup, 1) := by decide +kernel
theorem dX1_grow_13 : decode cX1_grow 13 = .ok (.ldc 96, 2) := by decide +kernel
theorem dX1_grow_15 : decode cX1_grow 15 = .ok (.invokespecial 60, 3) := by decide +kernel
theorem dX1_grow_18 : decode cX1_grow 18 = .ok (.athrow, 1) := by decide +kernel
theorem dX1_grow_19 : decode cX1_grow 19 = .ok (.aload_n 0, 1) := by decide +kernel
theorem dX1_grow_20 : decode cX1_grow 20 = .ok (.invokevirtual 98, 3) := by decide +kernel
theorem dX1_grow_23 : decode cX1_grow 23 = .ok (.istore_n 1, 1) := by decide +kernel
theorem dX1_grow_24 : decode cX1_grow 24 = .ok (.aload_n 0, 1) := by decide +kernel
theorem dX1_grow_25 : decode cX1_grow 25 = .ok (.dup, 1) := by decide +kernel
theorem dX1_grow_26 : decode cX1_grow 26 = .ok (.getfield 46, 3) := by decide +kernel
theorem dX1_grow_29 : decode cX1_grow 29 = .ok (.aload_n 0, 1) := by decide +kernel
theorem dX1_grow_30 : decode cX1_grow 30 = .ok (.getfield 19, 3) := by decide +kernel
theorem dX1_grow_33 : decode cX1_grow 33 = .ok (.aload_n 0, 1) := by decide +kernel
theorem dX1_grow_34 : decode cX1_grow 34 = .ok (.getfield 10, 3) := by decide +kernel
theorem dX1_grow_37 : decode cX1_grow 37 = .ok (.aload_n 0, 1) := by decide +kernel
theorem dX1_grow_38 : decode cX1_grow 38 = .ok (.getfield 33, 3) := by decide +kernel
theorem dX1_grow_41 : decode cX1_grow 41 = .ok (.aload_n 0, 1) := by decide +kernel
theorem dX1_grow_42 : decode cX1_grow 42 = .ok (.getfield 29, 3) := by decide +kernel
theorem dX1_grow_45 : decode cX1_grow 45 = .ok (.invokevirtual 101, 3) := by decide +kernel
theorem dX1_grow_48 : decode cX1_grow 48 = .ok (.iadd, 1) := by decide +kernel
theorem dX1_grow_49 : decode cX1_grow 49 = .ok (.putfield 46, 3) := by decide +kernel
theorem dX1_grow_52 : decode cX1_grow 52 = .ok (.aload_n 0, 1) := by decide +kernel
theorem dX1_grow_53 : decode cX1_grow 53 = .ok (.getfield 10, 3) := by decide +kernel
theorem dX1_grow_56 : decode cX1_grow 56 = .ok (.aload_n 0, 1) := by decide +kernel
theorem dX1_grow_57 : decode cX1_grow 57 = .ok (.getfield 19, 3) := by decide +kernel
theorem dX1_grow_60 : decode cX1_grow 60 = .ok (.invokevirtual 105, 3) := by decide +kernel
theorem dX1_grow_63 : decode cX1_grow 63 = .ok (.aload_n 0, 1) := by decide +kernel
theorem dX1_grow_64 : decode cX1_grow 64 = .ok (.dup, 1) := by decide +kernel
theorem dX1_grow_65 : decode cX1_grow 65 = .ok (.getfield 43, 3) := by decide +kernel
theorem dX1_grow_68 : decode cX1_grow 68 = .ok (.iconst 1, 1) := by decide +kernel
theorem dX1_grow_69 : decode cX1_grow 69 = .ok (.iadd, 1) := by decide +kernel
theorem dX1_grow_70 : decode cX1_grow 70 = .ok (.putfield 43, 3) := by decide +kernel
theorem dX1_grow_73 : decode cX1_grow 73 = .ok (.aload_n 0, 1) := by decide +kernel
theorem dX1_grow_74 : decode cX1_grow 74 = .ok (.iconst 0, 1) := by decide +kernel
theorem dX1_grow_75 : decode cX1_grow 75 = .ok (.putfield 40, 3) := by decide +kernel
theorem dX1_grow_78 : decode cX1_grow 78 = .ok (.aload_n 0, 1) := by decide +kernel
theorem dX1_grow_79 : decode cX1_grow 79 = .ok (.invokevirtual 98, 3) := by decide +kernel
theorem dX1_grow_82 : decode cX1_grow 82 = .ok (.iload_n 1, 1) := by decide +kernel
theorem dX1_grow_83 : decode cX1_grow 83 = .ok (.isub, 1) := by decide +kernel
theorem dX1_grow_84 : decode cX1_grow 84 = .ok (.ireturn, 1) := by decide +kernel
set_option maxRecDepth 20000 in
theorem ggX1_look_X1_requireCell : GoodIn wsX1_look wsX1_requireCell := goodIn_ca (goodIn_r _ [5, 6, 7, 8, 9, 4, 10] (by decide +kernel) (by decide +kernel)) (goodIn_sub (fun _ h => List.mem_cons_of_mem _ (List.mem_append_right _ h)) (by decide +kernel))
set_option maxRecDepth 20000 in
theorem gX1_look_X1_requireCell : GoodIn wsX1_look (va_wsS RX1 79 yX1_requireCell wsX1_requireCell) := goodIn_app (goodIn_of _ (by decide +kernel)) ggX1_look_X1_requireCell
set_option maxRecDepth 20000 in
theorem ggX1_look_X0_hasLeafAt : GoodIn wsX1_look wsX0_hasLeafAt := goodIn_r _ [15, 16, 17, 18, 14, 19, 20, 42, 43] (by decide +kernel) (by decide +kernel)
set_option maxRecDepth 20000 in
theorem gX1_look_X0_hasLeafAt : GoodIn wsX1_look (wsV RX1 82 RX0 yX0_hasLeafAt wsX0_hasLeafAt) := goodIn_app (goodIn_of _ (by decide +kernel)) ggX1_look_X0_hasLeafAt
set_option maxRecDepth 20000 in
theorem ggX1_look_X0_isBareAt : GoodIn wsX1_look wsX0_isBareAt := goodIn_r _ [24, 25, 12, 13, 14, 15, 16, 17, 18, 19, 20, 26, 27, 28, 29, 30, 42, 43] (by decide +kernel) (by decide +kernel)
set_option maxRecDepth 20000 in
theorem gX1_look_X0_isBareAt : GoodIn wsX1_look (wsV RX1 65 RX0 yX0_isBareAt wsX0_isBareAt) := goodIn_app (goodIn_of _ (by decide +kernel)) ggX1_look_X0_isBareAt
theorem dX1_look_0 : decode cX1_look 0 = .ok (.iload_n 1, 1) := by decide +kernel
theorem dX1_look_1 : decode cX1_look 1 = .ok (.iload_n 2, 1) := by decide +kernel
theorem dX1_look_2 : decode cX1_look 2 = .ok (.invokestatic 79, 3) := by decide +kernel
theorem dX1_look_5 : decode cX1_look 5 = .ok (.aload_n 0, 1) := by decide +kernel
theorem dX1_look_6 : decode cX1_look 6 = .ok (.getfield 10, 3) := by decide +kernel
theorem dX1_look_9 : decode cX1_look 9 = .ok (.iload_n 1, 1) := by decide +kernel
theorem dX1_look_10 : decode cX1_look 10 = .ok (.iload_n 2, 1) := by decide +kernel
theorem dX1_look_11 : decode cX1_look 11 = .ok (.invokevirtual 82, 3) := by decide +kernel
theorem dX1_look_14 : decode cX1_look 14 = .ok (.ifCond .eq 6, 3) := by decide +kernel
theorem dX1_look_17 : decode cX1_look 17 = .ok (.bipush 35, 2) := by decide +kernel
theorem dX1_look_19 : decode cX1_look 19 = .ok (.ireturn, 1) := by decide +kernel
theorem dX1_look_20 : decode cX1_look 20 = .ok (.aload_n 0, 1) := by decide +kernel
theorem dX1_look_21 : decode cX1_look 21 = .ok (.getfield 10, 3) := by decide +kernel
theorem dX1_look_24 : decode cX1_look 24 = .ok (.iload_n 1, 1) := by decide +kernel
theorem dX1_look_25 : decode cX1_look 25 = .ok (.iload_n 2, 1) := by decide +kernel
theorem dX1_look_26 : decode cX1_look 26 = .ok (.invokevirtual 65, 3) := by decide +kernel
theorem dX1_look_29 : decode cX1_look 29 = .ok (.ifCond .eq 8, 3) := by decide +kernel
theorem dX1_look_32 : decode cX1_look 32 = .ok (.bipush 46, 2) := by decide +kernel
theorem dX1_look_34 : decode cX1_look 34 = .ok (.goto 5, 3) := by decide +kernel
theorem dX1_look_37 : decode cX1_look 37 = .ok (.bipush 120, 2) := by decide +kernel
theorem dX1_look_39 : decode cX1_look 39 = .ok (.ireturn, 1) := by decide +kernel
set_option maxRecDepth 20000 in
theorem ggX1_shadeOf_X1_requireCell : GoodIn wsX1_shadeOf wsX1_requireCell := goodIn_ca (goodIn_r _ [5, 6, 7, 8, 9, 4, 10] (by decide +kernel) (by decide +kernel)) (goodIn_sub (fun _ h => List.mem_cons_of_mem _ (List.mem_append_right _ h)) (by decide +kernel))
set_option maxRecDepth 20000 in
theorem gX1_shadeOf_X1_requireCell : GoodIn wsX1_shadeOf (va_wsS RX1 79 yX1_requireCell wsX1_requireCell) := goodIn_app (goodIn_of _ (by decide +kernel)) ggX1_shadeOf_X1_requireCell
set_option maxRecDepth 20000 in
theorem ggX1_shadeOf_X0_shadeAt : GoodIn wsX1_shadeOf wsX0_shadeAt := goodIn_r _ [15, 16, 17, 18, 14, 19, 20, 32, 33] (by decide +kernel) (by decide +kernel)
set_option maxRecDepth 20000 in
theorem gX1_shadeOf_X0_shadeAt : GoodIn wsX1_shadeOf (wsV RX1 109 RX0 yX0_shadeAt wsX0_shadeAt) := goodIn_app (goodIn_of _ (by decide +kernel)) ggX1_shadeOf_X0_shadeAt
theorem dX1_shadeOf_0 : decode cX1_shadeOf 0 = .ok (.iload_n 1, 1) := by decide +kernel
theorem dX1_shadeOf_1 : decode cX1_shadeOf 1 = .ok (.iload_n 2, 1) := by decide +kernel
theorem dX1_shadeOf_2 : decode cX1_shadeOf 2 = .ok (.invokestatic 79, 3) := by decide +kernel
theorem dX1_shadeOf_5 : decode cX1_shadeOf 5 = .ok (.aload_n 0, 1) := by decide +kernel
theorem dX1_shadeOf_6 : decode cX1_shadeOf 6 = .ok (.getfield 10, 3) := by decide +kernel
theorem dX1_shadeOf_9 : decode cX1_shadeOf 9 = .ok (.iload_n 1, 1) := by decide +kernel
theorem dX1_shadeOf_10 : decode cX1_shadeOf 10 = .ok (.iload_n 2, 1) := by decide +kernel
theorem dX1_shadeOf_11 : decode cX1_shadeOf 11 = .ok (.invokevirtual 109, 3) := by decide +kernel
theorem dX1_shadeOf_14 : decode cX1_shadeOf 14 = .ok (.ireturn, 1) := by decide +kernel
set_option maxRecDepth 20000 in
theorem ggX1_holdersOf_X1_requireCell : GoodIn wsX1_holdersOf wsX1_requireCell := goodIn_ca (goodIn_r _ [6, 7, 8, 9, 10, 5, 11] (by decide +kernel) (by decide +kernel)) (goodIn_sub (fun _ h => List.mem_cons_of_mem _ (List.mem_append_right _ h)) (by decide +kernel))
set_option maxRecDepth 20000 in
theorem gX1_holdersOf_X1_requireCell : GoodIn wsX1_holdersOf (va_wsS RX1 79 yX1_requireCell wsX1_requireCell) := goodIn_app (goodIn_of _ (by decide +kernel)) ggX1_holdersOf_X1_requireCell
set_option maxRecDepth 20000 in
theorem ggX1_holdersOf_X0_holdersAt : GoodIn wsX1_holdersOf wsX0_holdersAt := goodIn_r _ [16, 17, 18, 19, 15, 20, 21, 22, 23, 24, 25, 26, 27, 28, 29, 30, 31, 32, 33, 34, 35, 47, 48] (by decide +kernel) (by decide +kernel)
set_option maxRecDepth 20000 in
theorem gX1_holdersOf_X0_holdersAt : GoodIn wsX1_holdersOf (wsV RX1 113 RX0 yX0_holdersAt wsX0_holdersAt) := goodIn_app (goodIn_of _ (by decide +kernel)) ggX1_holdersOf_X0_holdersAt
theorem dX1_holdersOf_0 : decode cX1_holdersOf 0 = .ok (.iload_n 1, 1) := by decide +kernel
theorem dX1_holdersOf_1 : decode cX1_holdersOf 1 = .ok (.iload_n 2, 1) := by decide +kernel
theorem dX1_holdersOf_2 : decode cX1_holdersOf 2 = .ok (.invokestatic 79, 3) := by decide +kernel
theorem dX1_holdersOf_5 : decode cX1_holdersOf 5 = .ok (.aload_n 0, 1) := by decide +kernel
theorem dX1_holdersOf_6 : decode cX1_holdersOf 6 = .ok (.getfield 10, 3) := by decide +kernel
theorem dX1_holdersOf_9 : decode cX1_holdersOf 9 = .ok (.iload_n 1, 1) := by decide +kernel
theorem dX1_holdersOf_10 : decode cX1_holdersOf 10 = .ok (.iload_n 2, 1) := by decide +kernel
theorem dX1_holdersOf_11 : decode cX1_holdersOf 11 = .ok (.aload_n 0, 1) := by decide +kernel
theorem dX1_holdersOf_12 : decode cX1_holdersOf 12 = .ok (.getfield 33, 3) := by decide +kernel
theorem dX1_holdersOf_15 : decode cX1_holdersOf 15 = .ok (.invokevirtual 113, 3) := by decide +kernel
theorem dX1_holdersOf_18 : decode cX1_holdersOf 18 = .ok (.ireturn, 1) := by decide +kernel
set_option maxRecDepth 20000 in
theorem ggX1_neighboursOf_X1_requireCell : GoodIn wsX1_neighboursOf wsX1_requireCell := goodIn_ca (goodIn_r _ [6, 7, 8, 9, 10, 5, 11] (by decide +kernel) (by decide +kernel)) (goodIn_sub (fun _ h => List.mem_cons_of_mem _ (List.mem_append_right _ h)) (by decide +kernel))
set_option maxRecDepth 20000 in
theorem gX1_neighboursOf_X1_requireCell : GoodIn wsX1_neighboursOf (va_wsS RX1 79 yX1_requireCell wsX1_requireCell) := goodIn_app (goodIn_of _ (by decide +kernel)) ggX1_neighboursOf_X1_requireCell
set_option maxRecDepth 20000 in
theorem ggX1_neighboursOf_X0_neighboursAt : GoodIn wsX1_neighboursOf wsX0_neighboursAt := goodIn_r _ [16, 17, 18, 19, 15, 20, 21, 22, 23, 24, 25, 26, 27, 28, 29, 30, 31, 32, 33, 34, 35, 47, 48] (by decide +kernel) (by decide +kernel)
set_option maxRecDepth 20000 in
theorem gX1_neighboursOf_X0_neighboursAt : GoodIn wsX1_neighboursOf (wsV RX1 117 RX0 yX0_neighboursAt wsX0_neighboursAt) := goodIn_app (goodIn_of _ (by decide +kernel)) ggX1_neighboursOf_X0_neighboursAt
theorem dX1_neighboursOf_0 : decode cX1_neighboursOf 0 = .ok (.iload_n 1, 1) := by decide +kernel
theorem dX1_neighboursOf_1 : decode cX1_neighboursOf 1 = .ok (.iload_n 2, 1) := by decide +kernel
theorem dX1_neighboursOf_2 : decode cX1_neighboursOf 2 = .ok (.invokestatic 79, 3) := by decide +kernel
theorem dX1_neighboursOf_5 : decode cX1_neighboursOf 5 = .ok (.aload_n 0, 1) := by decide +kernel
theorem dX1_neighboursOf_6 : decode cX1_neighboursOf 6 = .ok (.getfield 10, 3) := by decide +kernel
theorem dX1_neighboursOf_9 : decode cX1_neighboursOf 9 = .ok (.iload_n 1, 1) := by decide +kernel
theorem dX1_neighboursOf_10 : decode cX1_neighboursOf 10 = .ok (.iload_n 2, 1) := by decide +kernel
theorem dX1_neighboursOf_11 : decode cX1_neighboursOf 11 = .ok (.aload_n 0, 1) := by decide +kernel
theorem dX1_neighboursOf_12 : decode cX1_neighboursOf 12 = .ok (.getfield 33, 3) := by decide +kernel
theorem dX1_neighboursOf_15 : decode cX1_neighboursOf 15 = .ok (.invokevirtual 117, 3) := by decide +kernel
theorem dX1_neighboursOf_18 : decode cX1_neighboursOf 18 = .ok (.ireturn, 1) := by decide +kernel
set_option maxRecDepth 20000 in
theorem ggX1_leavesIn_X1_requireColumn : GoodIn wsX1_leavesIn wsX1_requireColumn := goodIn_ca (goodIn_r _ [5, 6, 7] (by decide +kernel) (by decide +kernel)) (goodIn_sub (fun _ h => List.mem_cons_of_mem _ (List.mem_append_right _ h)) (by decide +kernel))
set_option maxRecDepth 20000 in
theorem gX1_leavesIn_X1_requireColumn : GoodIn wsX1_leavesIn (va_wsS RX1 61 yX1_requireColumn wsX1_requireColumn) := goodIn_app (goodIn_of _ (by decide +kernel)) ggX1_leavesIn_X1_requireColumn
set_option maxRecDepth 20000 in
theorem ggX1_leavesIn_X0_countInColumn : GoodIn wsX1_leavesIn wsX0_countInColumn := goodIn_r _ [12, 13, 14, 15, 11, 16, 17, 18, 19, 20, 21, 33, 34] (by decide +kernel) (by decide +kernel)
set_option maxRecDepth 20000 in
theorem gX1_leavesIn_X0_countInColumn : GoodIn wsX1_leavesIn (wsV RX1 120 RX0 yX0_countInColumn wsX0_countInColumn) := goodIn_app (goodIn_of _ (by decide +kernel)) ggX1_leavesIn_X0_countInColumn
theorem dX1_leavesIn_0 : decode cX1_leavesIn 0 = .ok (.iload_n 1, 1) := by decide +kernel
theorem dX1_leavesIn_1 : decode cX1_leavesIn 1 = .ok (.invokestatic 61, 3) := by decide +kernel
theorem dX1_leavesIn_4 : decode cX1_leavesIn 4 = .ok (.aload_n 0, 1) := by decide +kernel
theorem dX1_leavesIn_5 : decode cX1_leavesIn 5 = .ok (.getfield 10, 3) := by decide +kernel
theorem dX1_leavesIn_8 : decode cX1_leavesIn 8 = .ok (.iload_n 1, 1) := by decide +kernel
theorem dX1_leavesIn_9 : decode cX1_leavesIn 9 = .ok (.invokevirtual 120, 3) := by decide +kernel
theorem dX1_leavesIn_12 : decode cX1_leavesIn 12 = .ok (.ireturn, 1) := by decide +kernel
set_option maxRecDepth 20000 in
theorem ggX1_leaves_X0_countLeaves : GoodIn wsX1_leaves wsX0_countLeaves := goodIn_r _ [6, 7, 8, 9, 10, 11, 12, 13, 14, 26, 27] (by decide +kernel) (by decide +kernel)
set_option maxRecDepth 20000 in
theorem gX1_leaves_X0_countLeaves : GoodIn wsX1_leaves (wsV RX1 124 RX0 yX0_countLeaves wsX0_countLeaves) := goodIn_app (goodIn_of _ (by decide +kernel)) ggX1_leaves_X0_countLeaves
theorem dX1_leaves_0 : decode cX1_leaves 0 = .ok (.aload_n 0, 1) := by decide +kernel
theorem dX1_leaves_1 : decode cX1_leaves 1 = .ok (.getfield 10, 3) := by decide +kernel
theorem dX1_leaves_4 : decode cX1_leaves 4 = .ok (.invokevirtual 124, 3) := by decide +kernel
theorem dX1_leaves_7 : decode cX1_leaves 7 = .ok (.ireturn, 1) := by decide +kernel
set_option maxRecDepth 20000 in
theorem ggX1_lit_X0_countLit : GoodIn wsX1_lit wsX0_countLit := goodIn_r _ [6, 7, 8, 9, 10, 11, 12, 13, 14, 26, 27] (by decide +kernel) (by decide +kernel)
set_option maxRecDepth 20000 in
theorem gX1_lit_X0_countLit : GoodIn wsX1_lit (wsV RX1 127 RX0 yX0_countLit wsX0_countLit) := goodIn_app (goodIn_of _ (by decide +kernel)) ggX1_lit_X0_countLit
theorem dX1_lit_0 : decode cX1_lit 0 = .ok (.aload_n 0, 1) := by decide +kernel
theorem dX1_lit_1 : decode cX1_lit 1 = .ok (.getfield 10, 3) := by decide +kernel
theorem dX1_lit_4 : decode cX1_lit 4 = .ok (.invokevirtual 127, 3) := by decide +kernel
theorem dX1_lit_7 : decode cX1_lit 7 = .ok (.ireturn, 1) := by decide +kernel
theorem dX1_generation_0 : decode cX1_generation 0 = .ok (.aload_n 0, 1) := by decide +kernel
theorem dX1_generation_1 : decode cX1_generation 1 = .ok (.getfield 43, 3) := by decide +kernel
theorem dX1_generation_4 : decode cX1_generation 4 = .ok (.ireturn, 1) := by decide +kernel
theorem dX1_cutsLeft_0 : decode cX1_cutsLeft 0 = .ok (.iconst 3, 1) := by decide +kernel
theorem dX1_cutsLeft_1 : decode cX1_cutsLeft 1 = .ok (.aload_n 0, 1) := by decide +kernel
theorem dX1_cutsLeft_2 : decode cX1_cutsLeft 2 = .ok (.getfield 40, 3) := by decide +kernel
theorem dX1_cutsLeft_5 : decode cX1_cutsLeft 5 = .ok (.isub, 1) := by decide +kernel
theorem dX1_cutsLeft_6 : decode cX1_cutsLeft 6 = .ok (.ireturn, 1) := by decide +kernel
theorem dX1_broken_0 : decode cX1_broken 0 = .ok (.aload_n 0, 1) := by decide +kernel
theorem dX1_broken_1 : decode cX1_broken 1 = .ok (.getfield 46, 3) := by decide +kernel
theorem dX1_broken_4 : decode cX1_broken 4 = .ok (.ireturn, 1) := by decide +kernel
set_option maxRecDepth 20000 in
theorem ggX1_leavesNext_X0_becomeNextOf : GoodIn wsX1_leavesNext wsX0_becomeNextOf := goodIn_r _ [9, 10, 11, 12, 13, 14, 8, 15, 16, 17, 18, 19, 20, 21, 22, 23, 24, 25, 26, 27, 28, 29, 30, 31, 32, 33, 34, 35, 36, 37, 38, 39, 40, 41, 42, 43, 44, 45, 46, 47, 48, 49, 50, 51, 52, 53, 54, 55, 56, 57, 58, 59, 60, 61, 62, 63, 64, 65, 66, 67, 83, 84] (by decide +kernel) (by decide +kernel)
set_option maxRecDepth 20000 in
theorem gX1_leavesNext_X0_becomeNextOf : GoodIn wsX1_leavesNext (wsV RX1 101 RX0 yX0_becomeNextOf wsX0_becomeNextOf) := goodIn_app (goodIn_of _ (by decide +kernel)) ggX1_leavesNext_X0_becomeNextOf
set_option maxRecDepth 20000 in
theorem ggX1_leavesNext_X0_countLeaves : GoodIn wsX1_leavesNext wsX0_countLeaves := goodIn_r _ [71, 10, 27, 28, 29, 30, 31, 32, 33, 83, 84] (by decide +kernel) (by decide +kernel)
set_option maxRecDepth 20000 in
theorem gX1_leavesNext_X0_countLeaves : GoodIn wsX1_leavesNext (wsV RX1 124 RX0 yX0_countLeaves wsX0_countLeaves) := goodIn_app (goodIn_of _ (by decide +kernel)) ggX1_leavesNext_X0_countLeaves
theorem dX1_leavesNext_0 : decode cX1_leavesNext 0 = .ok (.aload_n 0, 1) := by decide +kernel
theorem dX1_leavesNext_1 : decode cX1_leavesNext 1 = .ok (.getfield 19, 3) := by decide +kernel
theorem dX1_leavesNext_4 : decode cX1_leavesNext 4 = .ok (.aload_n 0, 1) := by decide +kernel
theorem dX1_leavesNext_5 : decode cX1_leavesNext 5 = .ok (.getfield 10, 3) := by decide +kernel
theorem dX1_leavesNext_8 : decode cX1_leavesNext 8 = .ok (.aload_n 0, 1) := by decide +kernel
theorem dX1_leavesNext_9 : decode cX1_leavesNext 9 = .ok (.getfield 33, 3) := by decide +kernel
theorem dX1_leavesNext_12 : decode cX1_leavesNext 12 = .ok (.aload_n 0, 1) := by decide +kernel
theorem dX1_leavesNext_13 : decode cX1_leavesNext 13 = .ok (.getfield 29, 3) := by decide +kernel
theorem dX1_leavesNext_16 : decode cX1_leavesNext 16 = .ok (.invokevirtual 101, 3) := by decide +kernel
theorem dX1_leavesNext_19 : decode cX1_leavesNext 19 = .ok (.pop, 1) := by decide +kernel
theorem dX1_leavesNext_20 : decode cX1_leavesNext 20 = .ok (.aload_n 0, 1) := by decide +kernel
theorem dX1_leavesNext_21 : decode cX1_leavesNext 21 = .ok (.getfield 19, 3) := by decide +kernel
theorem dX1_leavesNext_24 : decode cX1_leavesNext 24 = .ok (.invokevirtual 124, 3) := by decide +kernel
theorem dX1_leavesNext_27 : decode cX1_leavesNext 27 = .ok (.ireturn, 1) := by decide +kernel
set_option maxRecDepth 20000 in
theorem ggX1_repeatsIn_X0_hasCuts : GoodIn wsX1_repeatsIn wsX0_hasCuts := goodIn_r _ [10, 11, 102, 103] (by decide +kernel) (by decide +kernel)
set_option maxRecDepth 20000 in
theorem gX1_repeatsIn_X0_hasCuts : GoodIn wsX1_repeatsIn (wsV RX1 130 RX0 yX0_hasCuts wsX0_hasCuts) := goodIn_app (goodIn_of _ (by decide +kernel)) ggX1_repeatsIn_X0_hasCuts
set_option maxRecDepth 20000 in
theorem ggX1_repeatsIn_X0_copyFrom : GoodIn wsX1_repeatsIn wsX0_copyFrom := goodIn_r _ [15, 16, 11, 102, 103] (by decide +kernel) (by decide +kernel)
set_option maxRecDepth 20000 in
theorem gX1_repeatsIn_X0_copyFrom : GoodIn wsX1_repeatsIn (wsV RX1 105 RX0 yX0_copyFrom wsX0_copyFrom) := goodIn_app (goodIn_of _ (by decide +kernel)) ggX1_repeatsIn_X0_copyFrom
set_option maxRecDepth 20000 in
theorem ggX1_repeatsIn_X1_remember : GoodIn wsX1_repeatsIn wsX1_remember := goodIn_r _ [21, 22, 2, 23, 24, 25, 26, 9, 27, 28, 29, 30, 31, 16, 91, 92, 93, 94, 95, 96, 97, 98, 99, 100, 101, 102, 103] (by decide +kernel) (by decide +kernel)
set_option maxRecDepth 20000 in
theorem gX1_repeatsIn_X1_remember : GoodIn wsX1_repeatsIn (wsV RX1 134 RX1 yX1_remember wsX1_remember) := goodIn_app (goodIn_of _ (by decide +kernel)) ggX1_repeatsIn_X1_remember
set_option maxRecDepth 20000 in
theorem ggX1_repeatsIn_X0_becomeNextOf : GoodIn wsX1_repeatsIn wsX0_becomeNextOf := goodIn_r _ [35, 16, 11, 36, 37, 38, 9, 39, 28, 29, 30, 31, 40, 41, 42, 43, 44, 45, 46, 47, 48, 49, 50, 51, 52, 53, 54, 55, 56, 57, 58, 59, 60, 61, 62, 63, 64, 65, 66, 67, 68, 69, 70, 71, 72, 73, 74, 75, 76, 77, 78, 79, 80, 81, 82, 83, 84, 85, 20, 86, 102, 103] (by decide +kernel) (by decide +kernel)
set_option maxRecDepth 20000 in
theorem gX1_repeatsIn_X0_becomeNextOf : GoodIn wsX1_repeatsIn (wsV RX1 101 RX0 yX0_becomeNextOf wsX0_becomeNextOf) := goodIn_app (goodIn_of _ (by decide +kernel)) ggX1_repeatsIn_X0_becomeNextOf
set_option maxRecDepth 20000 in
theorem ggX1_repeatsIn_X1_looksAsBefore : GoodIn wsX1_repeatsIn wsX1_looksAsBefore := goodIn_r _ [90, 22, 23, 91, 92, 93, 94, 95, 96, 97, 98, 99, 100, 101] (by decide +kernel) (by decide +kernel)
set_option maxRecDepth 20000 in
theorem gX1_repeatsIn_X1_looksAsBefore : GoodIn wsX1_repeatsIn (wsV RX1 137 RX1 yX1_looksAsBefore wsX1_looksAsBefore) := goodIn_app (goodIn_of _ (by decide +kernel)) ggX1_repeatsIn_X1_looksAsBefore
theorem dX1_repeatsIn_0 : decode cX1_repeatsIn 0 = .ok (.aload_n 0, 1) := by decide +kernel
theorem dX1_repeatsIn_1 : decode cX1_repeatsIn 1 = .ok (.getfield 10, 3) := by decide +kernel
theorem dX1_repeatsIn_4 : decode cX1_repeatsIn 4 = .ok (.invokevirtual 130, 3) := by decide +kernel
theorem dX1_repeatsIn_7 : decode cX1_repeatsIn 7 = .ok (.ifCond .eq 7, 3) := by decide +kernel
theorem dX1_repeatsIn_10 : decode cX1_repeatsIn 10 = .ok (.iconst 1, 1) := by decide +kernel
theorem dX1_repeatsIn_11 : decode cX1_repeatsIn 11 = .ok (.goto 4, 3) := by decide +kernel
theorem dX1_repeatsIn_14 : decode cX1_repeatsIn 14 = .ok (.iconst 0, 1) := by decide +kernel
theorem dX1_repeatsIn_15 : decode cX1_repeatsIn 15 = .ok (.istore_n 1, 1) := by decide +kernel
theorem dX1_repeatsIn_16 : decode cX1_repeatsIn 16 = .ok (.aload_n 0, 1) := by decide +kernel
theorem dX1_repeatsIn_17 : decode cX1_repeatsIn 17 = .ok (.getfield 16, 3) := by decide +kernel
theorem dX1_repeatsIn_20 : decode cX1_repeatsIn 20 = .ok (.aload_n 0, 1) := by decide +kernel
theorem dX1_repeatsIn_21 : decode cX1_repeatsIn 21 = .ok (.getfield 10, 3) := by decide +kernel
theorem dX1_repeatsIn_24 : decode cX1_repeatsIn 24 = .ok (.invokevirtual 105, 3) := by decide +kernel
theorem dX1_repeatsIn_27 : decode cX1_repeatsIn 27 = .ok (.aload_n 0, 1) := by decide +kernel
theorem dX1_repeatsIn_28 : decode cX1_repeatsIn 28 = .ok (.iconst 0, 1) := by decide +kernel
theorem dX1_repeatsIn_29 : decode cX1_repeatsIn 29 = .ok (.invokevirtual 134, 3) := by decide +kernel
theorem dX1_repeatsIn_32 : decode cX1_repeatsIn 32 = .ok (.iconst 1, 1) := by decide +kernel
theorem dX1_repeatsIn_33 : decode cX1_repeatsIn 33 = .ok (.istore_n 2, 1) := by decide +kernel
theorem dX1_repeatsIn_34 : decode cX1_repeatsIn 34 = .ok (.iload_n 2, 1) := by decide +kernel
theorem dX1_repeatsIn_35 : decode cX1_repeatsIn 35 = .ok (.bipush 60, 2) := by decide +kernel
theorem dX1_repeatsIn_37 : decode cX1_repeatsIn 37 = .ok (.if_icmp .gt 56, 3) := by decide +kernel
theorem dX1_repeatsIn_40 : decode cX1_repeatsIn 40 = .ok (.aload_n 0, 1) := by decide +kernel
theorem dX1_repeatsIn_41 : decode cX1_repeatsIn 41 = .ok (.getfield 19, 3) := by decide +kernel
theorem dX1_repeatsIn_44 : decode cX1_repeatsIn 44 = .ok (.aload_n 0, 1) := by decide +kernel
theorem dX1_repeatsIn_45 : decode cX1_repeatsIn 45 = .ok (.getfield 16, 3) := by decide +kernel
theorem dX1_repeatsIn_48 : decode cX1_repeatsIn 48 = .ok (.aload_n 0, 1) := by decide +kernel
theorem dX1_repeatsIn_49 : decode cX1_repeatsIn 49 = .ok (.getfield 33, 3) := by decide +kernel
theorem dX1_repeatsIn_52 : decode cX1_repeatsIn 52 = .ok (.aload_n 0, 1) := by decide +kernel
theorem dX1_repeatsIn_53 : decode cX1_repeatsIn 53 = .ok (.getfield 29, 3) := by decide +kernel
theorem dX1_repeatsIn_56 : decode cX1_repeatsIn 56 = .ok (.invokevirtual 101, 3) := by decide +kernel
theorem dX1_repeatsIn_59 : decode cX1_repeatsIn 59 = .ok (.pop, 1) := by decide +kernel
theorem dX1_repeatsIn_60 : decode cX1_repeatsIn 60 = .ok (.aload_n 0, 1) := by decide +kernel
theorem dX1_repeatsIn_61 : decode cX1_repeatsIn 61 = .ok (.getfield 16, 3) := by decide +kernel
theorem dX1_repeatsIn_64 : decode cX1_repeatsIn 64 = .ok (.aload_n 0, 1) := by decide +kernel
theorem dX1_repeatsIn_65 : decode cX1_repeatsIn 65 = .ok (.getfield 19, 3) := by decide +kernel
theorem dX1_repeatsIn_68 : decode cX1_repeatsIn 68 = .ok (.invokevirtual 105, 3) := by decide +kernel
theorem dX1_repeatsIn_71 : decode cX1_repeatsIn 71 = .ok (.aload_n 0, 1) := by decide +kernel
theorem dX1_repeatsIn_72 : decode cX1_repeatsIn 72 = .ok (.iload_n 2, 1) := by decide +kernel
theorem dX1_repeatsIn_73 : decode cX1_repeatsIn 73 = .ok (.invokevirtual 134, 3) := by decide +kernel
theorem dX1_repeatsIn_76 : decode cX1_repeatsIn 76 = .ok (.aload_n 0, 1) := by decide +kernel
theorem dX1_repeatsIn_77 : decode cX1_repeatsIn 77 = .ok (.iload_n 2, 1) := by decide +kernel
theorem dX1_repeatsIn_78 : decode cX1_repeatsIn 78 = .ok (.iload_n 1, 1) := by decide +kernel
theorem dX1_repeatsIn_79 : decode cX1_repeatsIn 79 = .ok (.invokevirtual 137, 3) := by decide +kernel
theorem dX1_repeatsIn_82 : decode cX1_repeatsIn 82 = .ok (.ifCond .eq 5, 3) := by decide +kernel
theorem dX1_repeatsIn_85 : decode cX1_repeatsIn 85 = .ok (.iload_n 2, 1) := by decide +kernel
theorem dX1_repeatsIn_86 : decode cX1_repeatsIn 86 = .ok (.ireturn, 1) := by decide +kernel
theorem dX1_repeatsIn_87 : decode cX1_repeatsIn 87 = .ok (.iinc 2 1, 3) := by decide +kernel
theorem dX1_repeatsIn_90 : decode cX1_repeatsIn 90 = .ok (.goto (-56), 3) := by decide +kernel
theorem dX1_repeatsIn_93 : decode cX1_repeatsIn 93 = .ok (.iconst (-1), 1) := by decide +kernel
theorem dX1_repeatsIn_94 : decode cX1_repeatsIn 94 = .ok (.ireturn, 1) := by decide +kernel
set_option maxRecDepth 20000 in
theorem ggX1_bestCut_X0_hasLeafAt : GoodIn wsX1_bestCut wsX0_hasLeafAt := goodIn_r _ [6, 7, 8, 9, 5, 10, 11, 97, 98] (by decide +kernel) (by decide +kernel)
set_option maxRecDepth 20000 in
theorem gX1_bestCut_X0_hasLeafAt : GoodIn wsX1_bestCut (wsV RX1 82 RX0 yX0_hasLeafAt wsX0_hasLeafAt) := goodIn_app (goodIn_of _ (by decide +kernel)) ggX1_bestCut_X0_hasLeafAt
set_option maxRecDepth 20000 in
theorem ggX1_bestCut_X1_litBehindCut : GoodIn wsX1_bestCut wsX1_litBehindCut := goodIn_r _ [16, 17, 1, 18, 19, 20, 21, 22, 23, 5, 24, 11, 25, 26, 27, 28, 29, 30, 31, 32, 33, 34, 15, 35, 36, 37, 38, 39, 40, 41, 42, 43, 7, 8, 9, 10, 44, 45, 46, 47, 48, 49, 50, 51, 52, 53, 54, 55, 56, 57, 58, 59, 60, 61, 62, 63, 64, 65, 66, 67, 68, 69, 70, 71, 72, 73, 3, 4, 6, 74, 75, 76, 77, 78, 79, 80, 81, 82, 83, 84, 85, 86, 87, 88, 89, 90, 91, 92, 93, 94, 95, 96, 97, 98] (by decide +kernel) (by decide +kernel)
set_option maxRecDepth 20000 in
theorem gX1_bestCut_X1_litBehindCut : GoodIn wsX1_bestCut (wsV RX1 140 RX1 yX1_litBehindCut wsX1_litBehindCut) := goodIn_app (goodIn_of _ (by decide +kernel)) ggX1_bestCut_X1_litBehindCut
theorem dX1_bestCut_0 : decode cX1_bestCut 0 = .ok (.iconst (-1), 1) := by decide +kernel
theorem dX1_bestCut_1 : decode cX1_bestCut 1 = .ok (.istore_n 1, 1) := by decide +kernel
theorem dX1_bestCut_2 : decode cX1_bestCut 2 = .ok (.iconst (-1), 1) := by decide +kernel
theorem dX1_bestCut_3 : decode cX1_bestCut 3 = .ok (.istore_n 2, 1) := by decide +kernel
theorem dX1_bestCut_4 : decode cX1_bestCut 4 = .ok (.iconst 0, 1) := by decide +kernel
theorem dX1_bestCut_5 : decode cX1_bestCut 5 = .ok (.istore_n 3, 1) := by decide +kernel
theorem dX1_bestCut_6 : decode cX1_bestCut 6 = .ok (.iload_n 3, 1) := by decide +kernel
theorem dX1_bestCut_7 : decode cX1_bestCut 7 = .ok (.bipush 96, 2) := by decide +kernel
theorem dX1_bestCut_9 : decode cX1_bestCut 9 = .ok (.if_icmp .ge 56, 3) := by decide +kernel
theorem dX1_bestCut_12 : decode cX1_bestCut 12 = .ok (.iload_n 3, 1) := by decide +kernel
theorem dX1_bestCut_13 : decode cX1_bestCut 13 = .ok (.bipush 12, 2) := by decide +kernel
theorem dX1_bestCut_15 : decode cX1_bestCut 15 = .ok (.idiv, 1) := by decide +kernel
theorem dX1_bestCut_16 : decode cX1_bestCut 16 = .ok (.istore 4, 2) := by decide +kernel
theorem dX1_bestCut_18 : decode cX1_bestCut 18 = .ok (.iload_n 3, 1) := by decide +kernel
theorem dX1_bestCut_19 : decode cX1_bestCut 19 = .ok (.bipush 12, 2) := by decide +kernel
theorem dX1_bestCut_21 : decode cX1_bestCut 21 = .ok (.irem, 1) := by decide +kernel
theorem dX1_bestCut_22 : decode cX1_bestCut 22 = .ok (.istore 5, 2) := by decide +kernel
theorem dX1_bestCut_24 : decode cX1_bestCut 24 = .ok (.aload_n 0, 1) := by decide +kernel
theorem dX1_bestCut_25 : decode cX1_bestCut 25 = .ok (.getfield 10, 3) := by decide +kernel
theorem dX1_bestCut_28 : decode cX1_bestCut 28 = .ok (.iload 4, 2) := by decide +kernel
theorem dX1_bestCut_30 : decode cX1_bestCut 30 = .ok (.iload 5, 2) := by decide +kernel
theorem dX1_bestCut_32 : decode cX1_bestCut 32 = .ok (.invokevirtual 82, 3) := by decide +kernel
theorem dX1_bestCut_35 : decode cX1_bestCut 35 = .ok (.ifCond .eq 24, 3) := by decide +kernel
theorem dX1_bestCut_38 : decode cX1_bestCut 38 = .ok (.aload_n 0, 1) := by decide +kernel
theorem dX1_bestCut_39 : decode cX1_bestCut 39 = .ok (.iload 4, 2) := by decide +kernel
theorem dX1_bestCut_41 : decode cX1_bestCut 41 = .ok (.iload 5, 2) := by decide +kernel
theorem dX1_bestCut_43 : decode cX1_bestCut 43 = .ok (.invokevirtual 140, 3) := by decide +kernel
theorem dX1_bestCut_46 : decode cX1_bestCut 46 = .ok (.istore 6, 2) := by decide +kernel
theorem dX1_bestCut_48 : decode cX1_bestCut 48 = .ok (.iload 6, 2) := by decide +kernel
theorem dX1_bestCut_50 : decode cX1_bestCut 50 = .ok (.iload_n 2, 1) := by decide +kernel
theorem dX1_bestCut_51 : decode cX1_bestCut 51 = .ok (.if_icmp .le 8, 3) := by decide +kernel
theorem dX1_bestCut_54 : decode cX1_bestCut 54 = .ok (.iload 6, 2) := by decide +kernel
theorem dX1_bestCut_56 : decode cX1_bestCut 56 = .ok (.istore_n 2, 1) := by decide +kernel
theorem dX1_bestCut_57 : decode cX1_bestCut 57 = .ok (.iload_n 3, 1) := by decide +kernel
theorem dX1_bestCut_58 : decode cX1_bestCut 58 = .ok (.istore_n 1, 1) := by decide +kernel
theorem dX1_bestCut_59 : decode cX1_bestCut 59 = .ok (.iinc 3 1, 3) := by decide +kernel
theorem dX1_bestCut_62 : decode cX1_bestCut 62 = .ok (.goto (-56), 3) := by decide +kernel
theorem dX1_bestCut_65 : decode cX1_bestCut 65 = .ok (.iload_n 1, 1) := by decide +kernel
theorem dX1_bestCut_66 : decode cX1_bestCut 66 = .ok (.ireturn, 1) := by decide +kernel
set_option maxRecDepth 20000 in
theorem ggX1_clear_X0_strip : GoodIn wsX1_clear wsX0_strip := goodIn_r _ [10, 11, 12, 24, 25] (by decide +kernel) (by decide +kernel)
set_option maxRecDepth 20000 in
theorem gX1_clear_X0_strip : GoodIn wsX1_clear (wsV RX1 143 RX0 yX0_strip wsX0_strip) := goodIn_app (goodIn_of _ (by decide +kernel)) ggX1_clear_X0_strip
theorem dX1_clear_0 : decode cX1_clear 0 = .ok (.aload_n 0, 1) := by decide +kernel
theorem dX1_clear_1 : decode cX1_clear 1 = .ok (.getfield 10, 3) := by decide +kernel
theorem dX1_clear_4 : decode cX1_clear 4 = .ok (.invokevirtual 143, 3) := by decide +kernel
theorem dX1_clear_7 : decode cX1_clear 7 = .ok (.aload_n 0, 1) := by decide +kernel
theorem dX1_clear_8 : decode cX1_clear 8 = .ok (.iconst 0, 1) := by decide +kernel
theorem dX1_clear_9 : decode cX1_clear 9 = .ok (.putfield 37, 3) := by decide +kernel
theorem dX1_clear_12 : decode cX1_clear 12 = .ok (.aload_n 0, 1) := by decide +kernel
theorem dX1_clear_13 : decode cX1_clear 13 = .ok (.iconst 0, 1) := by decide +kernel
theorem dX1_clear_14 : decode cX1_clear 14 = .ok (.putfield 40, 3) := by decide +kernel
theorem dX1_clear_17 : decode cX1_clear 17 = .ok (.aload_n 0, 1) := by decide +kernel
theorem dX1_clear_18 : decode cX1_clear 18 = .ok (.iconst 0, 1) := by decide +kernel
theorem dX1_clear_19 : decode cX1_clear 19 = .ok (.putfield 43, 3) := by decide +kernel
theorem dX1_clear_22 : decode cX1_clear 22 = .ok (.aload_n 0, 1) := by decide +kernel
theorem dX1_clear_23 : decode cX1_clear 23 = .ok (.iconst 0, 1) := by decide +kernel
theorem dX1_clear_24 : decode cX1_clear 24 = .ok (.putfield 46, 3) := by decide +kernel
theorem dX1_clear_27 : decode cX1_clear 27 = .ok (.return_, 1) := by decide +kernel
set_option maxRecDepth 20000 in
theorem ggX1_litBehindCut_X0_copyFrom : GoodIn wsX1_litBehindCut wsX0_copyFrom := goodIn_r _ [10, 11, 12, 92, 93] (by decide +kernel) (by decide +kernel)
set_option maxRecDepth 20000 in
theorem gX1_litBehindCut_X0_copyFrom : GoodIn wsX1_litBehindCut (wsV RX1 105 RX0 yX0_copyFrom wsX0_copyFrom) := goodIn_app (goodIn_of _ (by decide +kernel)) ggX1_litBehindCut_X0_copyFrom
set_option maxRecDepth 20000 in
theorem ggX1_litBehindCut_X0_cutLeaf : GoodIn wsX1_litBehindCut wsX0_cutLeaf := goodIn_r _ [16, 12, 17, 18, 19, 9, 20, 11, 21, 22, 23, 92, 93] (by decide +kernel) (by decide +kernel)
set_option maxRecDepth 20000 in
theorem gX1_litBehindCut_X0_cutLeaf : GoodIn wsX1_litBehindCut (wsV RX1 93 RX0 yX0_cutLeaf wsX0_cutLeaf) := goodIn_app (goodIn_of _ (by decide +kernel)) ggX1_litBehindCut_X0_cutLeaf
set_option maxRecDepth 20000 in
theorem ggX1_litBehindCut_X0_becomeNextOf : GoodIn wsX1_litBehindCut wsX0_becomeNextOf := goodIn_r _ [27, 11, 12, 28, 29, 30, 9, 31, 32, 33, 34, 35, 36, 37, 38, 39, 40, 41, 42, 43, 44, 45, 46, 47, 48, 49, 50, 51, 52, 53, 54, 55, 56, 57, 58, 59, 60, 61, 62, 63, 64, 65, 66, 67, 68, 69, 70, 71, 72, 73, 74, 75, 76, 17, 18, 19, 20, 21, 22, 23, 92, 93] (by decide +kernel) (by decide +kernel)
set_option maxRecDepth 20000 in
theorem gX1_litBehindCut_X0_becomeNextOf : GoodIn wsX1_litBehindCut (wsV RX1 101 RX0 yX0_becomeNextOf wsX0_becomeNextOf) := goodIn_app (goodIn_of _ (by decide +kernel)) ggX1_litBehindCut_X0_becomeNextOf
set_option maxRecDepth 20000 in
theorem ggX1_litBehindCut_X0_countLit : GoodIn wsX1_litBehindCut wsX0_countLit := goodIn_r _ [80, 11, 43, 44, 45, 46, 47, 48, 49, 92, 93] (by decide +kernel) (by decide +kernel)
set_option maxRecDepth 20000 in
theorem gX1_litBehindCut_X0_countLit : GoodIn wsX1_litBehindCut (wsV RX1 127 RX0 yX0_countLit wsX0_countLit) := goodIn_app (goodIn_of _ (by decide +kernel)) ggX1_litBehindCut_X0_countLit
theorem dX1_litBehindCut_0 : decode cX1_litBehindCut 0 = .ok (.aload_n 0, 1) := by decide +kernel
theorem dX1_litBehindCut_1 : decode cX1_litBehindCut 1 = .ok (.getfield 16, 3) := by decide +kernel
theorem dX1_litBehindCut_4 : decode cX1_litBehindCut 4 = .ok (.aload_n 0, 1) := by decide +kernel
theorem dX1_litBehindCut_5 : decode cX1_litBehindCut 5 = .ok (.getfield 10, 3) := by decide +kernel
theorem dX1_litBehindCut_8 : decode cX1_litBehindCut 8 = .ok (.invokevirtual 105, 3) := by decide +kernel
theorem dX1_litBehindCut_11 : decode cX1_litBehindCut 11 = .ok (.aload_n 0, 1) := by decide +kernel
theorem dX1_litBehindCut_12 : decode cX1_litBehindCut 12 = .ok (.getfield 16, 3) := by decide +kernel
theorem dX1_litBehindCut_15 : decode cX1_litBehindCut 15 = .ok (.iload_n 1, 1) := by decide +kernel
theorem dX1_litBehindCut_16 : decode cX1_litBehindCut 16 = .ok (.iload_n 2, 1) := by decide +kernel
theorem dX1_litBehindCut_17 : decode cX1_litBehindCut 17 = .ok (.invokevirtual 93, 3) := by decide +kernel
theorem dX1_litBehindCut_20 : decode cX1_litBehindCut 20 = .ok (.aload_n 0, 1) := by decide +kernel
theorem dX1_litBehindCut_21 : decode cX1_litBehindCut 21 = .ok (.getfield 19, 3) := by decide +kernel
theorem dX1_litBehindCut_24 : decode cX1_litBehindCut 24 = .ok (.aload_n 0, 1) := by decide +kernel
theorem dX1_litBehindCut_25 : decode cX1_litBehindCut 25 = .ok (.getfield 16, 3) := by decide +kernel
theorem dX1_litBehindCut_28 : decode cX1_litBehindCut 28 = .ok (.aload_n 0, 1) := by decide +kernel
theorem dX1_litBehindCut_29 : decode cX1_litBehindCut 29 = .ok (.getfield 33, 3) := by decide +kernel
theorem dX1_litBehindCut_32 : decode cX1_litBehindCut 32 = .ok (.aload_n 0, 1) := by decide +kernel
theorem dX1_litBehindCut_33 : decode cX1_litBehindCut 33 = .ok (.getfield 29, 3) := by decide +kernel
theorem dX1_litBehindCut_36 : decode cX1_litBehindCut 36 = .ok (.invokevirtual 101, 3) := by decide +kernel
theorem dX1_litBehindCut_39 : decode cX1_litBehindCut 39 = .ok (.pop, 1) := by decide +kernel
theorem dX1_litBehindCut_40 : decode cX1_litBehindCut 40 = .ok (.aload_n 0, 1) := by decide +kernel
theorem dX1_litBehindCut_41 : decode cX1_litBehindCut 41 = .ok (.getfield 19, 3) := by decide +kernel
theorem dX1_litBehindCut_44 : decode cX1_litBehindCut 44 = .ok (.invokevirtual 127, 3) := by decide +kernel
theorem dX1_litBehindCut_47 : decode cX1_litBehindCut 47 = .ok (.ireturn, 1) := by decide +kernel
set_option maxRecDepth 20000 in
theorem ggX1_remember_X0_leavesOfHalf : GoodIn wsX1_remember wsX0_leavesOfHalf := goodIn_r _ [8, 9, 10, 11, 7, 12, 13, 25, 26] (by decide +kernel) (by decide +kernel)
set_option maxRecDepth 20000 in
theorem gX1_remember_X0_leavesOfHalf : GoodIn wsX1_remember (wsV RX1 146 RX0 yX0_leavesOfHalf wsX0_leavesOfHalf) := goodIn_app (goodIn_of _ (by decide +kernel)) ggX1_remember_X0_leavesOfHalf
theorem dX1_remember_0 : decode cX1_remember 0 = .ok (.aload_n 0, 1) := by decide +kernel
theorem dX1_remember_1 : decode cX1_remember 1 = .ok (.getfield 22, 3) := by decide +kernel
theorem dX1_remember_4 : decode cX1_remember 4 = .ok (.iload_n 1, 1) := by decide +kernel
theorem dX1_remember_5 : decode cX1_remember 5 = .ok (.aload_n 0, 1) := by decide +kernel
theorem dX1_remember_6 : decode cX1_remember 6 = .ok (.getfield 16, 3) := by decide +kernel
theorem dX1_remember_9 : decode cX1_remember 9 = .ok (.iconst 0, 1) := by decide +kernel
theorem dX1_remember_10 : decode cX1_remember 10 = .ok (.invokevirtual 146, 3) := by decide +kernel
theorem dX1_remember_13 : decode cX1_remember 13 = .ok (.lastore, 1) := by decide +kernel
theorem dX1_remember_14 : decode cX1_remember 14 = .ok (.aload_n 0, 1) := by decide +kernel
theorem dX1_remember_15 : decode cX1_remember 15 = .ok (.getfield 26, 3) := by decide +kernel
theorem dX1_remember_18 : decode cX1_remember 18 = .ok (.iload_n 1, 1) := by decide +kernel
theorem dX1_remember_19 : decode cX1_remember 19 = .ok (.aload_n 0, 1) := by decide +kernel
theorem dX1_remember_20 : decode cX1_remember 20 = .ok (.getfield 16, 3) := by decide +kernel
theorem dX1_remember_23 : decode cX1_remember 23 = .ok (.iconst 4, 1) := by decide +kernel
theorem dX1_remember_24 : decode cX1_remember 24 = .ok (.invokevirtual 146, 3) := by decide +kernel
theorem dX1_remember_27 : decode cX1_remember 27 = .ok (.lastore, 1) := by decide +kernel
theorem dX1_remember_28 : decode cX1_remember 28 = .ok (.return_, 1) := by decide +kernel
theorem dX1_looksAsBefore_0 : decode cX1_looksAsBefore 0 = .ok (.iload_n 2, 1) := by decide +kernel
theorem dX1_looksAsBefore_1 : decode cX1_looksAsBefore 1 = .ok (.istore_n 3, 1) := by decide +kernel
theorem dX1_looksAsBefore_2 : decode cX1_looksAsBefore 2 = .ok (.iload_n 3, 1) := by decide +kernel
theorem dX1_looksAsBefore_3 : decode cX1_looksAsBefore 3 = .ok (.iload_n 1, 1) := by decide +kernel
theorem dX1_looksAsBefore_4 : decode cX1_looksAsBefore 4 = .ok (.if_icmp .ge 43, 3) := by decide +kernel
theorem dX1_looksAsBefore_7 : decode cX1_looksAsBefore 7 = .ok (.aload_n 0, 1) := by decide +kernel
theorem dX1_looksAsBefore_8 : decode cX1_looksAsBefore 8 = .ok (.getfield 22, 3) := by decide +kernel
theorem dX1_looksAsBefore_11 : decode cX1_looksAsBefore 11 = .ok (.iload_n 3, 1) := by decide +kernel
theorem dX1_looksAsBefore_12 : decode cX1_looksAsBefore 12 = .ok (.laload, 1) := by decide +kernel
theorem dX1_looksAsBefore_13 : decode cX1_looksAsBefore 13 = .ok (.aload_n 0, 1) := by decide +kernel
theorem dX1_looksAsBefore_14 : decode cX1_looksAsBefore 14 = .ok (.getfield 22, 3) := by decide +kernel
theorem dX1_looksAsBefore_17 : decode cX1_looksAsBefore 17 = .ok (.iload_n 1, 1) := by decide +kernel
theorem dX1_looksAsBefore_18 : decode cX1_looksAsBefore 18 = .ok (.laload, 1) := by decide +kernel
theorem dX1_looksAsBefore_19 : decode cX1_looksAsBefore 19 = .ok (.lcmp, 1) := by decide +kernel
theorem dX1_looksAsBefore_20 : decode cX1_looksAsBefore 20 = .ok (.ifCond .ne 21, 3) := by decide +kernel
theorem dX1_looksAsBefore_23 : decode cX1_looksAsBefore 23 = .ok (.aload_n 0, 1) := by decide +kernel
theorem dX1_looksAsBefore_24 : decode cX1_looksAsBefore 24 = .ok (.getfield 26, 3) := by decide +kernel
theorem dX1_looksAsBefore_27 : decode cX1_looksAsBefore 27 = .ok (.iload_n 3, 1) := by decide +kernel
theorem dX1_looksAsBefore_28 : decode cX1_looksAsBefore 28 = .ok (.laload, 1) := by decide +kernel
theorem dX1_looksAsBefore_29 : decode cX1_looksAsBefore 29 = .ok (.aload_n 0, 1) := by decide +kernel
theorem dX1_looksAsBefore_30 : decode cX1_looksAsBefore 30 = .ok (.getfield 26, 3) := by decide +kernel
theorem dX1_looksAsBefore_33 : decode cX1_looksAsBefore 33 = .ok (.iload_n 1, 1) := by decide +kernel
theorem dX1_looksAsBefore_34 : decode cX1_looksAsBefore 34 = .ok (.laload, 1) := by decide +kernel
theorem dX1_looksAsBefore_35 : decode cX1_looksAsBefore 35 = .ok (.lcmp, 1) := by decide +kernel
theorem dX1_looksAsBefore_36 : decode cX1_looksAsBefore 36 = .ok (.ifCond .ne 5, 3) := by decide +kernel
theorem dX1_looksAsBefore_39 : decode cX1_looksAsBefore 39 = .ok (.iconst 1, 1) := by decide +kernel
theorem dX1_looksAsBefore_40 : decode cX1_looksAsBefore 40 = .ok (.ireturn, 1) := by decide +kernel
theorem dX1_looksAsBefore_41 : decode cX1_looksAsBefore 41 = .ok (.iinc 3 1, 3) := by decide +kernel
theorem dX1_looksAsBefore_44 : decode cX1_looksAsBefore 44 = .ok (.goto (-42), 3) := by decide +kernel
theorem dX1_looksAsBefore_47 : decode cX1_looksAsBefore 47 = .ok (.iconst 0, 1) := by decide +kernel
theorem dX1_looksAsBefore_48 : decode cX1_looksAsBefore 48 = .ok (.ireturn, 1) := by decide +kernel
theorem dX1_requireColumn_0 : decode cX1_requireColumn 0 = .ok (.iload_n 0, 1) := by decide +kernel
theorem dX1_requireColumn_1 : decode cX1_requireColumn 1 = .ok (.ifCond .lt 9, 3) := by decide +kernel
theorem dX1_requireColumn_4 : decode cX1_requireColumn 4 = .ok (.iload_n 0, 1) := by decide +kernel
theorem dX1_requireColumn_5 : decode cX1_requireColumn 5 = .ok (.bipush 12, 2) := by decide +kernel
theorem dX1_requireColumn_7 : decode cX1_requireColumn 7 = .ok (.if_icmp .lt 13, 3) := by decide +kernel
theorem dX1_requireColumn_10 : decode cX1_requireColumn 10 = .ok (.new 150, 3) := by decide +kernel
theorem dX1_requireColumn_13 : decode cX1_requireColumn 13 = .ok (.dup, 1) := by decide +kernel
theorem dX1_requireColumn_14 : decode cX1_requireColumn 14 = .ok (.ldc 152, 2) := by decide +kernel
theorem dX1_requireColumn_16 : decode cX1_requireColumn 16 = .ok (.invokespecial 154, 3) := by decide +kernel
theorem dX1_requireColumn_19 : decode cX1_requireColumn 19 = .ok (.athrow, 1) := by decide +kernel
theorem dX1_requireColumn_20 : decode cX1_requireColumn 20 = .ok (.return_, 1) := by decide +kernel
set_option maxRecDepth 20000 in
theorem ggX1_requireCell_X1_isCell : GoodIn wsX1_requireCell wsX1_isCell := goodIn_r _ [6] (by decide +kernel) (by decide +kernel)
set_option maxRecDepth 20000 in
theorem gX1_requireCell_X1_isCell : GoodIn wsX1_requireCell (va_wsS RX1 155 yX1_isCell wsX1_isCell) := goodIn_app (goodIn_of _ (by decide +kernel)) ggX1_requireCell_X1_isCell
theorem dX1_requireCell_0 : decode cX1_requireCell 0 = .ok (.iload_n 0, 1) := by decide +kernel
theorem dX1_requireCell_1 : decode cX1_requireCell 1 = .ok (.iload_n 1, 1) := by decide +kernel
theorem dX1_requireCell_2 : decode cX1_requireCell 2 = .ok (.invokestatic 155, 3) := by decide +kernel
theorem dX1_requireCell_5 : decode cX1_requireCell 5 = .ok (.ifCond .ne 13, 3) := by decide +kernel
theorem dX1_requireCell_8 : decode cX1_requireCell 8 = .ok (.new 150, 3) := by decide +kernel
theorem dX1_requireCell_11 : decode cX1_requireCell 11 = .ok (.dup, 1) := by decide +kernel
theorem dX1_requireCell_12 : decode cX1_requireCell 12 = .ok (.ldc 158, 2) := by decide +kernel
theorem dX1_requireCell_14 : decode cX1_requireCell 14 = .ok (.invokespecial 154, 3) := by decide +kernel
theorem dX1_requireCell_17 : decode cX1_requireCell 17 = .ok (.athrow, 1) := by decide +kernel
theorem dX1_requireCell_18 : decode cX1_requireCell 18 = .ok (.return_, 1) := by decide +kernel
theorem dX1_isCell_0 : decode cX1_isCell 0 = .ok (.iload_n 0, 1) := by decide +kernel
theorem dX1_isCell_1 : decode cX1_isCell 1 = .ok (.ifCond .lt 23, 3) := by decide +kernel
theorem dX1_isCell_4 : decode cX1_isCell 4 = .ok (.iload_n 0, 1) := by decide +kernel
theorem dX1_isCell_5 : decode cX1_isCell 5 = .ok (.bipush 8, 2) := by decide +kernel
theorem dX1_isCell_7 : decode cX1_isCell 7 = .ok (.if_icmp .ge 17, 3) := by decide +kernel
theorem dX1_isCell_10 : decode cX1_isCell 10 = .ok (.iload_n 1, 1) := by decide +kernel
theorem dX1_isCell_11 : decode cX1_isCell 11 = .ok (.ifCond .lt 13, 3) := by decide +kernel
theorem dX1_isCell_14 : decode cX1_isCell 14 = .ok (.iload_n 1, 1) := by decide +kernel
theorem dX1_isCell_15 : decode cX1_isCell 15 = .ok (.bipush 12, 2) := by decide +kernel
theorem dX1_isCell_17 : decode cX1_isCell 17 = .ok (.if_icmp .ge 7, 3) := by decide +kernel
theorem dX1_isCell_20 : decode cX1_isCell 20 = .ok (.iconst 1, 1) := by decide +kernel
theorem dX1_isCell_21 : decode cX1_isCell 21 = .ok (.goto 4, 3) := by decide +kernel
theorem dX1_isCell_24 : decode cX1_isCell 24 = .ok (.iconst 0, 1) := by decide +kernel
theorem dX1_isCell_25 : decode cX1_isCell 25 = .ok (.ireturn, 1) := by decide +kernel
theorem dX2_init_0 : decode cX2_init 0 = .ok (.aload_n 0, 1) := by decide +kernel
theorem dX2_init_1 : decode cX2_init 1 = .ok (.invokespecial 1, 3) := by decide +kernel
theorem dX2_init_4 : decode cX2_init 4 = .ok (.aload_n 0, 1) := by decide +kernel
theorem dX2_init_5 : decode cX2_init 5 = .ok (.sipush 5952, 3) := by decide +kernel
theorem dX2_init_8 : decode cX2_init 8 = .ok (.newarray .int, 2) := by decide +kernel
theorem dX2_init_10 : decode cX2_init 10 = .ok (.putfield 7, 3) := by decide +kernel
theorem dX2_init_13 : decode cX2_init 13 = .ok (.aload_n 0, 1) := by decide +kernel
theorem dX2_init_14 : decode cX2_init 14 = .ok (.bipush 12, 2) := by decide +kernel
theorem dX2_init_16 : decode cX2_init 16 = .ok (.newarray .int, 2) := by decide +kernel
theorem dX2_init_18 : decode cX2_init 18 = .ok (.putfield 13, 3) := by decide +kernel
theorem dX2_init_21 : decode cX2_init 21 = .ok (.aload_n 0, 1) := by decide +kernel
theorem dX2_init_22 : decode cX2_init 22 = .ok (.iconst 3, 1) := by decide +kernel
theorem dX2_init_23 : decode cX2_init 23 = .ok (.putfield 16, 3) := by decide +kernel
theorem dX2_init_26 : decode cX2_init 26 = .ok (.iconst 0, 1) := by decide +kernel
theorem dX2_init_27 : decode cX2_init 27 = .ok (.istore_n 1, 1) := by decide +kernel
theorem dX2_init_28 : decode cX2_init 28 = .ok (.iload_n 1, 1) := by decide +kernel
theorem dX2_init_29 : decode cX2_init 29 = .ok (.bipush 12, 2) := by decide +kernel
theorem dX2_init_31 : decode cX2_init 31 = .ok (.if_icmp .ge 16, 3) := by decide +kernel
theorem dX2_init_34 : decode cX2_init 34 = .ok (.aload_n 0, 1) := by decide +kernel
theorem dX2_init_35 : decode cX2_init 35 = .ok (.getfield 13, 3) := by decide +kernel
theorem dX2_init_38 : decode cX2_init 38 = .ok (.iload_n 1, 1) := by decide +kernel
theorem dX2_init_39 : decode cX2_init 39 = .ok (.iconst 5, 1) := by decide +kernel
theorem dX2_init_40 : decode cX2_init 40 = .ok (.iastore, 1) := by decide +kernel
theorem dX2_init_41 : decode cX2_init 41 = .ok (.iinc 1 1, 3) := by decide +kernel
theorem dX2_init_44 : decode cX2_init 44 = .ok (.goto (-16), 3) := by decide +kernel
theorem dX2_init_47 : decode cX2_init 47 = .ok (.return_, 1) := by decide +kernel
theorem dX2_thrown_0 : decode cX2_thrown 0 = .ok (.aload_n 0, 1) := by decide +kernel
theorem dX2_thrown_1 : decode cX2_thrown 1 = .ok (.getfield 20, 3) := by decide +kernel
theorem dX2_thrown_4 : decode cX2_thrown 4 = .ok (.ireturn, 1) := by decide +kernel
theorem dX2_isColumn_0 : decode cX2_isColumn 0 = .ok (.iload_n 0, 1) := by decide +kernel
theorem dX2_isColumn_1 : decode cX2_isColumn 1 = .ok (.ifCond .lt 13, 3) := by decide +kernel
theorem dX2_isColumn_4 : decode cX2_isColumn 4 = .ok (.iload_n 0, 1) := by decide +kernel
theorem dX2_isColumn_5 : decode cX2_isColumn 5 = .ok (.bipush 12, 2) := by decide +kernel
theorem dX2_isColumn_7 : decode cX2_isColumn 7 = .ok (.if_icmp .ge 7, 3) := by decide +kernel
theorem dX2_isColumn_10 : decode cX2_isColumn 10 = .ok (.iconst 1, 1) := by decide +kernel
theorem dX2_isColumn_11 : decode cX2_isColumn 11 = .ok (.goto 4, 3) := by decide +kernel
theorem dX2_isColumn_14 : decode cX2_isColumn 14 = .ok (.iconst 0, 1) := by decide +kernel
theorem dX2_isColumn_15 : decode cX2_isColumn 15 = .ok (.ireturn, 1) := by decide +kernel
set_option maxRecDepth 20000 in
theorem ggX2_isCell_X2_isColumn : GoodIn wsX2_isCell wsX2_isColumn := goodIn_r _ [4] (by decide +kernel) (by decide +kernel)
set_option maxRecDepth 20000 in
theorem gX2_isCell_X2_isColumn : GoodIn wsX2_isCell (va_wsS RX2 23 yX2_isColumn wsX2_isColumn) := goodIn_app (goodIn_of _ (by decide +kernel)) ggX2_isCell_X2_isColumn
theorem dX2_isCell_0 : decode cX2_isCell 0 = .ok (.iload_n 0, 1) := by decide +kernel
theorem dX2_isCell_1 : decode cX2_isCell 1 = .ok (.ifCond .lt 20, 3) := by decide +kernel
theorem dX2_isCell_4 : decode cX2_isCell 4 = .ok (.iload_n 0, 1) := by decide +kernel
theorem dX2_isCell_5 : decode cX2_isCell 5 = .ok (.bipush 8, 2) := by decide +kernel
theorem dX2_isCell_7 : decode cX2_isCell 7 = .ok (.if_icmp .ge 14, 3) := by decide +kernel
theorem dX2_isCell_10 : decode cX2_isCell 10 = .ok (.iload_n 1, 1) := by decide +kernel
theorem dX2_isCell_11 : decode cX2_isCell 11 = .ok (.invokestatic 23, 3) := by decide +kernel
theorem dX2_isCell_14 : decode cX2_isCell 14 = .ok (.ifCond .eq 7, 3) := by decide +kernel
theorem dX2_isCell_17 : decode cX2_isCell 17 = .ok (.iconst 1, 1) := by decide +kernel
theorem dX2_isCell_18 : decode cX2_isCell 18 = .ok (.goto 4, 3) := by decide +kernel
theorem dX2_isCell_21 : decode cX2_isCell 21 = .ok (.iconst 0, 1) := by decide +kernel
theorem dX2_isCell_22 : decode cX2_isCell 22 = .ok (.ireturn, 1) := by decide +kernel
set_option maxRecDepth 20000 in
theorem ggX2_leafAt_X2_isColumn : GoodIn wsX2_leafAt wsX2_isColumn := goodIn_r _ [6] (by decide +kernel) (by decide +kernel)
set_option maxRecDepth 20000 in
theorem gX2_leafAt_X2_isColumn : GoodIn wsX2_leafAt (va_wsS RX2 23 yX2_isColumn wsX2_isColumn) := goodIn_app (goodIn_of _ (by decide +kernel)) ggX2_leafAt_X2_isColumn
theorem dX2_leafAt_0 : decode cX2_leafAt 0 = .ok (.iload_n 3, 1) := by decide +kernel
theorem dX2_leafAt_1 : decode cX2_leafAt 1 = .ok (.istore 4, 2) := by decide +kernel
theorem dX2_leafAt_3 : decode cX2_leafAt 3 = .ok (.iload_n 3, 1) := by decide +kernel
theorem dX2_leafAt_4 : decode cX2_leafAt 4 = .ok (.invokestatic 23, 3) := by decide +kernel
theorem dX2_leafAt_7 : decode cX2_leafAt 7 = .ok (.ifCond .ne 45, 3) := by decide +kernel
theorem dX2_leafAt_10 : decode cX2_leafAt 10 = .ok (.aload_n 0, 1) := by decide +kernel
theorem dX2_leafAt_11 : decode cX2_leafAt 11 = .ok (.getfield 27, 3) := by decide +kernel
theorem dX2_leafAt_14 : decode cX2_leafAt 14 = .ok (.iconst 1, 1) := by decide +kernel
theorem dX2_leafAt_15 : decode cX2_leafAt 15 = .ok (.if_icmp .ne 13, 3) := by decide +kernel
theorem dX2_leafAt_18 : decode cX2_leafAt 18 = .ok (.iload_n 3, 1) := by decide +kernel
theorem dX2_leafAt_19 : decode cX2_leafAt 19 = .ok (.bipush 12, 2) := by decide +kernel
theorem dX2_leafAt_21 : decode cX2_leafAt 21 = .ok (.iadd, 1) := by decide +kernel
theorem dX2_leafAt_22 : decode cX2_leafAt 22 = .ok (.bipush 12, 2) := by decide +kernel
theorem dX2_leafAt_24 : decode cX2_leafAt 24 = .ok (.irem, 1) := by decide +kernel
theorem dX2_leafAt_25 : decode cX2_leafAt 25 = .ok (.goto 25, 3) := by decide +kernel
theorem dX2_leafAt_28 : decode cX2_leafAt 28 = .ok (.aload_n 0, 1) := by decide +kernel
theorem dX2_leafAt_29 : decode cX2_leafAt 29 = .ok (.getfield 27, 3) := by decide +kernel
theorem dX2_leafAt_32 : decode cX2_leafAt 32 = .ok (.iconst 2, 1) := by decide +kernel
theorem dX2_leafAt_33 : decode cX2_leafAt 33 = .ok (.if_icmp .ne 16, 3) := by decide +kernel
theorem dX2_leafAt_36 : decode cX2_leafAt 36 = .ok (.iload_n 3, 1) := by decide +kernel
theorem dX2_leafAt_37 : decode cX2_leafAt 37 = .ok (.ifCond .ge 7, 3) := by decide +kernel
theorem dX2_leafAt_40 : decode cX2_leafAt 40 = .ok (.iconst 0, 1) := by decide +kernel
theorem dX2_leafAt_41 : decode cX2_leafAt 41 = .ok (.goto 9, 3) := by decide +kernel
theorem dX2_leafAt_44 : decode cX2_leafAt 44 = .ok (.bipush 11, 2) := by decide +kernel
theorem dX2_leafAt_46 : decode cX2_leafAt 46 = .ok (.goto 4, 3) := by decide +kernel
theorem dX2_leafAt_49 : decode cX2_leafAt 49 = .ok (.iconst (-1), 1) := by decide +kernel
theorem dX2_leafAt_50 : decode cX2_leafAt 50 = .ok (.istore 4, 2) := by decide +kernel
theorem dX2_leafAt_52 : decode cX2_leafAt 52 = .ok (.iload_n 2, 1) := by decide +kernel
theorem dX2_leafAt_53 : decode cX2_leafAt 53 = .ok (.ifCond .lt 39, 3) := by decide +kernel
theorem dX2_leafAt_56 : decode cX2_leafAt 56 = .ok (.iload_n 2, 1) := by decide +kernel
theorem dX2_leafAt_57 : decode cX2_leafAt 57 = .ok (.bipush 8, 2) := by decide +kernel
theorem dX2_leafAt_59 : decode cX2_leafAt 59 = .ok (.if_icmp .ge 33, 3) := by decide +kernel
theorem dX2_leafAt_62 : decode cX2_leafAt 62 = .ok (.iload 4, 2) := by decide +kernel
theorem dX2_leafAt_64 : decode cX2_leafAt 64 = .ok (.ifCond .lt 28, 3) := by decide +kernel
theorem dX2_leafAt_67 : decode cX2_leafAt 67 = .ok (.aload_n 0, 1) := by decide +kernel
theorem dX2_leafAt_68 : decode cX2_leafAt 68 = .ok (.getfield 7, 3) := by decide +kernel
theorem dX2_leafAt_71 : decode cX2_leafAt 71 = .ok (.bipush 96, 2) := by decide +kernel
theorem dX2_leafAt_73 : decode cX2_leafAt 73 = .ok (.iload_n 1, 1) := by decide +kernel
theorem dX2_leafAt_74 : decode cX2_leafAt 74 = .ok (.imul, 1) := by decide +kernel
theorem dX2_leafAt_75 : decode cX2_leafAt 75 = .ok (.bipush 12, 2) := by decide +kernel
theorem dX2_leafAt_77 : decode cX2_leafAt 77 = .ok (.iload_n 2, 1) := by decide +kernel
theorem dX2_leafAt_78 : decode cX2_leafAt 78 = .ok (.imul, 1) := by decide +kernel
theorem dX2_leafAt_79 : decode cX2_leafAt 79 = .ok (.iadd, 1) := by decide +kernel
theorem dX2_leafAt_80 : decode cX2_leafAt 80 = .ok (.iload 4, 2) := by decide +kernel
theorem dX2_leafAt_82 : decode cX2_leafAt 82 = .ok (.iadd, 1) := by decide +kernel
theorem dX2_leafAt_83 : decode cX2_leafAt 83 = .ok (.iaload, 1) := by decide +kernel
theorem dX2_leafAt_84 : decode cX2_leafAt 84 = .ok (.iconst 1, 1) := by decide +kernel
theorem dX2_leafAt_85 : decode cX2_leafAt 85 = .ok (.if_icmp .ne 7, 3) := by decide +kernel
theorem dX2_leafAt_88 : decode cX2_leafAt 88 = .ok (.iconst 1, 1) := by decide +kernel
theorem dX2_leafAt_89 : decode cX2_leafAt 89 = .ok (.goto 4, 3) := by decide +kernel
theorem dX2_leafAt_92 : decode cX2_leafAt 92 = .ok (.iconst 0, 1) := by decide +kernel
theorem dX2_leafAt_93 : decode cX2_leafAt 93 = .ok (.ireturn, 1) := by decide +kernel
set_option maxRecDepth 20000 in
theorem ggX2_shade_X2_leafAt : GoodIn wsX2_shade wsX2_leafAt := goodIn_r _ [5, 6, 7, 8, 9, 4, 10, 11, 12, 13, 14, 15, 16, 17, 18] (by decide +kernel) (by decide +kernel)
set_option maxRecDepth 20000 in
theorem gX2_shade_X2_leafAt : GoodIn wsX2_shade (wsV RX2 30 RX2 yX2_leafAt wsX2_leafAt) := goodIn_app (goodIn_of _ (by decide +kernel)) ggX2_shade_X2_leafAt
theorem dX2_shade_0 : decode cX2_shade 0 = .ok (.iconst 0, 1) := by decide +kernel
theorem dX2_shade_1 : decode cX2_shade 1 = .ok (.istore 4, 2) := by decide +kernel
theorem dX2_shade_3 : decode cX2_shade 3 = .ok (.iload_n 2, 1) := by decide +kernel
theorem dX2_shade_4 : decode cX2_shade 4 = .ok (.iconst 1, 1) := by decide +kernel
theorem dX2_shade_5 : decode cX2_shade 5 = .ok (.iadd, 1) := by decide +kernel
theorem dX2_shade_6 : decode cX2_shade 6 = .ok (.istore 5, 2) := by decide +kernel
theorem dX2_shade_8 : decode cX2_shade 8 = .ok (.iload 5, 2) := by decide +kernel
theorem dX2_shade_10 : decode cX2_shade 10 = .ok (.bipush 8, 2) := by decide +kernel
theorem dX2_shade_12 : decode cX2_shade 12 = .ok (.if_icmp .ge 22, 3) := by decide +kernel
theorem dX2_shade_15 : decode cX2_shade 15 = .ok (.iload 4, 2) := by decide +kernel
theorem dX2_shade_17 : decode cX2_shade 17 = .ok (.aload_n 0, 1) := by decide +kernel
theorem dX2_shade_18 : decode cX2_shade 18 = .ok (.iload_n 1, 1) := by decide +kernel
theorem dX2_shade_19 : decode cX2_shade 19 = .ok (.iload 5, 2) := by decide +kernel
theorem dX2_shade_21 : decode cX2_shade 21 = .ok (.iload_n 3, 1) := by decide +kernel
theorem dX2_shade_22 : decode cX2_shade 22 = .ok (.invokevirtual 30, 3) := by decide +kernel
theorem dX2_shade_25 : decode cX2_shade 25 = .ok (.iadd, 1) := by decide +kernel
theorem dX2_shade_26 : decode cX2_shade 26 = .ok (.istore 4, 2) := by decide +kernel
theorem dX2_shade_28 : decode cX2_shade 28 = .ok (.iinc 5 1, 3) := by decide +kernel
theorem dX2_shade_31 : decode cX2_shade 31 = .ok (.goto (-23), 3) := by decide +kernel
theorem dX2_shade_34 : decode cX2_shade 34 = .ok (.iload 4, 2) := by decide +kernel
theorem dX2_shade_36 : decode cX2_shade 36 = .ok (.ireturn, 1) := by decide +kernel
set_option maxRecDepth 20000 in
theorem ggX2_threeIn_X2_leafAt : GoodIn wsX2_threeIn wsX2_leafAt := goodIn_r _ [5, 6, 7, 8, 9, 4, 10, 11, 12, 13, 14, 15, 16, 17, 18] (by decide +kernel) (by decide +kernel)
set_option maxRecDepth 20000 in
theorem gX2_threeIn_X2_leafAt : GoodIn wsX2_threeIn (wsV RX2 30 RX2 yX2_leafAt wsX2_leafAt) := goodIn_app (goodIn_of _ (by decide +kernel)) ggX2_threeIn_X2_leafAt
theorem dX2_threeIn_0 : decode cX2_threeIn 0 = .ok (.aload_n 0, 1) := by decide +kernel
theorem dX2_threeIn_1 : decode cX2_threeIn 1 = .ok (.iload_n 1, 1) := by decide +kernel
theorem dX2_threeIn_2 : decode cX2_threeIn 2 = .ok (.iload_n 2, 1) := by decide +kernel
theorem dX2_threeIn_3 : decode cX2_threeIn 3 = .ok (.iload_n 3, 1) := by decide +kernel
theorem dX2_threeIn_4 : decode cX2_threeIn 4 = .ok (.iconst 1, 1) := by decide +kernel
theorem dX2_threeIn_5 : decode cX2_threeIn 5 = .ok (.isub, 1) := by decide +kernel
theorem dX2_threeIn_6 : decode cX2_threeIn 6 = .ok (.invokevirtual 30, 3) := by decide +kernel
theorem dX2_threeIn_9 : decode cX2_threeIn 9 = .ok (.aload_n 0, 1) := by decide +kernel
theorem dX2_threeIn_10 : decode cX2_threeIn 10 = .ok (.iload_n 1, 1) := by decide +kernel
theorem dX2_threeIn_11 : decode cX2_threeIn 11 = .ok (.iload_n 2, 1) := by decide +kernel
theorem dX2_threeIn_12 : decode cX2_threeIn 12 = .ok (.iload_n 3, 1) := by decide +kernel
theorem dX2_threeIn_13 : decode cX2_threeIn 13 = .ok (.invokevirtual 30, 3) := by decide +kernel
theorem dX2_threeIn_16 : decode cX2_threeIn 16 = .ok (.iadd, 1) := by decide +kernel
theorem dX2_threeIn_17 : decode cX2_threeIn 17 = .ok (.aload_n 0, 1) := by decide +kernel
theorem dX2_threeIn_18 : decode cX2_threeIn 18 = .ok (.iload_n 1, 1) := by decide +kernel
theorem dX2_threeIn_19 : decode cX2_threeIn 19 = .ok (.iload_n 2, 1) := by decide +kernel
theorem dX2_threeIn_20 : decode cX2_threeIn 20 = .ok (.iload_n 3, 1) := by decide +kernel
theorem dX2_threeIn_21 : decode cX2_threeIn 21 = .ok (.iconst 1, 1) := by decide +kernel
theorem dX2_threeIn_22 : decode cX2_threeIn 22 = .ok (.iadd, 1) := by decide +kernel
theorem dX2_threeIn_23 : decode cX2_threeIn 23 = .ok (.invokevirtual 30, 3) := by decide +kernel
theorem dX2_threeIn_26 : decode cX2_threeIn 26 = .ok (.iadd, 1) := by decide +kernel
theorem dX2_threeIn_27 : decode cX2_threeIn 27 = .ok (.ireturn, 1) := by decide +kernel
set_option maxRecDepth 20000 in
theorem ggX2_holders_X2_threeIn : GoodIn wsX2_holders wsX2_threeIn := goodIn_r _ [5, 6, 7, 8, 4, 9, 10, 11, 12, 13, 14, 15, 16, 17, 18, 19, 20, 21, 22] (by decide +kernel) (by decide +kernel)
set_option maxRecDepth 20000 in
theorem gX2_holders_X2_threeIn : GoodIn wsX2_holders (wsV RX2 34 RX2 yX2_threeIn wsX2_threeIn) := goodIn_app (goodIn_of _ (by decide +kernel)) ggX2_holders_X2_threeIn
theorem dX2_holders_0 : decode cX2_holders 0 = .ok (.aload_n 0, 1) := by decide +kernel
theorem dX2_holders_1 : decode cX2_holders 1 = .ok (.iload_n 1, 1) := by decide +kernel
theorem dX2_holders_2 : decode cX2_holders 2 = .ok (.iload_n 2, 1) := by decide +kernel
theorem dX2_holders_3 : decode cX2_holders 3 = .ok (.iconst 1, 1) := by decide +kernel
theorem dX2_holders_4 : decode cX2_holders 4 = .ok (.isub, 1) := by decide +kernel
theorem dX2_holders_5 : decode cX2_holders 5 = .ok (.iload_n 3, 1) := by decide +kernel
theorem dX2_holders_6 : decode cX2_holders 6 = .ok (.invokevirtual 34, 3) := by decide +kernel
theorem dX2_holders_9 : decode cX2_holders 9 = .ok (.ireturn, 1) := by decide +kernel
set_option maxRecDepth 20000 in
theorem ggX2_neighbours_X2_threeIn : GoodIn wsX2_neighbours wsX2_threeIn := goodIn_r _ [5, 6, 7, 8, 4, 9, 10, 11, 12, 13, 14, 15, 16, 17, 18, 19, 20, 21, 22] (by decide +kernel) (by decide +kernel)
set_option maxRecDepth 20000 in
theorem gX2_neighbours_X2_threeIn : GoodIn wsX2_neighbours (wsV RX2 34 RX2 yX2_threeIn wsX2_threeIn) := goodIn_app (goodIn_of _ (by decide +kernel)) ggX2_neighbours_X2_threeIn
set_option maxRecDepth 20000 in
theorem ggX2_neighbours_X2_leafAt : GoodIn wsX2_neighbours wsX2_leafAt := goodIn_r _ [9, 10, 11, 12, 13, 4, 14, 15, 16, 17, 18, 19, 20, 21, 22] (by decide +kernel) (by decide +kernel)
set_option maxRecDepth 20000 in
theorem gX2_neighbours_X2_leafAt : GoodIn wsX2_neighbours (wsV RX2 30 RX2 yX2_leafAt wsX2_leafAt) := goodIn_app (goodIn_of _ (by decide +kernel)) ggX2_neighbours_X2_leafAt
theorem dX2_neighbours_0 : decode cX2_neighbours 0 = .ok (.aload_n 0, 1) := by decide +kernel
theorem dX2_neighbours_1 : decode cX2_neighbours 1 = .ok (.iload_n 1, 1) := by decide +kernel
theorem dX2_neighbours_2 : decode cX2_neighbours 2 = .ok (.iload_n 2, 1) := by decide +kernel
theorem dX2_neighbours_3 : decode cX2_neighbours 3 = .ok (.iconst 1, 1) := by decide +kernel
theorem dX2_neighbours_4 : decode cX2_neighbours 4 = .ok (.isub, 1) := by decide +kernel
theorem dX2_neighbours_5 : decode cX2_neighbours 5 = .ok (.iload_n 3, 1) := by decide +kernel
theorem dX2_neighbours_6 : decode cX2_neighbours 6 = .ok (.invokevirtual 34, 3) := by decide +kernel
theorem dX2_neighbours_9 : decode cX2_neighbours 9 = .ok (.aload_n 0, 1) := by decide +kernel
theorem dX2_neighbours_10 : decode cX2_neighbours 10 = .ok (.iload_n 1, 1) := by decide +kernel
theorem dX2_neighbours_11 : decode cX2_neighbours 11 = .ok (.iload_n 2, 1) := by decide +kernel
theorem dX2_neighbours_12 : decode cX2_neighbours 12 = .ok (.iconst 1, 1) := by decide +kernel
theorem dX2_neighbours_13 : decode cX2_neighbours 13 = .ok (.iadd, 1) := by decide +kernel
theorem dX2_neighbours_14 : decode cX2_neighbours 14 = .ok (.iload_n 3, 1) := by decide +kernel
theorem dX2_neighbours_15 : decode cX2_neighbours 15 = .ok (.invokevirtual 34, 3) := by decide +kernel
theorem dX2_neighbours_18 : decode cX2_neighbours 18 = .ok (.iadd, 1) := by decide +kernel
theorem dX2_neighbours_19 : decode cX2_neighbours 19 = .ok (.aload_n 0, 1) := by decide +kernel
theorem dX2_neighbours_20 : decode cX2_neighbours 20 = .ok (.iload_n 1, 1) := by decide +kernel
theorem dX2_neighbours_21 : decode cX2_neighbours 21 = .ok (.iload_n 2, 1) := by decide +kernel
theorem dX2_neighbours_22 : decode cX2_neighbours 22 = .ok (.iload_n 3, 1) := by decide +kernel
theorem dX2_neighbours_23 : decode cX2_neighbours 23 = .ok (.iconst 1, 1) := by decide +kernel
theorem dX2_neighbours_24 : decode cX2_neighbours 24 = .ok (.isub, 1) := by decide +kernel
theorem dX2_neighbours_25 : decode cX2_neighbours 25 = .ok (.invokevirtual 30, 3) := by decide +kernel
theorem dX2_neighbours_28 : decode cX2_neighbours 28 = .ok (.iadd, 1) := by decide +kernel
theorem dX2_neighbours_29 : decode cX2_neighbours 29 = .ok (.aload_n 0, 1) := by decide +kernel
theorem dX2_neighbours_30 : decode cX2_neighbours 30 = .ok (.iload_n 1, 1) := by decide +kernel
theorem dX2_neighbours_31 : decode cX2_neighbours 31 = .ok (.iload_n 2, 1) := by decide +kernel
theorem dX2_neighbours_32 : decode cX2_neighbours 32 = .ok (.iload_n 3, 1) := by decide +kernel
theorem dX2_neighbours_33 : decode cX2_neighbours 33 = .ok (.iconst 1, 1) := by decide +kernel
theorem dX2_neighbours_34 : decode cX2_neighbours 34 = .ok (.iadd, 1) := by decide +kernel
theorem dX2_neighbours_35 : decode cX2_neighbours 35 = .ok (.invokevirtual 30, 3) := by decide +kernel
theorem dX2_neighbours_38 : decode cX2_neighbours 38 = .ok (.iadd, 1) := by decide +kernel
theorem dX2_neighbours_39 : decode cX2_neighbours 39 = .ok (.ireturn, 1) := by decide +kernel
set_option maxRecDepth 20000 in
theorem ggX2_inColumn_X2_leafAt : GoodIn wsX2_inColumn wsX2_leafAt := goodIn_r _ [5, 6, 7, 8, 9, 4, 10, 15, 16, 17, 18, 19, 20, 21, 22] (by decide +kernel) (by decide +kernel)
set_option maxRecDepth 20000 in
theorem gX2_inColumn_X2_leafAt : GoodIn wsX2_inColumn (wsV RX2 30 RX2 yX2_leafAt wsX2_leafAt) := goodIn_app (goodIn_of _ (by decide +kernel)) ggX2_inColumn_X2_leafAt
set_option maxRecDepth 20000 in
theorem ggX2_inColumn_X2_shade : GoodIn wsX2_inColumn wsX2_shade := goodIn_r _ [14, 1, 2, 3, 4, 5, 6, 7, 8, 9, 10, 15, 16, 17, 18, 19, 20, 21, 22] (by decide +kernel) (by decide +kernel)
set_option maxRecDepth 20000 in
theorem gX2_inColumn_X2_shade : GoodIn wsX2_inColumn (wsV RX2 37 RX2 yX2_shade wsX2_shade) := goodIn_app (goodIn_of _ (by decide +kernel)) ggX2_inColumn_X2_shade
theorem dX2_inColumn_0 : decode cX2_inColumn 0 = .ok (.aload_n 0, 1) := by decide +kernel
theorem dX2_inColumn_1 : decode cX2_inColumn 1 = .ok (.iload_n 1, 1) := by decide +kernel
theorem dX2_inColumn_2 : decode cX2_inColumn 2 = .ok (.iconst 0, 1) := by decide +kernel
theorem dX2_inColumn_3 : decode cX2_inColumn 3 = .ok (.iload_n 2, 1) := by decide +kernel
theorem dX2_inColumn_4 : decode cX2_inColumn 4 = .ok (.invokevirtual 30, 3) := by decide +kernel
theorem dX2_inColumn_7 : decode cX2_inColumn 7 = .ok (.aload_n 0, 1) := by decide +kernel
theorem dX2_inColumn_8 : decode cX2_inColumn 8 = .ok (.iload_n 1, 1) := by decide +kernel
theorem dX2_inColumn_9 : decode cX2_inColumn 9 = .ok (.iconst 0, 1) := by decide +kernel
theorem dX2_inColumn_10 : decode cX2_inColumn 10 = .ok (.iload_n 2, 1) := by decide +kernel
theorem dX2_inColumn_11 : decode cX2_inColumn 11 = .ok (.invokevirtual 37, 3) := by decide +kernel
theorem dX2_inColumn_14 : decode cX2_inColumn 14 = .ok (.iadd, 1) := by decide +kernel
theorem dX2_inColumn_15 : decode cX2_inColumn 15 = .ok (.ireturn, 1) := by decide +kernel
set_option maxRecDepth 20000 in
theorem ggX2_allLeaves_X2_inColumn : GoodIn wsX2_allLeaves wsX2_inColumn := goodIn_r _ [5, 6, 7, 8, 4, 9, 10, 11, 12, 13, 14, 15, 16, 17, 18, 19, 20, 21, 22, 23, 24, 25, 26] (by decide +kernel) (by decide +kernel)
set_option maxRecDepth 20000 in
theorem gX2_allLeaves_X2_inColumn : GoodIn wsX2_allLeaves (wsV RX2 40 RX2 yX2_inColumn wsX2_inColumn) := goodIn_app (goodIn_of _ (by decide +kernel)) ggX2_allLeaves_X2_inColumn
end
section
theorem dX2_allLeaves_0 : decode cX2_allLeaves 0 = .ok (.iconst 0, 1) := by decide +kernel
theorem dX2_allLeaves_1 : decode cX2_allLeaves 1 = .ok (.istore_n 2, 1) := by decide +kernel
theorem dX2_allLeaves_2 : decode cX2_allLeaves 2 = .ok (.iconst 0, 1) := by decide +kernel
theorem dX2_allLeaves_3 : decode cX2_allLeaves 3 = .ok (.istore_n 3, 1) := by decide +kernel
theorem dX2_allLeaves_4 : decode cX2_allLeaves 4 = .ok (.iload_n 3, 1) := by decide +kernel
theorem dX2_allLeaves_5 : decode cX2_allLeaves 5 = .ok (.bipush 12, 2) := by decide +kernel
theorem dX2_allLeaves_7 : decode cX2_allLeaves 7 = .ok (.if_icmp .ge 18, 3) := by decide +kernel
theorem dX2_allLeaves_10 : decode cX2_allLeaves 10 = .ok (.iload_n 2, 1) := by decide +kernel
theorem dX2_allLeaves_11 : decode cX2_allLeaves 11 = .ok (.aload_n 0, 1) := by decide +kernel
theorem dX2_allLeaves_12 : decode cX2_allLeaves 12 = .ok (.iload_n 1, 1) := by decide +kernel
theorem dX2_allLeaves_13 : decode cX2_allLeaves 13 = .ok (.iload_n 3, 1) := by decide +kernel
theorem dX2_allLeaves_14 : decode cX2_allLeaves 14 = .ok (.invokevirtual 40, 3) := by decide +kernel
theorem dX2_allLeaves_17 : decode cX2_allLeaves 17 = .ok (.iadd, 1) := by decide +kernel
theorem dX2_allLeaves_18 : decode cX2_allLeaves 18 = .ok (.istore_n 2, 1) := by decide +kernel
theorem dX2_allLeaves_19 : decode cX2_allLeaves 19 = .ok (.iinc 3 1, 3) := by decide +kernel
theorem dX2_allLeaves_22 : decode cX2_allLeaves 22 = .ok (.goto (-18), 3) := by decide +kernel
theorem dX2_allLeaves_25 : decode cX2_allLeaves 25 = .ok (.iload_n 2, 1) := by decide +kernel
theorem dX2_allLeaves_26 : decode cX2_allLeaves 26 = .ok (.ireturn, 1) := by decide +kernel
set_option maxRecDepth 20000 in
theorem ggX2_allLit_X2_inColumn : GoodIn wsX2_allLit wsX2_inColumn := goodIn_r _ [5, 6, 7, 8, 4, 9, 10, 11, 12, 13, 14, 15, 16, 17, 18, 19, 20, 21, 22, 23, 24, 25, 26] (by decide +kernel) (by decide +kernel)
set_option maxRecDepth 20000 in
theorem gX2_allLit_X2_inColumn : GoodIn wsX2_allLit (wsV RX2 40 RX2 yX2_inColumn wsX2_inColumn) := goodIn_app (goodIn_of _ (by decide +kernel)) ggX2_allLit_X2_inColumn
theorem dX2_allLit_0 : decode cX2_allLit 0 = .ok (.iconst 0, 1) := by decide +kernel
theorem dX2_allLit_1 : decode cX2_allLit 1 = .ok (.istore_n 2, 1) := by decide +kernel
theorem dX2_allLit_2 : decode cX2_allLit 2 = .ok (.iconst 0, 1) := by decide +kernel
theorem dX2_allLit_3 : decode cX2_allLit 3 = .ok (.istore_n 3, 1) := by decide +kernel
theorem dX2_allLit_4 : decode cX2_allLit 4 = .ok (.iload_n 3, 1) := by decide +kernel
theorem dX2_allLit_5 : decode cX2_allLit 5 = .ok (.bipush 12, 2) := by decide +kernel
theorem dX2_allLit_7 : decode cX2_allLit 7 = .ok (.if_icmp .ge 26, 3) := by decide +kernel
theorem dX2_allLit_10 : decode cX2_allLit 10 = .ok (.iload_n 2, 1) := by decide +kernel
theorem dX2_allLit_11 : decode cX2_allLit 11 = .ok (.aload_n 0, 1) := by decide +kernel
theorem dX2_allLit_12 : decode cX2_allLit 12 = .ok (.iload_n 1, 1) := by decide +kernel
theorem dX2_allLit_13 : decode cX2_allLit 13 = .ok (.iload_n 3, 1) := by decide +kernel
theorem dX2_allLit_14 : decode cX2_allLit 14 = .ok (.invokevirtual 40, 3) := by decide +kernel
theorem dX2_allLit_17 : decode cX2_allLit 17 = .ok (.ifCond .le 7, 3) := by decide +kernel
theorem dX2_allLit_20 : decode cX2_allLit 20 = .ok (.iconst 1, 1) := by decide +kernel
theorem dX2_allLit_21 : decode cX2_allLit 21 = .ok (.goto 4, 3) := by decide +kernel
theorem dX2_allLit_24 : decode cX2_allLit 24 = .ok (.iconst 0, 1) := by decide +kernel
theorem dX2_allLit_25 : decode cX2_allLit 25 = .ok (.iadd, 1) := by decide +kernel
theorem dX2_allLit_26 : decode cX2_allLit 26 = .ok (.istore_n 2, 1) := by decide +kernel
theorem dX2_allLit_27 : decode cX2_allLit 27 = .ok (.iinc 3 1, 3) := by decide +kernel
theorem dX2_allLit_30 : decode cX2_allLit 30 = .ok (.goto (-26), 3) := by decide +kernel
theorem dX2_allLit_33 : decode cX2_allLit 33 = .ok (.iload_n 2, 1) := by decide +kernel
theorem dX2_allLit_34 : decode cX2_allLit 34 = .ok (.ireturn, 1) := by decide +kernel
set_option maxRecDepth 20000 in
theorem ggX2_becomes_X2_holders : GoodIn wsX2_becomes wsX2_holders := goodIn_r _ [6, 7, 8, 9, 5, 10, 11, 12, 13, 14, 15, 1, 16, 17, 18, 27, 28, 29, 30, 31, 32, 33, 34] (by decide +kernel) (by decide +kernel)
set_option maxRecDepth 20000 in
theorem gX2_becomes_X2_holders : GoodIn wsX2_becomes (wsV RX2 44 RX2 yX2_holders wsX2_holders) := goodIn_app (goodIn_of _ (by decide +kernel)) ggX2_becomes_X2_holders
set_option maxRecDepth 20000 in
theorem ggX2_becomes_X2_neighbours : GoodIn wsX2_becomes wsX2_neighbours := goodIn_r _ [22, 7, 8, 9, 5, 10, 11, 12, 13, 14, 15, 1, 16, 17, 18, 27, 28, 29, 30, 31, 32, 33, 34] (by decide +kernel) (by decide +kernel)
set_option maxRecDepth 20000 in
theorem gX2_becomes_X2_neighbours : GoodIn wsX2_becomes (wsV RX2 47 RX2 yX2_neighbours wsX2_neighbours) := goodIn_app (goodIn_of _ (by decide +kernel)) ggX2_becomes_X2_neighbours
set_option maxRecDepth 20000 in
theorem ggX2_becomes_X2_shade : GoodIn wsX2_becomes wsX2_shade := goodIn_r _ [26, 11, 12, 13, 5, 14, 15, 1, 16, 17, 18, 27, 28, 29, 30, 31, 32, 33, 34] (by decide +kernel) (by decide +kernel)
set_option maxRecDepth 20000 in
theorem gX2_becomes_X2_shade : GoodIn wsX2_becomes (wsV RX2 37 RX2 yX2_shade wsX2_shade) := goodIn_app (goodIn_of _ (by decide +kernel)) ggX2_becomes_X2_shade
theorem dX2_becomes_0 : decode cX2_becomes 0 = .ok (.aload_n 0, 1) := by decide +kernel
theorem dX2_becomes_1 : decode cX2_becomes 1 = .ok (.getfield 7, 3) := by decide +kernel
theorem dX2_becomes_4 : decode cX2_becomes 4 = .ok (.bipush 96, 2) := by decide +kernel
theorem dX2_becomes_6 : decode cX2_becomes 6 = .ok (.iload_n 1, 1) := by decide +kernel
theorem dX2_becomes_7 : decode cX2_becomes 7 = .ok (.imul, 1) := by decide +kernel
theorem dX2_becomes_8 : decode cX2_becomes 8 = .ok (.bipush 12, 2) := by decide +kernel
theorem dX2_becomes_10 : decode cX2_becomes 10 = .ok (.iload_n 2, 1) := by decide +kernel
theorem dX2_becomes_11 : decode cX2_becomes 11 = .ok (.imul, 1) := by decide +kernel
theorem dX2_becomes_12 : decode cX2_becomes 12 = .ok (.iadd, 1) := by decide +kernel
theorem dX2_becomes_13 : decode cX2_becomes 13 = .ok (.iload_n 3, 1) := by decide +kernel
theorem dX2_becomes_14 : decode cX2_becomes 14 = .ok (.iadd, 1) := by decide +kernel
theorem dX2_becomes_15 : decode cX2_becomes 15 = .ok (.iaload, 1) := by decide +kernel
theorem dX2_becomes_16 : decode cX2_becomes 16 = .ok (.istore 4, 2) := by decide +kernel
theorem dX2_becomes_18 : decode cX2_becomes 18 = .ok (.iload 4, 2) := by decide +kernel
theorem dX2_becomes_20 : decode cX2_becomes 20 = .ok (.iconst 2, 1) := by decide +kernel
theorem dX2_becomes_21 : decode cX2_becomes 21 = .ok (.if_icmp .eq 7, 3) := by decide +kernel
theorem dX2_becomes_24 : decode cX2_becomes 24 = .ok (.iload_n 2, 1) := by decide +kernel
theorem dX2_becomes_25 : decode cX2_becomes 25 = .ok (.ifCond .ne 15, 3) := by decide +kernel
theorem dX2_becomes_28 : decode cX2_becomes 28 = .ok (.iload 4, 2) := by decide +kernel
theorem dX2_becomes_30 : decode cX2_becomes 30 = .ok (.iconst 1, 1) := by decide +kernel
theorem dX2_becomes_31 : decode cX2_becomes 31 = .ok (.if_icmp .ne 7, 3) := by decide +kernel
theorem dX2_becomes_34 : decode cX2_becomes 34 = .ok (.iconst 1, 1) := by decide +kernel
theorem dX2_becomes_35 : decode cX2_becomes 35 = .ok (.goto 4, 3) := by decide +kernel
theorem dX2_becomes_38 : decode cX2_becomes 38 = .ok (.iconst 0, 1) := by decide +kernel
theorem dX2_becomes_39 : decode cX2_becomes 39 = .ok (.ireturn, 1) := by decide +kernel
theorem dX2_becomes_40 : decode cX2_becomes 40 = .ok (.aload_n 0, 1) := by decide +kernel
theorem dX2_becomes_41 : decode cX2_becomes 41 = .ok (.iload_n 1, 1) := by decide +kernel
theorem dX2_becomes_42 : decode cX2_becomes 42 = .ok (.iload_n 2, 1) := by decide +kernel
theorem dX2_becomes_43 : decode cX2_becomes 43 = .ok (.iload_n 3, 1) := by decide +kernel
theorem dX2_becomes_44 : decode cX2_becomes 44 = .ok (.invokevirtual 44, 3) := by decide +kernel
theorem dX2_becomes_47 : decode cX2_becomes 47 = .ok (.istore 5, 2) := by decide +kernel
theorem dX2_becomes_49 : decode cX2_becomes 49 = .ok (.aload_n 0, 1) := by decide +kernel
theorem dX2_becomes_50 : decode cX2_becomes 50 = .ok (.iload_n 1, 1) := by decide +kernel
theorem dX2_becomes_51 : decode cX2_becomes 51 = .ok (.iload_n 2, 1) := by decide +kernel
theorem dX2_becomes_52 : decode cX2_becomes 52 = .ok (.iload_n 3, 1) := by decide +kernel
theorem dX2_becomes_53 : decode cX2_becomes 53 = .ok (.invokevirtual 47, 3) := by decide +kernel
theorem dX2_becomes_56 : decode cX2_becomes 56 = .ok (.istore 6, 2) := by decide +kernel
theorem dX2_becomes_58 : decode cX2_becomes 58 = .ok (.aload_n 0, 1) := by decide +kernel
theorem dX2_becomes_59 : decode cX2_becomes 59 = .ok (.iload_n 1, 1) := by decide +kernel
theorem dX2_becomes_60 : decode cX2_becomes 60 = .ok (.iload_n 2, 1) := by decide +kernel
theorem dX2_becomes_61 : decode cX2_becomes 61 = .ok (.iload_n 3, 1) := by decide +kernel
theorem dX2_becomes_62 : decode cX2_becomes 62 = .ok (.invokevirtual 37, 3) := by decide +kernel
theorem dX2_becomes_65 : decode cX2_becomes 65 = .ok (.istore 7, 2) := by decide +kernel
theorem dX2_becomes_67 : decode cX2_becomes 67 = .ok (.iload 4, 2) := by decide +kernel
theorem dX2_becomes_69 : decode cX2_becomes 69 = .ok (.ifCond .ne 33, 3) := by decide +kernel
theorem dX2_becomes_72 : decode cX2_becomes 72 = .ok (.iload 5, 2) := by decide +kernel
theorem dX2_becomes_74 : decode cX2_becomes 74 = .ok (.iconst 1, 1) := by decide +kernel
theorem dX2_becomes_75 : decode cX2_becomes 75 = .ok (.if_icmp .eq 9, 3) := by decide +kernel
theorem dX2_becomes_78 : decode cX2_becomes 78 = .ok (.iload 5, 2) := by decide +kernel
theorem dX2_becomes_80 : decode cX2_becomes 80 = .ok (.iconst 2, 1) := by decide +kernel
theorem dX2_becomes_81 : decode cX2_becomes 81 = .ok (.if_icmp .ne 19, 3) := by decide +kernel
theorem dX2_becomes_84 : decode cX2_becomes 84 = .ok (.iload 6, 2) := by decide +kernel
theorem dX2_becomes_86 : decode cX2_becomes 86 = .ok (.iconst 3, 1) := by decide +kernel
theorem dX2_becomes_87 : decode cX2_becomes 87 = .ok (.if_icmp .gt 13, 3) := by decide +kernel
theorem dX2_becomes_90 : decode cX2_becomes 90 = .ok (.iload 7, 2) := by decide +kernel
theorem dX2_becomes_92 : decode cX2_becomes 92 = .ok (.iconst 2, 1) := by decide +kernel
theorem dX2_becomes_93 : decode cX2_becomes 93 = .ok (.if_icmp .gt 7, 3) := by decide +kernel
theorem dX2_becomes_96 : decode cX2_becomes 96 = .ok (.iconst 1, 1) := by decide +kernel
theorem dX2_becomes_97 : decode cX2_becomes 97 = .ok (.goto 4, 3) := by decide +kernel
theorem dX2_becomes_100 : decode cX2_becomes 100 = .ok (.iconst 0, 1) := by decide +kernel
theorem dX2_becomes_101 : decode cX2_becomes 101 = .ok (.ireturn, 1) := by decide +kernel
theorem dX2_becomes_102 : decode cX2_becomes 102 = .ok (.iload 5, 2) := by decide +kernel
theorem dX2_becomes_104 : decode cX2_becomes 104 = .ok (.ifCond .eq 15, 3) := by decide +kernel
theorem dX2_becomes_107 : decode cX2_becomes 107 = .ok (.iload 6, 2) := by decide +kernel
theorem dX2_becomes_109 : decode cX2_becomes 109 = .ok (.iconst 5, 1) := by decide +kernel
theorem dX2_becomes_110 : decode cX2_becomes 110 = .ok (.if_icmp .gt 9, 3) := by decide +kernel
theorem dX2_becomes_113 : decode cX2_becomes 113 = .ok (.iload 7, 2) := by decide +kernel
theorem dX2_becomes_115 : decode cX2_becomes 115 = .ok (.iconst 4, 1) := by decide +kernel
theorem dX2_becomes_116 : decode cX2_becomes 116 = .ok (.if_icmp .le 7, 3) := by decide +kernel
theorem dX2_becomes_119 : decode cX2_becomes 119 = .ok (.iconst 0, 1) := by decide +kernel
theorem dX2_becomes_120 : decode cX2_becomes 120 = .ok (.goto 4, 3) := by decide +kernel
theorem dX2_becomes_123 : decode cX2_becomes 123 = .ok (.iconst 1, 1) := by decide +kernel
theorem dX2_becomes_124 : decode cX2_becomes 124 = .ok (.ireturn, 1) := by decide +kernel
set_option maxRecDepth 20000 in
theorem ggX2_breaks_X2_inColumn : GoodIn wsX2_breaks wsX2_inColumn := goodIn_r _ [7, 8, 9, 10, 6, 11, 12, 2, 13, 14, 15, 16, 17, 18, 19, 20, 21, 22, 23, 24, 25, 26, 27] (by decide +kernel) (by decide +kernel)
set_option maxRecDepth 20000 in
theorem gX2_breaks_X2_inColumn : GoodIn wsX2_breaks (wsV RX2 40 RX2 yX2_inColumn wsX2_inColumn) := goodIn_app (goodIn_of _ (by decide +kernel)) ggX2_breaks_X2_inColumn
set_option maxRecDepth 20000 in
theorem ggX2_breaks_X2_leafAt : GoodIn wsX2_breaks wsX2_leafAt := goodIn_r _ [11, 12, 2, 13, 14, 6, 15, 20, 21, 22, 23, 24, 25, 26, 27] (by decide +kernel) (by decide +kernel)
set_option maxRecDepth 20000 in
theorem gX2_breaks_X2_leafAt : GoodIn wsX2_breaks (wsV RX2 30 RX2 yX2_leafAt wsX2_leafAt) := goodIn_app (goodIn_of _ (by decide +kernel)) ggX2_breaks_X2_leafAt
theorem dX2_breaks_0 : decode cX2_breaks 0 = .ok (.iconst 0, 1) := by decide +kernel
theorem dX2_breaks_1 : decode cX2_breaks 1 = .ok (.istore_n 2, 1) := by decide +kernel
theorem dX2_breaks_2 : decode cX2_breaks 2 = .ok (.iconst 0, 1) := by decide +kernel
theorem dX2_breaks_3 : decode cX2_breaks 3 = .ok (.istore_n 3, 1) := by decide +kernel
theorem dX2_breaks_4 : decode cX2_breaks 4 = .ok (.iload_n 3, 1) := by decide +kernel
theorem dX2_breaks_5 : decode cX2_breaks 5 = .ok (.bipush 12, 2) := by decide +kernel
theorem dX2_breaks_7 : decode cX2_breaks 7 = .ok (.if_icmp .ge 80, 3) := by decide +kernel
theorem dX2_breaks_10 : decode cX2_breaks 10 = .ok (.aload_n 0, 1) := by decide +kernel
theorem dX2_breaks_11 : decode cX2_breaks 11 = .ok (.iload_n 1, 1) := by decide +kernel
theorem dX2_breaks_12 : decode cX2_breaks 12 = .ok (.iload_n 3, 1) := by decide +kernel
theorem dX2_breaks_13 : decode cX2_breaks 13 = .ok (.invokevirtual 40, 3) := by decide +kernel
theorem dX2_breaks_16 : decode cX2_breaks 16 = .ok (.aload_n 0, 1) := by decide +kernel
theorem dX2_breaks_17 : decode cX2_breaks 17 = .ok (.getfield 13, 3) := by decide +kernel
theorem dX2_breaks_20 : decode cX2_breaks 20 = .ok (.iload_n 3, 1) := by decide +kernel
theorem dX2_breaks_21 : decode cX2_breaks 21 = .ok (.iaload, 1) := by decide +kernel
theorem dX2_breaks_22 : decode cX2_breaks 22 = .ok (.isub, 1) := by decide +kernel
theorem dX2_breaks_23 : decode cX2_breaks 23 = .ok (.istore 4, 2) := by decide +kernel
theorem dX2_breaks_25 : decode cX2_breaks 25 = .ok (.bipush 7, 2) := by decide +kernel
theorem dX2_breaks_27 : decode cX2_breaks 27 = .ok (.istore 5, 2) := by decide +kernel
theorem dX2_breaks_29 : decode cX2_breaks 29 = .ok (.iload 5, 2) := by decide +kernel
theorem dX2_breaks_31 : decode cX2_breaks 31 = .ok (.ifCond .lt 50, 3) := by decide +kernel
theorem dX2_breaks_34 : decode cX2_breaks 34 = .ok (.iload 4, 2) := by decide +kernel
theorem dX2_breaks_36 : decode cX2_breaks 36 = .ok (.ifCond .le 45, 3) := by decide +kernel
theorem dX2_breaks_39 : decode cX2_breaks 39 = .ok (.aload_n 0, 1) := by decide +kernel
theorem dX2_breaks_40 : decode cX2_breaks 40 = .ok (.iload_n 1, 1) := by decide +kernel
theorem dX2_breaks_41 : decode cX2_breaks 41 = .ok (.iload 5, 2) := by decide +kernel
theorem dX2_breaks_43 : decode cX2_breaks 43 = .ok (.iload_n 3, 1) := by decide +kernel
theorem dX2_breaks_44 : decode cX2_breaks 44 = .ok (.invokevirtual 30, 3) := by decide +kernel
theorem dX2_breaks_47 : decode cX2_breaks 47 = .ok (.iconst 1, 1) := by decide +kernel
theorem dX2_breaks_48 : decode cX2_breaks 48 = .ok (.if_icmp .ne 27, 3) := by decide +kernel
theorem dX2_breaks_51 : decode cX2_breaks 51 = .ok (.aload_n 0, 1) := by decide +kernel
theorem dX2_breaks_52 : decode cX2_breaks 52 = .ok (.getfield 7, 3) := by decide +kernel
theorem dX2_breaks_55 : decode cX2_breaks 55 = .ok (.bipush 96, 2) := by decide +kernel
theorem dX2_breaks_57 : decode cX2_breaks 57 = .ok (.iload_n 1, 1) := by decide +kernel
theorem dX2_breaks_58 : decode cX2_breaks 58 = .ok (.imul, 1) := by decide +kernel
theorem dX2_breaks_59 : decode cX2_breaks 59 = .ok (.bipush 12, 2) := by decide +kernel
theorem dX2_breaks_61 : decode cX2_breaks 61 = .ok (.iload 5, 2) := by decide +kernel
theorem dX2_breaks_63 : decode cX2_breaks 63 = .ok (.imul, 1) := by decide +kernel
theorem dX2_breaks_64 : decode cX2_breaks 64 = .ok (.iadd, 1) := by decide +kernel
theorem dX2_breaks_65 : decode cX2_breaks 65 = .ok (.iload_n 3, 1) := by decide +kernel
theorem dX2_breaks_66 : decode cX2_breaks 66 = .ok (.iadd, 1) := by decide +kernel
theorem dX2_breaks_67 : decode cX2_breaks 67 = .ok (.iconst 0, 1) := by decide +kernel
theorem dX2_breaks_68 : decode cX2_breaks 68 = .ok (.iastore, 1) := by decide +kernel
theorem dX2_breaks_69 : decode cX2_breaks 69 = .ok (.iinc 4 (-1), 3) := by decide +kernel
theorem dX2_breaks_72 : decode cX2_breaks 72 = .ok (.iinc 2 1, 3) := by decide +kernel
theorem dX2_breaks_75 : decode cX2_breaks 75 = .ok (.iinc 5 (-1), 3) := by decide +kernel
theorem dX2_breaks_78 : decode cX2_breaks 78 = .ok (.goto (-49), 3) := by decide +kernel
theorem dX2_breaks_81 : decode cX2_breaks 81 = .ok (.iinc 3 1, 3) := by decide +kernel
theorem dX2_breaks_84 : decode cX2_breaks 84 = .ok (.goto (-80), 3) := by decide +kernel
theorem dX2_breaks_87 : decode cX2_breaks 87 = .ok (.iload_n 2, 1) := by decide +kernel
theorem dX2_breaks_88 : decode cX2_breaks 88 = .ok (.ireturn, 1) := by decide +kernel
set_option maxRecDepth 20000 in
theorem ggX2_grows_X2_becomes : GoodIn wsX2_grows wsX2_becomes := goodIn_r _ [6, 1, 7, 8, 9, 5, 10, 11, 12, 13, 14, 15, 16, 17, 18, 19, 20, 21, 22, 23, 24, 25, 26, 27, 28, 29, 30, 40, 41, 42, 43, 44, 45, 46, 47] (by decide +kernel) (by decide +kernel)
set_option maxRecDepth 20000 in
theorem gX2_grows_X2_becomes : GoodIn wsX2_grows (wsV RX2 50 RX2 yX2_becomes wsX2_becomes) := goodIn_app (goodIn_of _ (by decide +kernel)) ggX2_grows_X2_becomes
set_option maxRecDepth 20000 in
theorem ggX2_grows_X2_breaks : GoodIn wsX2_grows wsX2_breaks := goodIn_r _ [34, 35, 1, 36, 37, 38, 5, 39, 15, 16, 17, 18, 19, 20, 21, 22, 27, 28, 29, 30, 40, 41, 42, 43, 44, 45, 46, 47] (by decide +kernel) (by decide +kernel)
set_option maxRecDepth 20000 in
theorem gX2_grows_X2_breaks : GoodIn wsX2_grows (wsV RX2 53 RX2 yX2_breaks wsX2_breaks) := goodIn_app (goodIn_of _ (by decide +kernel)) ggX2_grows_X2_breaks
theorem dX2_grows_0 : decode cX2_grows 0 = .ok (.iconst 0, 1) := by decide +kernel
theorem dX2_grows_1 : decode cX2_grows 1 = .ok (.istore_n 3, 1) := by decide +kernel
theorem dX2_grows_2 : decode cX2_grows 2 = .ok (.iload_n 3, 1) := by decide +kernel
theorem dX2_grows_3 : decode cX2_grows 3 = .ok (.bipush 8, 2) := by decide +kernel
theorem dX2_grows_5 : decode cX2_grows 5 = .ok (.if_icmp .ge 50, 3) := by decide +kernel
theorem dX2_grows_8 : decode cX2_grows 8 = .ok (.iconst 0, 1) := by decide +kernel
theorem dX2_grows_9 : decode cX2_grows 9 = .ok (.istore 4, 2) := by decide +kernel
theorem dX2_grows_11 : decode cX2_grows 11 = .ok (.iload 4, 2) := by decide +kernel
theorem dX2_grows_13 : decode cX2_grows 13 = .ok (.bipush 12, 2) := by decide +kernel
theorem dX2_grows_15 : decode cX2_grows 15 = .ok (.if_icmp .ge 34, 3) := by decide +kernel
theorem dX2_grows_18 : decode cX2_grows 18 = .ok (.aload_n 0, 1) := by decide +kernel
theorem dX2_grows_19 : decode cX2_grows 19 = .ok (.getfield 7, 3) := by decide +kernel
theorem dX2_grows_22 : decode cX2_grows 22 = .ok (.bipush 96, 2) := by decide +kernel
theorem dX2_grows_24 : decode cX2_grows 24 = .ok (.iload_n 2, 1) := by decide +kernel
theorem dX2_grows_25 : decode cX2_grows 25 = .ok (.imul, 1) := by decide +kernel
theorem dX2_grows_26 : decode cX2_grows 26 = .ok (.bipush 12, 2) := by decide +kernel
theorem dX2_grows_28 : decode cX2_grows 28 = .ok (.iload_n 3, 1) := by decide +kernel
theorem dX2_grows_29 : decode cX2_grows 29 = .ok (.imul, 1) := by decide +kernel
theorem dX2_grows_30 : decode cX2_grows 30 = .ok (.iadd, 1) := by decide +kernel
theorem dX2_grows_31 : decode cX2_grows 31 = .ok (.iload 4, 2) := by decide +kernel
theorem dX2_grows_33 : decode cX2_grows 33 = .ok (.iadd, 1) := by decide +kernel
theorem dX2_grows_34 : decode cX2_grows 34 = .ok (.aload_n 0, 1) := by decide +kernel
theorem dX2_grows_35 : decode cX2_grows 35 = .ok (.iload_n 1, 1) := by decide +kernel
theorem dX2_grows_36 : decode cX2_grows 36 = .ok (.iload_n 3, 1) := by decide +kernel
theorem dX2_grows_37 : decode cX2_grows 37 = .ok (.iload 4, 2) := by decide +kernel
theorem dX2_grows_39 : decode cX2_grows 39 = .ok (.invokevirtual 50, 3) := by decide +kernel
theorem dX2_grows_42 : decode cX2_grows 42 = .ok (.iastore, 1) := by decide +kernel
theorem dX2_grows_43 : decode cX2_grows 43 = .ok (.iinc 4 1, 3) := by decide +kernel
theorem dX2_grows_46 : decode cX2_grows 46 = .ok (.goto (-35), 3) := by decide +kernel
theorem dX2_grows_49 : decode cX2_grows 49 = .ok (.iinc 3 1, 3) := by decide +kernel
theorem dX2_grows_52 : decode cX2_grows 52 = .ok (.goto (-50), 3) := by decide +kernel
theorem dX2_grows_55 : decode cX2_grows 55 = .ok (.aload_n 0, 1) := by decide +kernel
theorem dX2_grows_56 : decode cX2_grows 56 = .ok (.iload_n 2, 1) := by decide +kernel
theorem dX2_grows_57 : decode cX2_grows 57 = .ok (.invokevirtual 53, 3) := by decide +kernel
theorem dX2_grows_60 : decode cX2_grows 60 = .ok (.ireturn, 1) := by decide +kernel
theorem dX2_copies_0 : decode cX2_copies 0 = .ok (.iconst 0, 1) := by decide +kernel
theorem dX2_copies_1 : decode cX2_copies 1 = .ok (.istore_n 3, 1) := by decide +kernel
theorem dX2_copies_2 : decode cX2_copies 2 = .ok (.iload_n 3, 1) := by decide +kernel
theorem dX2_copies_3 : decode cX2_copies 3 = .ok (.bipush 96, 2) := by decide +kernel
theorem dX2_copies_5 : decode cX2_copies 5 = .ok (.if_icmp .ge 31, 3) := by decide +kernel
theorem dX2_copies_8 : decode cX2_copies 8 = .ok (.aload_n 0, 1) := by decide +kernel
theorem dX2_copies_9 : decode cX2_copies 9 = .ok (.getfield 7, 3) := by decide +kernel
theorem dX2_copies_12 : decode cX2_copies 12 = .ok (.bipush 96, 2) := by decide +kernel
theorem dX2_copies_14 : decode cX2_copies 14 = .ok (.iload_n 2, 1) := by decide +kernel
theorem dX2_copies_15 : decode cX2_copies 15 = .ok (.imul, 1) := by decide +kernel
theorem dX2_copies_16 : decode cX2_copies 16 = .ok (.iload_n 3, 1) := by decide +kernel
theorem dX2_copies_17 : decode cX2_copies 17 = .ok (.iadd, 1) := by decide +kernel
theorem dX2_copies_18 : decode cX2_copies 18 = .ok (.aload_n 0, 1) := by decide +kernel
theorem dX2_copies_19 : decode cX2_copies 19 = .ok (.getfield 7, 3) := by decide +kernel
theorem dX2_copies_22 : decode cX2_copies 22 = .ok (.bipush 96, 2) := by decide +kernel
theorem dX2_copies_24 : decode cX2_copies 24 = .ok (.iload_n 1, 1) := by decide +kernel
theorem dX2_copies_25 : decode cX2_copies 25 = .ok (.imul, 1) := by decide +kernel
theorem dX2_copies_26 : decode cX2_copies 26 = .ok (.iload_n 3, 1) := by decide +kernel
theorem dX2_copies_27 : decode cX2_copies 27 = .ok (.iadd, 1) := by decide +kernel
theorem dX2_copies_28 : decode cX2_copies 28 = .ok (.iaload, 1) := by decide +kernel
theorem dX2_copies_29 : decode cX2_copies 29 = .ok (.iastore, 1) := by decide +kernel
theorem dX2_copies_30 : decode cX2_copies 30 = .ok (.iinc 3 1, 3) := by decide +kernel
theorem dX2_copies_33 : decode cX2_copies 33 = .ok (.goto (-31), 3) := by decide +kernel
theorem dX2_copies_36 : decode cX2_copies 36 = .ok (.return_, 1) := by decide +kernel
theorem dX2_sides_0 : decode cX2_sides 0 = .ok (.aload_n 0, 1) := by decide +kernel
theorem dX2_sides_1 : decode cX2_sides 1 = .ok (.iload_n 1, 1) := by decide +kernel
theorem dX2_sides_2 : decode cX2_sides 2 = .ok (.ifCond .lt 8, 3) := by decide +kernel
theorem dX2_sides_5 : decode cX2_sides 5 = .ok (.iload_n 1, 1) := by decide +kernel
theorem dX2_sides_6 : decode cX2_sides 6 = .ok (.iconst 2, 1) := by decide +kernel
theorem dX2_sides_7 : decode cX2_sides 7 = .ok (.if_icmp .le 7, 3) := by decide +kernel
theorem dX2_sides_10 : decode cX2_sides 10 = .ok (.iconst 1, 1) := by decide +kernel
theorem dX2_sides_11 : decode cX2_sides 11 = .ok (.goto 15, 3) := by decide +kernel
theorem dX2_sides_14 : decode cX2_sides 14 = .ok (.aload_n 0, 1) := by decide +kernel
theorem dX2_sides_15 : decode cX2_sides 15 = .ok (.getfield 57, 3) := by decide +kernel
theorem dX2_sides_18 : decode cX2_sides 18 = .ok (.ifCond .le 7, 3) := by decide +kernel
theorem dX2_sides_21 : decode cX2_sides 21 = .ok (.iconst 2, 1) := by decide +kernel
theorem dX2_sides_22 : decode cX2_sides 22 = .ok (.goto 4, 3) := by decide +kernel
theorem dX2_sides_25 : decode cX2_sides 25 = .ok (.iconst 0, 1) := by decide +kernel
theorem dX2_sides_26 : decode cX2_sides 26 = .ok (.putfield 20, 3) := by decide +kernel
theorem dX2_sides_29 : decode cX2_sides 29 = .ok (.aload_n 0, 1) := by decide +kernel
theorem dX2_sides_30 : decode cX2_sides 30 = .ok (.aload_n 0, 1) := by decide +kernel
theorem dX2_sides_31 : decode cX2_sides 31 = .ok (.getfield 20, 3) := by decide +kernel
theorem dX2_sides_34 : decode cX2_sides 34 = .ok (.ifCond .ne 7, 3) := by decide +kernel
theorem dX2_sides_37 : decode cX2_sides 37 = .ok (.iload_n 1, 1) := by decide +kernel
theorem dX2_sides_38 : decode cX2_sides 38 = .ok (.goto 7, 3) := by decide +kernel
theorem dX2_sides_41 : decode cX2_sides 41 = .ok (.aload_n 0, 1) := by decide +kernel
theorem dX2_sides_42 : decode cX2_sides 42 = .ok (.getfield 27, 3) := by decide +kernel
theorem dX2_sides_45 : decode cX2_sides 45 = .ok (.putfield 27, 3) := by decide +kernel
theorem dX2_sides_48 : decode cX2_sides 48 = .ok (.return_, 1) := by decide +kernel
set_option maxRecDepth 20000 in
theorem ggX2_plant_X2_isColumn : GoodIn wsX2_plant wsX2_isColumn := goodIn_r _ [7] (by decide +kernel) (by decide +kernel)
set_option maxRecDepth 20000 in
theorem gX2_plant_X2_isColumn : GoodIn wsX2_plant (va_wsS RX2 23 yX2_isColumn wsX2_isColumn) := goodIn_app (goodIn_of _ (by decide +kernel)) ggX2_plant_X2_isColumn
theorem dX2_plant_0 : decode cX2_plant 0 = .ok (.aload_n 0, 1) := by decide +kernel
theorem dX2_plant_1 : decode cX2_plant 1 = .ok (.iload_n 1, 1) := by decide +kernel
theorem dX2_plant_2 : decode cX2_plant 2 = .ok (.invokestatic 23, 3) := by decide +kernel
theorem dX2_plant_5 : decode cX2_plant 5 = .ok (.ifCond .ne 7, 3) := by decide +kernel
theorem dX2_plant_8 : decode cX2_plant 8 = .ok (.iconst 1, 1) := by decide +kernel
theorem dX2_plant_9 : decode cX2_plant 9 = .ok (.goto 25, 3) := by decide +kernel
theorem dX2_plant_12 : decode cX2_plant 12 = .ok (.aload_n 0, 1) := by decide +kernel
theorem dX2_plant_13 : decode cX2_plant 13 = .ok (.getfield 7, 3) := by decide +kernel
theorem dX2_plant_16 : decode cX2_plant 16 = .ok (.iload_n 1, 1) := by decide +kernel
theorem dX2_plant_17 : decode cX2_plant 17 = .ok (.iaload, 1) := by decide +kernel
theorem dX2_plant_18 : decode cX2_plant 18 = .ok (.ifCond .ne 11, 3) := by decide +kernel
theorem dX2_plant_21 : decode cX2_plant 21 = .ok (.aload_n 0, 1) := by decide +kernel
theorem dX2_plant_22 : decode cX2_plant 22 = .ok (.getfield 60, 3) := by decide +kernel
theorem dX2_plant_25 : decode cX2_plant 25 = .ok (.iconst 4, 1) := by decide +kernel
theorem dX2_plant_26 : decode cX2_plant 26 = .ok (.if_icmp .ne 7, 3) := by decide +kernel
theorem dX2_plant_29 : decode cX2_plant 29 = .ok (.iconst 2, 1) := by decide +kernel
theorem dX2_plant_30 : decode cX2_plant 30 = .ok (.goto 4, 3) := by decide +kernel
theorem dX2_plant_33 : decode cX2_plant 33 = .ok (.iconst 0, 1) := by decide +kernel
theorem dX2_plant_34 : decode cX2_plant 34 = .ok (.putfield 20, 3) := by decide +kernel
theorem dX2_plant_37 : decode cX2_plant 37 = .ok (.aload_n 0, 1) := by decide +kernel
theorem dX2_plant_38 : decode cX2_plant 38 = .ok (.getfield 20, 3) := by decide +kernel
theorem dX2_plant_41 : decode cX2_plant 41 = .ok (.ifCond .ne 20, 3) := by decide +kernel
theorem dX2_plant_44 : decode cX2_plant 44 = .ok (.aload_n 0, 1) := by decide +kernel
theorem dX2_plant_45 : decode cX2_plant 45 = .ok (.getfield 7, 3) := by decide +kernel
theorem dX2_plant_48 : decode cX2_plant 48 = .ok (.iload_n 1, 1) := by decide +kernel
theorem dX2_plant_49 : decode cX2_plant 49 = .ok (.iconst 1, 1) := by decide +kernel
theorem dX2_plant_50 : decode cX2_plant 50 = .ok (.iastore, 1) := by decide +kernel
theorem dX2_plant_51 : decode cX2_plant 51 = .ok (.aload_n 0, 1) := by decide +kernel
theorem dX2_plant_52 : decode cX2_plant 52 = .ok (.dup, 1) := by decide +kernel
theorem dX2_plant_53 : decode cX2_plant 53 = .ok (.getfield 60, 3) := by decide +kernel
theorem dX2_plant_56 : decode cX2_plant 56 = .ok (.iconst 1, 1) := by decide +kernel
theorem dX2_plant_57 : decode cX2_plant 57 = .ok (.iadd, 1) := by decide +kernel
theorem dX2_plant_58 : decode cX2_plant 58 = .ok (.putfield 60, 3) := by decide +kernel
theorem dX2_plant_61 : decode cX2_plant 61 = .ok (.return_, 1) := by decide +kernel
set_option maxRecDepth 20000 in
theorem ggX2_trellis_X2_isColumn : GoodIn wsX2_trellis wsX2_isColumn := goodIn_r _ [6] (by decide +kernel) (by decide +kernel)
set_option maxRecDepth 20000 in
theorem gX2_trellis_X2_isColumn : GoodIn wsX2_trellis (va_wsS RX2 23 yX2_isColumn wsX2_isColumn) := goodIn_app (goodIn_of _ (by decide +kernel)) ggX2_trellis_X2_isColumn
theorem dX2_trellis_0 : decode cX2_trellis 0 = .ok (.aload_n 0, 1) := by decide +kernel
theorem dX2_trellis_1 : decode cX2_trellis 1 = .ok (.iload_n 1, 1) := by decide +kernel
theorem dX2_trellis_2 : decode cX2_trellis 2 = .ok (.invokestatic 23, 3) := by decide +kernel
theorem dX2_trellis_5 : decode cX2_trellis 5 = .ok (.ifCond .ne 7, 3) := by decide +kernel
theorem dX2_trellis_8 : decode cX2_trellis 8 = .ok (.iconst 1, 1) := by decide +kernel
theorem dX2_trellis_9 : decode cX2_trellis 9 = .ok (.goto 19, 3) := by decide +kernel
theorem dX2_trellis_12 : decode cX2_trellis 12 = .ok (.iload_n 2, 1) := by decide +kernel
theorem dX2_trellis_13 : decode cX2_trellis 13 = .ok (.iconst 1, 1) := by decide +kernel
theorem dX2_trellis_14 : decode cX2_trellis 14 = .ok (.if_icmp .lt 9, 3) := by decide +kernel
theorem dX2_trellis_17 : decode cX2_trellis 17 = .ok (.iload_n 2, 1) := by decide +kernel
theorem dX2_trellis_18 : decode cX2_trellis 18 = .ok (.bipush 8, 2) := by decide +kernel
theorem dX2_trellis_20 : decode cX2_trellis 20 = .ok (.if_icmp .le 7, 3) := by decide +kernel
theorem dX2_trellis_23 : decode cX2_trellis 23 = .ok (.iconst 2, 1) := by decide +kernel
theorem dX2_trellis_24 : decode cX2_trellis 24 = .ok (.goto 4, 3) := by decide +kernel
theorem dX2_trellis_27 : decode cX2_trellis 27 = .ok (.iconst 0, 1) := by decide +kernel
theorem dX2_trellis_28 : decode cX2_trellis 28 = .ok (.putfield 20, 3) := by decide +kernel
theorem dX2_trellis_31 : decode cX2_trellis 31 = .ok (.aload_n 0, 1) := by decide +kernel
theorem dX2_trellis_32 : decode cX2_trellis 32 = .ok (.getfield 20, 3) := by decide +kernel
theorem dX2_trellis_35 : decode cX2_trellis 35 = .ok (.ifCond .eq 5, 3) := by decide +kernel
theorem dX2_trellis_38 : decode cX2_trellis 38 = .ok (.iconst 0, 1) := by decide +kernel
theorem dX2_trellis_39 : decode cX2_trellis 39 = .ok (.ireturn, 1) := by decide +kernel
theorem dX2_trellis_40 : decode cX2_trellis 40 = .ok (.aload_n 0, 1) := by decide +kernel
theorem dX2_trellis_41 : decode cX2_trellis 41 = .ok (.getfield 13, 3) := by decide +kernel
theorem dX2_trellis_44 : decode cX2_trellis 44 = .ok (.iload_n 1, 1) := by decide +kernel
theorem dX2_trellis_45 : decode cX2_trellis 45 = .ok (.iaload, 1) := by decide +kernel
theorem dX2_trellis_46 : decode cX2_trellis 46 = .ok (.istore_n 3, 1) := by decide +kernel
theorem dX2_trellis_47 : decode cX2_trellis 47 = .ok (.aload_n 0, 1) := by decide +kernel
theorem dX2_trellis_48 : decode cX2_trellis 48 = .ok (.getfield 13, 3) := by decide +kernel
theorem dX2_trellis_51 : decode cX2_trellis 51 = .ok (.iload_n 1, 1) := by decide +kernel
theorem dX2_trellis_52 : decode cX2_trellis 52 = .ok (.iload_n 2, 1) := by decide +kernel
theorem dX2_trellis_53 : decode cX2_trellis 53 = .ok (.iastore, 1) := by decide +kernel
theorem dX2_trellis_54 : decode cX2_trellis 54 = .ok (.iload_n 3, 1) := by decide +kernel
theorem dX2_trellis_55 : decode cX2_trellis 55 = .ok (.ireturn, 1) := by decide +kernel
set_option maxRecDepth 20000 in
theorem ggX2_cut_X2_isCell : GoodIn wsX2_cut wsX2_isCell := goodIn_r _ [7, 8, 9, 6, 10] (by decide +kernel) (by decide +kernel)
set_option maxRecDepth 20000 in
theorem gX2_cut_X2_isCell : GoodIn wsX2_cut (va_wsS RX2 63 yX2_isCell wsX2_isCell) := goodIn_app (goodIn_of _ (by decide +kernel)) ggX2_cut_X2_isCell
theorem dX2_cut_0 : decode cX2_cut 0 = .ok (.aload_n 0, 1) := by decide +kernel
theorem dX2_cut_1 : decode cX2_cut 1 = .ok (.iload_n 1, 1) := by decide +kernel
theorem dX2_cut_2 : decode cX2_cut 2 = .ok (.iload_n 2, 1) := by decide +kernel
theorem dX2_cut_3 : decode cX2_cut 3 = .ok (.invokestatic 63, 3) := by decide +kernel
theorem dX2_cut_6 : decode cX2_cut 6 = .ok (.ifCond .ne 7, 3) := by decide +kernel
theorem dX2_cut_9 : decode cX2_cut 9 = .ok (.iconst 1, 1) := by decide +kernel
theorem dX2_cut_10 : decode cX2_cut 10 = .ok (.goto 30, 3) := by decide +kernel
theorem dX2_cut_13 : decode cX2_cut 13 = .ok (.aload_n 0, 1) := by decide +kernel
theorem dX2_cut_14 : decode cX2_cut 14 = .ok (.getfield 7, 3) := by decide +kernel
theorem dX2_cut_17 : decode cX2_cut 17 = .ok (.bipush 12, 2) := by decide +kernel
theorem dX2_cut_19 : decode cX2_cut 19 = .ok (.iload_n 1, 1) := by decide +kernel
theorem dX2_cut_20 : decode cX2_cut 20 = .ok (.imul, 1) := by decide +kernel
theorem dX2_cut_21 : decode cX2_cut 21 = .ok (.iload_n 2, 1) := by decide +kernel
theorem dX2_cut_22 : decode cX2_cut 22 = .ok (.iadd, 1) := by decide +kernel
theorem dX2_cut_23 : decode cX2_cut 23 = .ok (.iaload, 1) := by decide +kernel
theorem dX2_cut_24 : decode cX2_cut 24 = .ok (.iconst 1, 1) := by decide +kernel
theorem dX2_cut_25 : decode cX2_cut 25 = .ok (.if_icmp .ne 10, 3) := by decide +kernel
theorem dX2_cut_28 : decode cX2_cut 28 = .ok (.aload_n 0, 1) := by decide +kernel
theorem dX2_cut_29 : decode cX2_cut 29 = .ok (.getfield 16, 3) := by decide +kernel
theorem dX2_cut_32 : decode cX2_cut 32 = .ok (.ifCond .ne 7, 3) := by decide +kernel
theorem dX2_cut_35 : decode cX2_cut 35 = .ok (.iconst 2, 1) := by decide +kernel
theorem dX2_cut_36 : decode cX2_cut 36 = .ok (.goto 4, 3) := by decide +kernel
theorem dX2_cut_39 : decode cX2_cut 39 = .ok (.iconst 0, 1) := by decide +kernel
theorem dX2_cut_40 : decode cX2_cut 40 = .ok (.putfield 20, 3) := by decide +kernel
theorem dX2_cut_43 : decode cX2_cut 43 = .ok (.aload_n 0, 1) := by decide +kernel
theorem dX2_cut_44 : decode cX2_cut 44 = .ok (.getfield 20, 3) := by decide +kernel
theorem dX2_cut_47 : decode cX2_cut 47 = .ok (.ifCond .eq 5, 3) := by decide +kernel
theorem dX2_cut_50 : decode cX2_cut 50 = .ok (.iconst 0, 1) := by decide +kernel
theorem dX2_cut_51 : decode cX2_cut 51 = .ok (.ireturn, 1) := by decide +kernel
theorem dX2_cut_52 : decode cX2_cut 52 = .ok (.aload_n 0, 1) := by decide +kernel
theorem dX2_cut_53 : decode cX2_cut 53 = .ok (.getfield 7, 3) := by decide +kernel
theorem dX2_cut_56 : decode cX2_cut 56 = .ok (.bipush 12, 2) := by decide +kernel
theorem dX2_cut_58 : decode cX2_cut 58 = .ok (.iload_n 1, 1) := by decide +kernel
theorem dX2_cut_59 : decode cX2_cut 59 = .ok (.imul, 1) := by decide +kernel
theorem dX2_cut_60 : decode cX2_cut 60 = .ok (.iload_n 2, 1) := by decide +kernel
theorem dX2_cut_61 : decode cX2_cut 61 = .ok (.iadd, 1) := by decide +kernel
theorem dX2_cut_62 : decode cX2_cut 62 = .ok (.iconst 2, 1) := by decide +kernel
theorem dX2_cut_63 : decode cX2_cut 63 = .ok (.iastore, 1) := by decide +kernel
theorem dX2_cut_64 : decode cX2_cut 64 = .ok (.aload_n 0, 1) := by decide +kernel
theorem dX2_cut_65 : decode cX2_cut 65 = .ok (.dup, 1) := by decide +kernel
theorem dX2_cut_66 : decode cX2_cut 66 = .ok (.getfield 16, 3) := by decide +kernel
theorem dX2_cut_69 : decode cX2_cut 69 = .ok (.iconst 1, 1) := by decide +kernel
theorem dX2_cut_70 : decode cX2_cut 70 = .ok (.isub, 1) := by decide +kernel
theorem dX2_cut_71 : decode cX2_cut 71 = .ok (.putfield 16, 3) := by decide +kernel
theorem dX2_cut_74 : decode cX2_cut 74 = .ok (.aload_n 0, 1) := by decide +kernel
theorem dX2_cut_75 : decode cX2_cut 75 = .ok (.getfield 16, 3) := by decide +kernel
theorem dX2_cut_78 : decode cX2_cut 78 = .ok (.ireturn, 1) := by decide +kernel
set_option maxRecDepth 20000 in
theorem ggX2_grow_X2_allLeaves : GoodIn wsX2_grow wsX2_allLeaves := goodIn_r _ [9, 10, 11, 12, 8, 13, 14, 15, 16, 17, 18, 19, 20, 21, 22, 23, 24, 25, 26, 56, 57, 58, 59, 60, 61, 62, 63] (by decide +kernel) (by decide +kernel)
set_option maxRecDepth 20000 in
theorem gX2_grow_X2_allLeaves : GoodIn wsX2_grow (wsV RX2 67 RX2 yX2_allLeaves wsX2_allLeaves) := goodIn_app (goodIn_of _ (by decide +kernel)) ggX2_grow_X2_allLeaves
set_option maxRecDepth 20000 in
theorem ggX2_grow_X2_grows : GoodIn wsX2_grow wsX2_grows := goodIn_r _ [30, 19, 31, 32, 33, 8, 34, 35, 36, 37, 38, 39, 40, 41, 42, 14, 15, 16, 17, 18, 20, 21, 22, 43, 44, 45, 46, 23, 24, 25, 26, 47, 48, 49, 50, 51, 10, 11, 12, 13, 56, 57, 58, 59, 60, 61, 62, 63] (by decide +kernel) (by decide +kernel)
set_option maxRecDepth 20000 in
theorem gX2_grow_X2_grows : GoodIn wsX2_grow (wsV RX2 73 RX2 yX2_grows wsX2_grows) := goodIn_app (goodIn_of _ (by decide +kernel)) ggX2_grow_X2_grows
set_option maxRecDepth 20000 in
theorem ggX2_grow_X2_copies : GoodIn wsX2_grow wsX2_copies := goodIn_r _ [55, 19, 56, 57, 58, 59, 60, 61, 62, 63] (by decide +kernel) (by decide +kernel)
set_option maxRecDepth 20000 in
theorem gX2_grow_X2_copies : GoodIn wsX2_grow (wsV RX2 76 RX2 yX2_copies wsX2_copies) := goodIn_app (goodIn_of _ (by decide +kernel)) ggX2_grow_X2_copies
theorem dX2_grow_0 : decode cX2_grow 0 = .ok (.aload_n 0, 1) := by decide +kernel
theorem dX2_grow_1 : decode cX2_grow 1 = .ok (.aload_n 0, 1) := by decide +kernel
theorem dX2_grow_2 : decode cX2_grow 2 = .ok (.getfield 57, 3) := by decide +kernel
theorem dX2_grow_5 : decode cX2_grow 5 = .ok (.bipush 60, 2) := by decide +kernel
theorem dX2_grow_7 : decode cX2_grow 7 = .ok (.if_icmp .ne 7, 3) := by decide +kernel
theorem dX2_grow_10 : decode cX2_grow 10 = .ok (.iconst 1, 1) := by decide +kernel
theorem dX2_grow_11 : decode cX2_grow 11 = .ok (.goto 4, 3) := by decide +kernel
theorem dX2_grow_14 : decode cX2_grow 14 = .ok (.iconst 0, 1) := by decide +kernel
theorem dX2_grow_15 : decode cX2_grow 15 = .ok (.putfield 20, 3) := by decide +kernel
theorem dX2_grow_18 : decode cX2_grow 18 = .ok (.aload_n 0, 1) := by decide +kernel
theorem dX2_grow_19 : decode cX2_grow 19 = .ok (.getfield 20, 3) := by decide +kernel
theorem dX2_grow_22 : decode cX2_grow 22 = .ok (.ifCond .eq 5, 3) := by decide +kernel
theorem dX2_grow_25 : decode cX2_grow 25 = .ok (.iconst 0, 1) := by decide +kernel
theorem dX2_grow_26 : decode cX2_grow 26 = .ok (.ireturn, 1) := by decide +kernel
theorem dX2_grow_27 : decode cX2_grow 27 = .ok (.aload_n 0, 1) := by decide +kernel
theorem dX2_grow_28 : decode cX2_grow 28 = .ok (.iconst 0, 1) := by decide +kernel
theorem dX2_grow_29 : decode cX2_grow 29 = .ok (.invokevirtual 67, 3) := by decide +kernel
theorem dX2_grow_32 : decode cX2_grow 32 = .ok (.istore_n 1, 1) := by decide +kernel
theorem dX2_grow_33 : decode cX2_grow 33 = .ok (.aload_n 0, 1) := by decide +kernel
theorem dX2_grow_34 : decode cX2_grow 34 = .ok (.dup, 1) := by decide +kernel
theorem dX2_grow_35 : decode cX2_grow 35 = .ok (.getfield 70, 3) := by decide +kernel
theorem dX2_grow_38 : decode cX2_grow 38 = .ok (.aload_n 0, 1) := by decide +kernel
theorem dX2_grow_39 : decode cX2_grow 39 = .ok (.iconst 0, 1) := by decide +kernel
theorem dX2_grow_40 : decode cX2_grow 40 = .ok (.iconst 1, 1) := by decide +kernel
theorem dX2_grow_41 : decode cX2_grow 41 = .ok (.invokevirtual 73, 3) := by decide +kernel
theorem dX2_grow_44 : decode cX2_grow 44 = .ok (.iadd, 1) := by decide +kernel
theorem dX2_grow_45 : decode cX2_grow 45 = .ok (.putfield 70, 3) := by decide +kernel
theorem dX2_grow_48 : decode cX2_grow 48 = .ok (.aload_n 0, 1) := by decide +kernel
theorem dX2_grow_49 : decode cX2_grow 49 = .ok (.iconst 1, 1) := by decide +kernel
theorem dX2_grow_50 : decode cX2_grow 50 = .ok (.iconst 0, 1) := by decide +kernel
theorem dX2_grow_51 : decode cX2_grow 51 = .ok (.invokevirtual 76, 3) := by decide +kernel
theorem dX2_grow_54 : decode cX2_grow 54 = .ok (.aload_n 0, 1) := by decide +kernel
theorem dX2_grow_55 : decode cX2_grow 55 = .ok (.dup, 1) := by decide +kernel
theorem dX2_grow_56 : decode cX2_grow 56 = .ok (.getfield 57, 3) := by decide +kernel
theorem dX2_grow_59 : decode cX2_grow 59 = .ok (.iconst 1, 1) := by decide +kernel
theorem dX2_grow_60 : decode cX2_grow 60 = .ok (.iadd, 1) := by decide +kernel
theorem dX2_grow_61 : decode cX2_grow 61 = .ok (.putfield 57, 3) := by decide +kernel
theorem dX2_grow_64 : decode cX2_grow 64 = .ok (.aload_n 0, 1) := by decide +kernel
theorem dX2_grow_65 : decode cX2_grow 65 = .ok (.iconst 3, 1) := by decide +kernel
theorem dX2_grow_66 : decode cX2_grow 66 = .ok (.putfield 16, 3) := by decide +kernel
theorem dX2_grow_69 : decode cX2_grow 69 = .ok (.aload_n 0, 1) := by decide +kernel
theorem dX2_grow_70 : decode cX2_grow 70 = .ok (.iconst 0, 1) := by decide +kernel
theorem dX2_grow_71 : decode cX2_grow 71 = .ok (.invokevirtual 67, 3) := by decide +kernel
theorem dX2_grow_74 : decode cX2_grow 74 = .ok (.iload_n 1, 1) := by decide +kernel
theorem dX2_grow_75 : decode cX2_grow 75 = .ok (.isub, 1) := by decide +kernel
theorem dX2_grow_76 : decode cX2_grow 76 = .ok (.ireturn, 1) := by decide +kernel
theorem dX2_clear_0 : decode cX2_clear 0 = .ok (.aload_n 0, 1) := by decide +kernel
theorem dX2_clear_1 : decode cX2_clear 1 = .ok (.iconst 0, 1) := by decide +kernel
theorem dX2_clear_2 : decode cX2_clear 2 = .ok (.putfield 20, 3) := by decide +kernel
theorem dX2_clear_5 : decode cX2_clear 5 = .ok (.iconst 0, 1) := by decide +kernel
theorem dX2_clear_6 : decode cX2_clear 6 = .ok (.istore_n 1, 1) := by decide +kernel
theorem dX2_clear_7 : decode cX2_clear 7 = .ok (.iload_n 1, 1) := by decide +kernel
theorem dX2_clear_8 : decode cX2_clear 8 = .ok (.bipush 96, 2) := by decide +kernel
theorem dX2_clear_10 : decode cX2_clear 10 = .ok (.if_icmp .ge 16, 3) := by decide +kernel
theorem dX2_clear_13 : decode cX2_clear 13 = .ok (.aload_n 0, 1) := by decide +kernel
theorem dX2_clear_14 : decode cX2_clear 14 = .ok (.getfield 7, 3) := by decide +kernel
theorem dX2_clear_17 : decode cX2_clear 17 = .ok (.iload_n 1, 1) := by decide +kernel
theorem dX2_clear_18 : decode cX2_clear 18 = .ok (.iconst 0, 1) := by decide +kernel
theorem dX2_clear_19 : decode cX2_clear 19 = .ok (.iastore, 1) := by decide +kernel
theorem dX2_clear_20 : decode cX2_clear 20 = .ok (.iinc 1 1, 3) := by decide +kernel
theorem dX2_clear_23 : decode cX2_clear 23 = .ok (.goto (-16), 3) := by decide +kernel
theorem dX2_clear_26 : decode cX2_clear 26 = .ok (.aload_n 0, 1) := by decide +kernel
theorem dX2_clear_27 : decode cX2_clear 27 = .ok (.iconst 0, 1) := by decide +kernel
theorem dX2_clear_28 : decode cX2_clear 28 = .ok (.putfield 57, 3) := by decide +kernel
theorem dX2_clear_31 : decode cX2_clear 31 = .ok (.aload_n 0, 1) := by decide +kernel
theorem dX2_clear_32 : decode cX2_clear 32 = .ok (.iconst 3, 1) := by decide +kernel
theorem dX2_clear_33 : decode cX2_clear 33 = .ok (.putfield 16, 3) := by decide +kernel
theorem dX2_clear_36 : decode cX2_clear 36 = .ok (.aload_n 0, 1) := by decide +kernel
theorem dX2_clear_37 : decode cX2_clear 37 = .ok (.iconst 0, 1) := by decide +kernel
theorem dX2_clear_38 : decode cX2_clear 38 = .ok (.putfield 60, 3) := by decide +kernel
theorem dX2_clear_41 : decode cX2_clear 41 = .ok (.aload_n 0, 1) := by decide +kernel
theorem dX2_clear_42 : decode cX2_clear 42 = .ok (.iconst 0, 1) := by decide +kernel
theorem dX2_clear_43 : decode cX2_clear 43 = .ok (.putfield 70, 3) := by decide +kernel
theorem dX2_clear_46 : decode cX2_clear 46 = .ok (.return_, 1) := by decide +kernel
set_option maxRecDepth 20000 in
theorem ggX2_look_X2_isCell : GoodIn wsX2_look wsX2_isCell := goodIn_r _ [6, 7, 8, 5, 9] (by decide +kernel) (by decide +kernel)
set_option maxRecDepth 20000 in
theorem gX2_look_X2_isCell : GoodIn wsX2_look (va_wsS RX2 63 yX2_isCell wsX2_isCell) := goodIn_app (goodIn_of _ (by decide +kernel)) ggX2_look_X2_isCell
theorem dX2_look_0 : decode cX2_look 0 = .ok (.aload_n 0, 1) := by decide +kernel
theorem dX2_look_1 : decode cX2_look 1 = .ok (.iload_n 1, 1) := by decide +kernel
theorem dX2_look_2 : decode cX2_look 2 = .ok (.iload_n 2, 1) := by decide +kernel
theorem dX2_look_3 : decode cX2_look 3 = .ok (.invokestatic 63, 3) := by decide +kernel
theorem dX2_look_6 : decode cX2_look 6 = .ok (.ifCond .eq 7, 3) := by decide +kernel
theorem dX2_look_9 : decode cX2_look 9 = .ok (.iconst 0, 1) := by decide +kernel
theorem dX2_look_10 : decode cX2_look 10 = .ok (.goto 4, 3) := by decide +kernel
theorem dX2_look_13 : decode cX2_look 13 = .ok (.iconst 1, 1) := by decide +kernel
theorem dX2_look_14 : decode cX2_look 14 = .ok (.putfield 20, 3) := by decide +kernel
theorem dX2_look_17 : decode cX2_look 17 = .ok (.aload_n 0, 1) := by decide +kernel
theorem dX2_look_18 : decode cX2_look 18 = .ok (.getfield 20, 3) := by decide +kernel
theorem dX2_look_21 : decode cX2_look 21 = .ok (.ifCond .ne 17, 3) := by decide +kernel
theorem dX2_look_24 : decode cX2_look 24 = .ok (.aload_n 0, 1) := by decide +kernel
theorem dX2_look_25 : decode cX2_look 25 = .ok (.getfield 7, 3) := by decide +kernel
theorem dX2_look_28 : decode cX2_look 28 = .ok (.bipush 12, 2) := by decide +kernel
theorem dX2_look_30 : decode cX2_look 30 = .ok (.iload_n 1, 1) := by decide +kernel
theorem dX2_look_31 : decode cX2_look 31 = .ok (.imul, 1) := by decide +kernel
theorem dX2_look_32 : decode cX2_look 32 = .ok (.iload_n 2, 1) := by decide +kernel
theorem dX2_look_33 : decode cX2_look 33 = .ok (.iadd, 1) := by decide +kernel
theorem dX2_look_34 : decode cX2_look 34 = .ok (.iaload, 1) := by decide +kernel
theorem dX2_look_35 : decode cX2_look 35 = .ok (.goto 4, 3) := by decide +kernel
theorem dX2_look_38 : decode cX2_look 38 = .ok (.iconst 0, 1) := by decide +kernel
theorem dX2_look_39 : decode cX2_look 39 = .ok (.istore_n 3, 1) := by decide +kernel
theorem dX2_look_40 : decode cX2_look 40 = .ok (.iload_n 3, 1) := by decide +kernel
theorem dX2_look_41 : decode cX2_look 41 = .ok (.iconst 1, 1) := by decide +kernel
theorem dX2_look_42 : decode cX2_look 42 = .ok (.if_icmp .ne 8, 3) := by decide +kernel
theorem dX2_look_45 : decode cX2_look 45 = .ok (.bipush 35, 2) := by decide +kernel
theorem dX2_look_47 : decode cX2_look 47 = .ok (.goto 15, 3) := by decide +kernel
theorem dX2_look_50 : decode cX2_look 50 = .ok (.iload_n 3, 1) := by decide +kernel
theorem dX2_look_51 : decode cX2_look 51 = .ok (.iconst 2, 1) := by decide +kernel
theorem dX2_look_52 : decode cX2_look 52 = .ok (.if_icmp .ne 8, 3) := by decide +kernel
theorem dX2_look_55 : decode cX2_look 55 = .ok (.bipush 120, 2) := by decide +kernel
theorem dX2_look_57 : decode cX2_look 57 = .ok (.goto 5, 3) := by decide +kernel
theorem dX2_look_60 : decode cX2_look 60 = .ok (.bipush 46, 2) := by decide +kernel
theorem dX2_look_62 : decode cX2_look 62 = .ok (.ireturn, 1) := by decide +kernel
set_option maxRecDepth 20000 in
theorem ggX2_shadeOf_X2_isCell : GoodIn wsX2_shadeOf wsX2_isCell := goodIn_r _ [5, 6, 7, 4, 8] (by decide +kernel) (by decide +kernel)
set_option maxRecDepth 20000 in
theorem gX2_shadeOf_X2_isCell : GoodIn wsX2_shadeOf (va_wsS RX2 63 yX2_isCell wsX2_isCell) := goodIn_app (goodIn_of _ (by decide +kernel)) ggX2_shadeOf_X2_isCell
set_option maxRecDepth 20000 in
theorem ggX2_shadeOf_X2_shade : GoodIn wsX2_shadeOf wsX2_shade := goodIn_r _ [12, 13, 14, 15, 4, 16, 17, 18, 6, 7, 8, 19, 20, 21, 22, 23, 24, 25, 26] (by decide +kernel) (by decide +kernel)
set_option maxRecDepth 20000 in
theorem gX2_shadeOf_X2_shade : GoodIn wsX2_shadeOf (wsV RX2 37 RX2 yX2_shade wsX2_shade) := goodIn_app (goodIn_of _ (by decide +kernel)) ggX2_shadeOf_X2_shade
theorem dX2_shadeOf_0 : decode cX2_shadeOf 0 = .ok (.aload_n 0, 1) := by decide +kernel
theorem dX2_shadeOf_1 : decode cX2_shadeOf 1 = .ok (.iload_n 1, 1) := by decide +kernel
theorem dX2_shadeOf_2 : decode cX2_shadeOf 2 = .ok (.iload_n 2, 1) := by decide +kernel
theorem dX2_shadeOf_3 : decode cX2_shadeOf 3 = .ok (.invokestatic 63, 3) := by decide +kernel
theorem dX2_shadeOf_6 : decode cX2_shadeOf 6 = .ok (.ifCond .eq 7, 3) := by decide +kernel
theorem dX2_shadeOf_9 : decode cX2_shadeOf 9 = .ok (.iconst 0, 1) := by decide +kernel
theorem dX2_shadeOf_10 : decode cX2_shadeOf 10 = .ok (.goto 4, 3) := by decide +kernel
theorem dX2_shadeOf_13 : decode cX2_shadeOf 13 = .ok (.iconst 1, 1) := by decide +kernel
theorem dX2_shadeOf_14 : decode cX2_shadeOf 14 = .ok (.putfield 20, 3) := by decide +kernel
theorem dX2_shadeOf_17 : decode cX2_shadeOf 17 = .ok (.aload_n 0, 1) := by decide +kernel
theorem dX2_shadeOf_18 : decode cX2_shadeOf 18 = .ok (.getfield 20, 3) := by decide +kernel
theorem dX2_shadeOf_21 : decode cX2_shadeOf 21 = .ok (.ifCond .ne 13, 3) := by decide +kernel
theorem dX2_shadeOf_24 : decode cX2_shadeOf 24 = .ok (.aload_n 0, 1) := by decide +kernel
theorem dX2_shadeOf_25 : decode cX2_shadeOf 25 = .ok (.iconst 0, 1) := by decide +kernel
theorem dX2_shadeOf_26 : decode cX2_shadeOf 26 = .ok (.iload_n 1, 1) := by decide +kernel
theorem dX2_shadeOf_27 : decode cX2_shadeOf 27 = .ok (.iload_n 2, 1) := by decide +kernel
theorem dX2_shadeOf_28 : decode cX2_shadeOf 28 = .ok (.invokevirtual 37, 3) := by decide +kernel
theorem dX2_shadeOf_31 : decode cX2_shadeOf 31 = .ok (.goto 4, 3) := by decide +kernel
theorem dX2_shadeOf_34 : decode cX2_shadeOf 34 = .ok (.iconst 0, 1) := by decide +kernel
theorem dX2_shadeOf_35 : decode cX2_shadeOf 35 = .ok (.ireturn, 1) := by decide +kernel
set_option maxRecDepth 20000 in
theorem ggX2_holdersOf_X2_isCell : GoodIn wsX2_holdersOf wsX2_isCell := goodIn_r _ [5, 6, 7, 4, 8] (by decide +kernel) (by decide +kernel)
set_option maxRecDepth 20000 in
theorem gX2_holdersOf_X2_isCell : GoodIn wsX2_holdersOf (va_wsS RX2 63 yX2_isCell wsX2_isCell) := goodIn_app (goodIn_of _ (by decide +kernel)) ggX2_holdersOf_X2_isCell
set_option maxRecDepth 20000 in
theorem ggX2_holdersOf_X2_holders : GoodIn wsX2_holdersOf wsX2_holders := goodIn_r _ [12, 13, 14, 15, 4, 16, 17, 18, 19, 20, 21, 22, 6, 7, 8, 23, 24, 25, 26, 27, 28, 29, 30] (by decide +kernel) (by decide +kernel)
set_option maxRecDepth 20000 in
theorem gX2_holdersOf_X2_holders : GoodIn wsX2_holdersOf (wsV RX2 44 RX2 yX2_holders wsX2_holders) := goodIn_app (goodIn_of _ (by decide +kernel)) ggX2_holdersOf_X2_holders
theorem dX2_holdersOf_0 : decode cX2_holdersOf 0 = .ok (.aload_n 0, 1) := by decide +kernel
theorem dX2_holdersOf_1 : decode cX2_holdersOf 1 = .ok (.iload_n 1, 1) := by decide +kernel
theorem dX2_holdersOf_2 : decode cX2_holdersOf 2 = .ok (.iload_n 2, 1) := by decide +kernel
theorem dX2_holdersOf_3 : decode cX2_holdersOf 3 = .ok (.invokestatic 63, 3) := by decide +kernel
theorem dX2_holdersOf_6 : decode cX2_holdersOf 6 = .ok (.ifCond .eq 7, 3) := by decide +kernel
theorem dX2_holdersOf_9 : decode cX2_holdersOf 9 = .ok (.iconst 0, 1) := by decide +kernel
theorem dX2_holdersOf_10 : decode cX2_holdersOf 10 = .ok (.goto 4, 3) := by decide +kernel
theorem dX2_holdersOf_13 : decode cX2_holdersOf 13 = .ok (.iconst 1, 1) := by decide +kernel
theorem dX2_holdersOf_14 : decode cX2_holdersOf 14 = .ok (.putfield 20, 3) := by decide +kernel
theorem dX2_holdersOf_17 : decode cX2_holdersOf 17 = .ok (.aload_n 0, 1) := by decide +kernel
theorem dX2_holdersOf_18 : decode cX2_holdersOf 18 = .ok (.getfield 20, 3) := by decide +kernel
theorem dX2_holdersOf_21 : decode cX2_holdersOf 21 = .ok (.ifCond .ne 13, 3) := by decide +kernel
theorem dX2_holdersOf_24 : decode cX2_holdersOf 24 = .ok (.aload_n 0, 1) := by decide +kernel
theorem dX2_holdersOf_25 : decode cX2_holdersOf 25 = .ok (.iconst 0, 1) := by decide +kernel
theorem dX2_holdersOf_26 : decode cX2_holdersOf 26 = .ok (.iload_n 1, 1) := by decide +kernel
theorem dX2_holdersOf_27 : decode cX2_holdersOf 27 = .ok (.iload_n 2, 1) := by decide +kernel
theorem dX2_holdersOf_28 : decode cX2_holdersOf 28 = .ok (.invokevirtual 44, 3) := by decide +kernel
theorem dX2_holdersOf_31 : decode cX2_holdersOf 31 = .ok (.goto 4, 3) := by decide +kernel
theorem dX2_holdersOf_34 : decode cX2_holdersOf 34 = .ok (.iconst 0, 1) := by decide +kernel
theorem dX2_holdersOf_35 : decode cX2_holdersOf 35 = .ok (.ireturn, 1) := by decide +kernel
set_option maxRecDepth 20000 in
theorem ggX2_neighboursOf_X2_isCell : GoodIn wsX2_neighboursOf wsX2_isCell := goodIn_r _ [5, 6, 7, 4, 8] (by decide +kernel) (by decide +kernel)
set_option maxRecDepth 20000 in
theorem gX2_neighboursOf_X2_isCell : GoodIn wsX2_neighboursOf (va_wsS RX2 63 yX2_isCell wsX2_isCell) := goodIn_app (goodIn_of _ (by decide +kernel)) ggX2_neighboursOf_X2_isCell
set_option maxRecDepth 20000 in
theorem ggX2_neighboursOf_X2_neighbours : GoodIn wsX2_neighboursOf wsX2_neighbours := goodIn_r _ [12, 13, 14, 15, 4, 16, 17, 18, 19, 20, 21, 22, 6, 7, 8, 23, 24, 25, 26, 27, 28, 29, 30] (by decide +kernel) (by decide +kernel)
set_option maxRecDepth 20000 in
theorem gX2_neighboursOf_X2_neighbours : GoodIn wsX2_neighboursOf (wsV RX2 47 RX2 yX2_neighbours wsX2_neighbours) := goodIn_app (goodIn_of _ (by decide +kernel)) ggX2_neighboursOf_X2_neighbours
theorem dX2_neighboursOf_0 : decode cX2_neighboursOf 0 = .ok (.aload_n 0, 1) := by decide +kernel
theorem dX2_neighboursOf_1 : decode cX2_neighboursOf 1 = .ok (.iload_n 1, 1) := by decide +kernel
theorem dX2_neighboursOf_2 : decode cX2_neighboursOf 2 = .ok (.iload_n 2, 1) := by decide +kernel
theorem dX2_neighboursOf_3 : decode cX2_neighboursOf 3 = .ok (.invokestatic 63, 3) := by decide +kernel
theorem dX2_neighboursOf_6 : decode cX2_neighboursOf 6 = .ok (.ifCond .eq 7, 3) := by decide +kernel
theorem dX2_neighboursOf_9 : decode cX2_neighboursOf 9 = .ok (.iconst 0, 1) := by decide +kernel
theorem dX2_neighboursOf_10 : decode cX2_neighboursOf 10 = .ok (.goto 4, 3) := by decide +kernel
theorem dX2_neighboursOf_13 : decode cX2_neighboursOf 13 = .ok (.iconst 1, 1) := by decide +kernel
theorem dX2_neighboursOf_14 : decode cX2_neighboursOf 14 = .ok (.putfield 20, 3) := by decide +kernel
theorem dX2_neighboursOf_17 : decode cX2_neighboursOf 17 = .ok (.aload_n 0, 1) := by decide +kernel
theorem dX2_neighboursOf_18 : decode cX2_neighboursOf 18 = .ok (.getfield 20, 3) := by decide +kernel
theorem dX2_neighboursOf_21 : decode cX2_neighboursOf 21 = .ok (.ifCond .ne 13, 3) := by decide +kernel
theorem dX2_neighboursOf_24 : decode cX2_neighboursOf 24 = .ok (.aload_n 0, 1) := by decide +kernel
theorem dX2_neighboursOf_25 : decode cX2_neighboursOf 25 = .ok (.iconst 0, 1) := by decide +kernel
theorem dX2_neighboursOf_26 : decode cX2_neighboursOf 26 = .ok (.iload_n 1, 1) := by decide +kernel
theorem dX2_neighboursOf_27 : decode cX2_neighboursOf 27 = .ok (.iload_n 2, 1) := by decide +kernel
theorem dX2_neighboursOf_28 : decode cX2_neighboursOf 28 = .ok (.invokevirtual 47, 3) := by decide +kernel
theorem dX2_neighboursOf_31 : decode cX2_neighboursOf 31 = .ok (.goto 4, 3) := by decide +kernel
theorem dX2_neighboursOf_34 : decode cX2_neighboursOf 34 = .ok (.iconst 0, 1) := by decide +kernel
theorem dX2_neighboursOf_35 : decode cX2_neighboursOf 35 = .ok (.ireturn, 1) := by decide +kernel
set_option maxRecDepth 20000 in
theorem ggX2_leavesIn_X2_isColumn : GoodIn wsX2_leavesIn wsX2_isColumn := goodIn_r _ [5] (by decide +kernel) (by decide +kernel)
set_option maxRecDepth 20000 in
theorem gX2_leavesIn_X2_isColumn : GoodIn wsX2_leavesIn (va_wsS RX2 23 yX2_isColumn wsX2_isColumn) := goodIn_app (goodIn_of _ (by decide +kernel)) ggX2_leavesIn_X2_isColumn
set_option maxRecDepth 20000 in
theorem ggX2_leavesIn_X2_inColumn : GoodIn wsX2_leavesIn wsX2_inColumn := goodIn_r _ [9, 10, 11, 12, 4, 13, 14, 15, 2, 3, 5, 16, 17, 18, 19, 20, 21, 22, 23, 24, 25, 26, 27] (by decide +kernel) (by decide +kernel)
set_option maxRecDepth 20000 in
theorem gX2_leavesIn_X2_inColumn : GoodIn wsX2_leavesIn (wsV RX2 40 RX2 yX2_inColumn wsX2_inColumn) := goodIn_app (goodIn_of _ (by decide +kernel)) ggX2_leavesIn_X2_inColumn
theorem dX2_leavesIn_0 : decode cX2_leavesIn 0 = .ok (.aload_n 0, 1) := by decide +kernel
theorem dX2_leavesIn_1 : decode cX2_leavesIn 1 = .ok (.iload_n 1, 1) := by decide +kernel
theorem dX2_leavesIn_2 : decode cX2_leavesIn 2 = .ok (.invokestatic 23, 3) := by decide +kernel
theorem dX2_leavesIn_5 : decode cX2_leavesIn 5 = .ok (.ifCond .eq 7, 3) := by decide +kernel
theorem dX2_leavesIn_8 : decode cX2_leavesIn 8 = .ok (.iconst 0, 1) := by decide +kernel
theorem dX2_leavesIn_9 : decode cX2_leavesIn 9 = .ok (.goto 4, 3) := by decide +kernel
theorem dX2_leavesIn_12 : decode cX2_leavesIn 12 = .ok (.iconst 1, 1) := by decide +kernel
theorem dX2_leavesIn_13 : decode cX2_leavesIn 13 = .ok (.putfield 20, 3) := by decide +kernel
theorem dX2_leavesIn_16 : decode cX2_leavesIn 16 = .ok (.aload_n 0, 1) := by decide +kernel
theorem dX2_leavesIn_17 : decode cX2_leavesIn 17 = .ok (.getfield 20, 3) := by decide +kernel
theorem dX2_leavesIn_20 : decode cX2_leavesIn 20 = .ok (.ifCond .ne 12, 3) := by decide +kernel
theorem dX2_leavesIn_23 : decode cX2_leavesIn 23 = .ok (.aload_n 0, 1) := by decide +kernel
theorem dX2_leavesIn_24 : decode cX2_leavesIn 24 = .ok (.iconst 0, 1) := by decide +kernel
theorem dX2_leavesIn_25 : decode cX2_leavesIn 25 = .ok (.iload_n 1, 1) := by decide +kernel
theorem dX2_leavesIn_26 : decode cX2_leavesIn 26 = .ok (.invokevirtual 40, 3) := by decide +kernel
theorem dX2_leavesIn_29 : decode cX2_leavesIn 29 = .ok (.goto 4, 3) := by decide +kernel
theorem dX2_leavesIn_32 : decode cX2_leavesIn 32 = .ok (.iconst 0, 1) := by decide +kernel
theorem dX2_leavesIn_33 : decode cX2_leavesIn 33 = .ok (.ireturn, 1) := by decide +kernel
set_option maxRecDepth 20000 in
theorem ggX2_leaves_X2_allLeaves : GoodIn wsX2_leaves wsX2_allLeaves := goodIn_r _ [6, 7, 8, 9, 5, 10, 11, 12, 13, 14, 15, 16, 17, 18, 19, 20, 21, 22, 23, 24, 25, 26, 27, 28, 29, 30, 31] (by decide +kernel) (by decide +kernel)
set_option maxRecDepth 20000 in
theorem gX2_leaves_X2_allLeaves : GoodIn wsX2_leaves (wsV RX2 67 RX2 yX2_allLeaves wsX2_allLeaves) := goodIn_app (goodIn_of _ (by decide +kernel)) ggX2_leaves_X2_allLeaves
theorem dX2_leaves_0 : decode cX2_leaves 0 = .ok (.aload_n 0, 1) := by decide +kernel
theorem dX2_leaves_1 : decode cX2_leaves 1 = .ok (.iconst 0, 1) := by decide +kernel
theorem dX2_leaves_2 : decode cX2_leaves 2 = .ok (.putfield 20, 3) := by decide +kernel
theorem dX2_leaves_5 : decode cX2_leaves 5 = .ok (.aload_n 0, 1) := by decide +kernel
theorem dX2_leaves_6 : decode cX2_leaves 6 = .ok (.iconst 0, 1) := by decide +kernel
theorem dX2_leaves_7 : decode cX2_leaves 7 = .ok (.invokevirtual 67, 3) := by decide +kernel
theorem dX2_leaves_10 : decode cX2_leaves 10 = .ok (.ireturn, 1) := by decide +kernel
set_option maxRecDepth 20000 in
theorem ggX2_lit_X2_allLit : GoodIn wsX2_lit wsX2_allLit := goodIn_r _ [6, 7, 8, 9, 5, 10, 11, 12, 13, 14, 15, 16, 17, 18, 19, 20, 21, 22, 23, 24, 25, 26, 27, 28, 29, 30, 31] (by decide +kernel) (by decide +kernel)
set_option maxRecDepth 20000 in
theorem gX2_lit_X2_allLit : GoodIn wsX2_lit (wsV RX2 80 RX2 yX2_allLit wsX2_allLit) := goodIn_app (goodIn_of _ (by decide +kernel)) ggX2_lit_X2_allLit
theorem dX2_lit_0 : decode cX2_lit 0 = .ok (.aload_n 0, 1) := by decide +kernel
theorem dX2_lit_1 : decode cX2_lit 1 = .ok (.iconst 0, 1) := by decide +kernel
theorem dX2_lit_2 : decode cX2_lit 2 = .ok (.putfield 20, 3) := by decide +kernel
theorem dX2_lit_5 : decode cX2_lit 5 = .ok (.aload_n 0, 1) := by decide +kernel
theorem dX2_lit_6 : decode cX2_lit 6 = .ok (.iconst 0, 1) := by decide +kernel
theorem dX2_lit_7 : decode cX2_lit 7 = .ok (.invokevirtual 80, 3) := by decide +kernel
theorem dX2_lit_10 : decode cX2_lit 10 = .ok (.ireturn, 1) := by decide +kernel
theorem dX2_generation_0 : decode cX2_generation 0 = .ok (.aload_n 0, 1) := by decide +kernel
theorem dX2_generation_1 : decode cX2_generation 1 = .ok (.iconst 0, 1) := by decide +kernel
theorem dX2_generation_2 : decode cX2_generation 2 = .ok (.putfield 20, 3) := by decide +kernel
theorem dX2_generation_5 : decode cX2_generation 5 = .ok (.aload_n 0, 1) := by decide +kernel
theorem dX2_generation_6 : decode cX2_generation 6 = .ok (.getfield 57, 3) := by decide +kernel
theorem dX2_generation_9 : decode cX2_generation 9 = .ok (.ireturn, 1) := by decide +kernel
theorem dX2_cutsLeft_0 : decode cX2_cutsLeft 0 = .ok (.aload_n 0, 1) := by decide +kernel
theorem dX2_cutsLeft_1 : decode cX2_cutsLeft 1 = .ok (.iconst 0, 1) := by decide +kernel
theorem dX2_cutsLeft_2 : decode cX2_cutsLeft 2 = .ok (.putfield 20, 3) := by decide +kernel
theorem dX2_cutsLeft_5 : decode cX2_cutsLeft 5 = .ok (.aload_n 0, 1) := by decide +kernel
theorem dX2_cutsLeft_6 : decode cX2_cutsLeft 6 = .ok (.getfield 16, 3) := by decide +kernel
theorem dX2_cutsLeft_9 : decode cX2_cutsLeft 9 = .ok (.ireturn, 1) := by decide +kernel
theorem dX2_broken_0 : decode cX2_broken 0 = .ok (.aload_n 0, 1) := by decide +kernel
theorem dX2_broken_1 : decode cX2_broken 1 = .ok (.iconst 0, 1) := by decide +kernel
theorem dX2_broken_2 : decode cX2_broken 2 = .ok (.putfield 20, 3) := by decide +kernel
theorem dX2_broken_5 : decode cX2_broken 5 = .ok (.aload_n 0, 1) := by decide +kernel
theorem dX2_broken_6 : decode cX2_broken 6 = .ok (.getfield 70, 3) := by decide +kernel
theorem dX2_broken_9 : decode cX2_broken 9 = .ok (.ireturn, 1) := by decide +kernel
set_option maxRecDepth 20000 in
theorem ggX2_leavesNext_X2_grows : GoodIn wsX2_leavesNext wsX2_grows := goodIn_r _ [6, 7, 8, 9, 10, 5, 11, 12, 13, 14, 15, 16, 17, 18, 19, 20, 21, 22, 23, 24, 25, 26, 27, 28, 29, 30, 31, 32, 33, 34, 35, 36, 37, 38, 39, 40, 41, 42, 43, 44, 49, 50, 51, 52, 53, 54, 55, 56] (by decide +kernel) (by decide +kernel)
set_option maxRecDepth 20000 in
theorem gX2_leavesNext_X2_grows : GoodIn wsX2_leavesNext (wsV RX2 73 RX2 yX2_grows wsX2_grows) := goodIn_app (goodIn_of _ (by decide +kernel)) ggX2_leavesNext_X2_grows
set_option maxRecDepth 20000 in
theorem ggX2_leavesNext_X2_allLeaves : GoodIn wsX2_leavesNext wsX2_allLeaves := goodIn_r _ [48, 41, 42, 43, 5, 44, 20, 21, 22, 23, 24, 7, 25, 26, 27, 32, 33, 34, 35, 49, 50, 51, 52, 53, 54, 55, 56] (by decide +kernel) (by decide +kernel)
set_option maxRecDepth 20000 in
theorem gX2_leavesNext_X2_allLeaves : GoodIn wsX2_leavesNext (wsV RX2 67 RX2 yX2_allLeaves wsX2_allLeaves) := goodIn_app (goodIn_of _ (by decide +kernel)) ggX2_leavesNext_X2_allLeaves
theorem dX2_leavesNext_0 : decode cX2_leavesNext 0 = .ok (.aload_n 0, 1) := by decide +kernel
theorem dX2_leavesNext_1 : decode cX2_leavesNext 1 = .ok (.iconst 0, 1) := by decide +kernel
theorem dX2_leavesNext_2 : decode cX2_leavesNext 2 = .ok (.putfield 20, 3) := by decide +kernel
theorem dX2_leavesNext_5 : decode cX2_leavesNext 5 = .ok (.aload_n 0, 1) := by decide +kernel
theorem dX2_leavesNext_6 : decode cX2_leavesNext 6 = .ok (.iconst 0, 1) := by decide +kernel
theorem dX2_leavesNext_7 : decode cX2_leavesNext 7 = .ok (.iconst 1, 1) := by decide +kernel
theorem dX2_leavesNext_8 : decode cX2_leavesNext 8 = .ok (.invokevirtual 73, 3) := by decide +kernel
theorem dX2_leavesNext_11 : decode cX2_leavesNext 11 = .ok (.istore_n 1, 1) := by decide +kernel
theorem dX2_leavesNext_12 : decode cX2_leavesNext 12 = .ok (.aload_n 0, 1) := by decide +kernel
theorem dX2_leavesNext_13 : decode cX2_leavesNext 13 = .ok (.iconst 1, 1) := by decide +kernel
theorem dX2_leavesNext_14 : decode cX2_leavesNext 14 = .ok (.invokevirtual 67, 3) := by decide +kernel
theorem dX2_leavesNext_17 : decode cX2_leavesNext 17 = .ok (.ireturn, 1) := by decide +kernel
theorem dX2_areAlike_0 : decode cX2_areAlike 0 = .ok (.iconst 0, 1) := by decide +kernel
theorem dX2_areAlike_1 : decode cX2_areAlike 1 = .ok (.istore_n 3, 1) := by decide +kernel
theorem dX2_areAlike_2 : decode cX2_areAlike 2 = .ok (.iload_n 3, 1) := by decide +kernel
theorem dX2_areAlike_3 : decode cX2_areAlike 3 = .ok (.bipush 96, 2) := by decide +kernel
theorem dX2_areAlike_5 : decode cX2_areAlike 5 = .ok (.if_icmp .ge 36, 3) := by decide +kernel
theorem dX2_areAlike_8 : decode cX2_areAlike 8 = .ok (.aload_n 0, 1) := by decide +kernel
theorem dX2_areAlike_9 : decode cX2_areAlike 9 = .ok (.getfield 7, 3) := by decide +kernel
theorem dX2_areAlike_12 : decode cX2_areAlike 12 = .ok (.bipush 96, 2) := by decide +kernel
theorem dX2_areAlike_14 : decode cX2_areAlike 14 = .ok (.iload_n 1, 1) := by decide +kernel
theorem dX2_areAlike_15 : decode cX2_areAlike 15 = .ok (.imul, 1) := by decide +kernel
theorem dX2_areAlike_16 : decode cX2_areAlike 16 = .ok (.iload_n 3, 1) := by decide +kernel
theorem dX2_areAlike_17 : decode cX2_areAlike 17 = .ok (.iadd, 1) := by decide +kernel
theorem dX2_areAlike_18 : decode cX2_areAlike 18 = .ok (.iaload, 1) := by decide +kernel
theorem dX2_areAlike_19 : decode cX2_areAlike 19 = .ok (.aload_n 0, 1) := by decide +kernel
theorem dX2_areAlike_20 : decode cX2_areAlike 20 = .ok (.getfield 7, 3) := by decide +kernel
theorem dX2_areAlike_23 : decode cX2_areAlike 23 = .ok (.bipush 96, 2) := by decide +kernel
theorem dX2_areAlike_25 : decode cX2_areAlike 25 = .ok (.iload_n 2, 1) := by decide +kernel
theorem dX2_areAlike_26 : decode cX2_areAlike 26 = .ok (.imul, 1) := by decide +kernel
theorem dX2_areAlike_27 : decode cX2_areAlike 27 = .ok (.iload_n 3, 1) := by decide +kernel
theorem dX2_areAlike_28 : decode cX2_areAlike 28 = .ok (.iadd, 1) := by decide +kernel
theorem dX2_areAlike_29 : decode cX2_areAlike 29 = .ok (.iaload, 1) := by decide +kernel
theorem dX2_areAlike_30 : decode cX2_areAlike 30 = .ok (.if_icmp .eq 5, 3) := by decide +kernel
theorem dX2_areAlike_33 : decode cX2_areAlike 33 = .ok (.iconst 0, 1) := by decide +kernel
theorem dX2_areAlike_34 : decode cX2_areAlike 34 = .ok (.ireturn, 1) := by decide +kernel
theorem dX2_areAlike_35 : decode cX2_areAlike 35 = .ok (.iinc 3 1, 3) := by decide +kernel
theorem dX2_areAlike_38 : decode cX2_areAlike 38 = .ok (.goto (-36), 3) := by decide +kernel
theorem dX2_areAlike_41 : decode cX2_areAlike 41 = .ok (.iconst 1, 1) := by decide +kernel
theorem dX2_areAlike_42 : decode cX2_areAlike 42 = .ok (.ireturn, 1) := by decide +kernel
set_option maxRecDepth 20000 in
theorem ggX2_repeatsIn_X2_grows : GoodIn wsX2_repeatsIn wsX2_grows := goodIn_r _ [6, 7, 8, 9, 10, 5, 11, 12, 13, 14, 15, 16, 17, 18, 19, 20, 21, 22, 23, 24, 25, 26, 27, 28, 29, 30, 31, 32, 33, 34, 35, 36, 37, 38, 39, 40, 41, 42, 43, 44, 49, 50, 51, 52, 53, 54, 55, 56] (by decide +kernel) (by decide +kernel)
set_option maxRecDepth 20000 in
theorem gX2_repeatsIn_X2_grows : GoodIn wsX2_repeatsIn (wsV RX2 73 RX2 yX2_grows wsX2_grows) := goodIn_app (goodIn_of _ (by decide +kernel)) ggX2_repeatsIn_X2_grows
set_option maxRecDepth 20000 in
theorem ggX2_repeatsIn_X2_areAlike : GoodIn wsX2_repeatsIn wsX2_areAlike := goodIn_r _ [48, 7, 49, 50, 51, 52, 53, 54, 55, 56] (by decide +kernel) (by decide +kernel)
set_option maxRecDepth 20000 in
theorem gX2_repeatsIn_X2_areAlike : GoodIn wsX2_repeatsIn (wsV RX2 83 RX2 yX2_areAlike wsX2_areAlike) := goodIn_app (goodIn_of _ (by decide +kernel)) ggX2_repeatsIn_X2_areAlike
theorem dX2_repeatsIn_0 : decode cX2_repeatsIn 0 = .ok (.aload_n 0, 1) := by decide +kernel
theorem dX2_repeatsIn_1 : decode cX2_repeatsIn 1 = .ok (.iconst 0, 1) := by decide +kernel
theorem dX2_repeatsIn_2 : decode cX2_repeatsIn 2 = .ok (.putfield 20, 3) := by decide +kernel
theorem dX2_repeatsIn_5 : decode cX2_repeatsIn 5 = .ok (.iconst 1, 1) := by decide +kernel
theorem dX2_repeatsIn_6 : decode cX2_repeatsIn 6 = .ok (.istore_n 1, 1) := by decide +kernel
theorem dX2_repeatsIn_7 : decode cX2_repeatsIn 7 = .ok (.iload_n 1, 1) := by decide +kernel
theorem dX2_repeatsIn_8 : decode cX2_repeatsIn 8 = .ok (.bipush 60, 2) := by decide +kernel
theorem dX2_repeatsIn_10 : decode cX2_repeatsIn 10 = .ok (.if_icmp .gt 42, 3) := by decide +kernel
theorem dX2_repeatsIn_13 : decode cX2_repeatsIn 13 = .ok (.aload_n 0, 1) := by decide +kernel
theorem dX2_repeatsIn_14 : decode cX2_repeatsIn 14 = .ok (.iload_n 1, 1) := by decide +kernel
theorem dX2_repeatsIn_15 : decode cX2_repeatsIn 15 = .ok (.iconst 1, 1) := by decide +kernel
theorem dX2_repeatsIn_16 : decode cX2_repeatsIn 16 = .ok (.isub, 1) := by decide +kernel
theorem dX2_repeatsIn_17 : decode cX2_repeatsIn 17 = .ok (.iload_n 1, 1) := by decide +kernel
theorem dX2_repeatsIn_18 : decode cX2_repeatsIn 18 = .ok (.invokevirtual 73, 3) := by decide +kernel
theorem dX2_repeatsIn_21 : decode cX2_repeatsIn 21 = .ok (.istore_n 2, 1) := by decide +kernel
theorem dX2_repeatsIn_22 : decode cX2_repeatsIn 22 = .ok (.iconst 0, 1) := by decide +kernel
theorem dX2_repeatsIn_23 : decode cX2_repeatsIn 23 = .ok (.istore_n 3, 1) := by decide +kernel
theorem dX2_repeatsIn_24 : decode cX2_repeatsIn 24 = .ok (.iload_n 3, 1) := by decide +kernel
theorem dX2_repeatsIn_25 : decode cX2_repeatsIn 25 = .ok (.iload_n 1, 1) := by decide +kernel
theorem dX2_repeatsIn_26 : decode cX2_repeatsIn 26 = .ok (.if_icmp .ge 20, 3) := by decide +kernel
theorem dX2_repeatsIn_29 : decode cX2_repeatsIn 29 = .ok (.aload_n 0, 1) := by decide +kernel
theorem dX2_repeatsIn_30 : decode cX2_repeatsIn 30 = .ok (.iload_n 3, 1) := by decide +kernel
theorem dX2_repeatsIn_31 : decode cX2_repeatsIn 31 = .ok (.iload_n 1, 1) := by decide +kernel
theorem dX2_repeatsIn_32 : decode cX2_repeatsIn 32 = .ok (.invokevirtual 83, 3) := by decide +kernel
theorem dX2_repeatsIn_35 : decode cX2_repeatsIn 35 = .ok (.ifCond .eq 5, 3) := by decide +kernel
theorem dX2_repeatsIn_38 : decode cX2_repeatsIn 38 = .ok (.iload_n 1, 1) := by decide +kernel
theorem dX2_repeatsIn_39 : decode cX2_repeatsIn 39 = .ok (.ireturn, 1) := by decide +kernel
theorem dX2_repeatsIn_40 : decode cX2_repeatsIn 40 = .ok (.iinc 3 1, 3) := by decide +kernel
theorem dX2_repeatsIn_43 : decode cX2_repeatsIn 43 = .ok (.goto (-19), 3) := by decide +kernel
theorem dX2_repeatsIn_46 : decode cX2_repeatsIn 46 = .ok (.iinc 1 1, 3) := by decide +kernel
theorem dX2_repeatsIn_49 : decode cX2_repeatsIn 49 = .ok (.goto (-42), 3) := by decide +kernel
theorem dX2_repeatsIn_52 : decode cX2_repeatsIn 52 = .ok (.iconst (-1), 1) := by decide +kernel
theorem dX2_repeatsIn_53 : decode cX2_repeatsIn 53 = .ok (.ireturn, 1) := by decide +kernel
set_option maxRecDepth 20000 in
theorem ggX2_bestCut_X2_copies : GoodIn wsX2_bestCut wsX2_copies := goodIn_r _ [7, 2, 53, 54, 55, 56, 57, 58, 59, 60] (by decide +kernel) (by decide +kernel)
set_option maxRecDepth 20000 in
theorem gX2_bestCut_X2_copies : GoodIn wsX2_bestCut (wsV RX2 76 RX2 yX2_copies wsX2_copies) := goodIn_app (goodIn_of _ (by decide +kernel)) ggX2_bestCut_X2_copies
set_option maxRecDepth 20000 in
theorem ggX2_bestCut_X2_grows : GoodIn wsX2_bestCut wsX2_grows := goodIn_r _ [11, 2, 12, 13, 14, 6, 15, 16, 17, 18, 19, 20, 21, 22, 23, 24, 25, 26, 27, 28, 29, 30, 31, 32, 33, 34, 35, 36, 37, 38, 39, 40, 41, 42, 43, 44, 45, 46, 47, 48, 53, 54, 55, 56, 57, 58, 59, 60] (by decide +kernel) (by decide +kernel)
set_option maxRecDepth 20000 in
theorem gX2_bestCut_X2_grows : GoodIn wsX2_bestCut (wsV RX2 73 RX2 yX2_grows wsX2_grows) := goodIn_app (goodIn_of _ (by decide +kernel)) ggX2_bestCut_X2_grows
set_option maxRecDepth 20000 in
theorem ggX2_bestCut_X2_allLit : GoodIn wsX2_bestCut wsX2_allLit := goodIn_r _ [52, 45, 46, 47, 6, 48, 24, 25, 26, 27, 28, 2, 29, 30, 31, 36, 37, 38, 39, 53, 54, 55, 56, 57, 58, 59, 60] (by decide +kernel) (by decide +kernel)
set_option maxRecDepth 20000 in
theorem gX2_bestCut_X2_allLit : GoodIn wsX2_bestCut (wsV RX2 80 RX2 yX2_allLit wsX2_allLit) := goodIn_app (goodIn_of _ (by decide +kernel)) ggX2_bestCut_X2_allLit
theorem dX2_bestCut_0 : decode cX2_bestCut 0 = .ok (.aload_n 0, 1) := by decide +kernel
theorem dX2_bestCut_1 : decode cX2_bestCut 1 = .ok (.iconst 0, 1) := by decide +kernel
theorem dX2_bestCut_2 : decode cX2_bestCut 2 = .ok (.putfield 20, 3) := by decide +kernel
theorem dX2_bestCut_5 : decode cX2_bestCut 5 = .ok (.iconst (-1), 1) := by decide +kernel
theorem dX2_bestCut_6 : decode cX2_bestCut 6 = .ok (.istore_n 1, 1) := by decide +kernel
theorem dX2_bestCut_7 : decode cX2_bestCut 7 = .ok (.iconst (-1), 1) := by decide +kernel
theorem dX2_bestCut_8 : decode cX2_bestCut 8 = .ok (.istore_n 2, 1) := by decide +kernel
theorem dX2_bestCut_9 : decode cX2_bestCut 9 = .ok (.iconst 0, 1) := by decide +kernel
theorem dX2_bestCut_10 : decode cX2_bestCut 10 = .ok (.istore_n 3, 1) := by decide +kernel
theorem dX2_bestCut_11 : decode cX2_bestCut 11 = .ok (.iload_n 3, 1) := by decide +kernel
theorem dX2_bestCut_12 : decode cX2_bestCut 12 = .ok (.bipush 96, 2) := by decide +kernel
theorem dX2_bestCut_14 : decode cX2_bestCut 14 = .ok (.if_icmp .ge 78, 3) := by decide +kernel
theorem dX2_bestCut_17 : decode cX2_bestCut 17 = .ok (.aload_n 0, 1) := by decide +kernel
theorem dX2_bestCut_18 : decode cX2_bestCut 18 = .ok (.getfield 7, 3) := by decide +kernel
theorem dX2_bestCut_21 : decode cX2_bestCut 21 = .ok (.iload_n 3, 1) := by decide +kernel
theorem dX2_bestCut_22 : decode cX2_bestCut 22 = .ok (.iaload, 1) := by decide +kernel
theorem dX2_bestCut_23 : decode cX2_bestCut 23 = .ok (.iconst 1, 1) := by decide +kernel
theorem dX2_bestCut_24 : decode cX2_bestCut 24 = .ok (.if_icmp .ne 62, 3) := by decide +kernel
end
section
theorem dX2_bestCut_27 : decode cX2_bestCut 27 = .ok (.aload_n 0, 1) := by decide +kernel
theorem dX2_bestCut_28 : decode cX2_bestCut 28 = .ok (.iconst 0, 1) := by decide +kernel
theorem dX2_bestCut_29 : decode cX2_bestCut 29 = .ok (.bipush 61, 2) := by decide +kernel
theorem dX2_bestCut_31 : decode cX2_bestCut 31 = .ok (.invokevirtual 76, 3) := by decide +kernel
theorem dX2_bestCut_34 : decode cX2_bestCut 34 = .ok (.aload_n 0, 1) := by decide +kernel
theorem dX2_bestCut_35 : decode cX2_bestCut 35 = .ok (.getfield 7, 3) := by decide +kernel
theorem dX2_bestCut_38 : decode cX2_bestCut 38 = .ok (.sipush 5856, 3) := by decide +kernel
theorem dX2_bestCut_41 : decode cX2_bestCut 41 = .ok (.iload_n 3, 1) := by decide +kernel
theorem dX2_bestCut_42 : decode cX2_bestCut 42 = .ok (.iadd, 1) := by decide +kernel
theorem dX2_bestCut_43 : decode cX2_bestCut 43 = .ok (.iconst 2, 1) := by decide +kernel
theorem dX2_bestCut_44 : decode cX2_bestCut 44 = .ok (.iastore, 1) := by decide +kernel
theorem dX2_bestCut_45 : decode cX2_bestCut 45 = .ok (.aload_n 0, 1) := by decide +kernel
theorem dX2_bestCut_46 : decode cX2_bestCut 46 = .ok (.bipush 61, 2) := by decide +kernel
theorem dX2_bestCut_48 : decode cX2_bestCut 48 = .ok (.iconst 1, 1) := by decide +kernel
theorem dX2_bestCut_49 : decode cX2_bestCut 49 = .ok (.invokevirtual 73, 3) := by decide +kernel
theorem dX2_bestCut_52 : decode cX2_bestCut 52 = .ok (.istore 4, 2) := by decide +kernel
theorem dX2_bestCut_54 : decode cX2_bestCut 54 = .ok (.aload_n 0, 1) := by decide +kernel
theorem dX2_bestCut_55 : decode cX2_bestCut 55 = .ok (.iconst 1, 1) := by decide +kernel
theorem dX2_bestCut_56 : decode cX2_bestCut 56 = .ok (.invokevirtual 80, 3) := by decide +kernel
theorem dX2_bestCut_59 : decode cX2_bestCut 59 = .ok (.istore 5, 2) := by decide +kernel
theorem dX2_bestCut_61 : decode cX2_bestCut 61 = .ok (.iload 5, 2) := by decide +kernel
theorem dX2_bestCut_63 : decode cX2_bestCut 63 = .ok (.iload_n 2, 1) := by decide +kernel
theorem dX2_bestCut_64 : decode cX2_bestCut 64 = .ok (.if_icmp .le 7, 3) := by decide +kernel
theorem dX2_bestCut_67 : decode cX2_bestCut 67 = .ok (.iload_n 3, 1) := by decide +kernel
theorem dX2_bestCut_68 : decode cX2_bestCut 68 = .ok (.goto 4, 3) := by decide +kernel
theorem dX2_bestCut_71 : decode cX2_bestCut 71 = .ok (.iload_n 1, 1) := by decide +kernel
theorem dX2_bestCut_72 : decode cX2_bestCut 72 = .ok (.istore_n 1, 1) := by decide +kernel
theorem dX2_bestCut_73 : decode cX2_bestCut 73 = .ok (.iload 5, 2) := by decide +kernel
theorem dX2_bestCut_75 : decode cX2_bestCut 75 = .ok (.iload_n 2, 1) := by decide +kernel
theorem dX2_bestCut_76 : decode cX2_bestCut 76 = .ok (.if_icmp .le 8, 3) := by decide +kernel
theorem dX2_bestCut_79 : decode cX2_bestCut 79 = .ok (.iload 5, 2) := by decide +kernel
theorem dX2_bestCut_81 : decode cX2_bestCut 81 = .ok (.goto 4, 3) := by decide +kernel
theorem dX2_bestCut_84 : decode cX2_bestCut 84 = .ok (.iload_n 2, 1) := by decide +kernel
theorem dX2_bestCut_85 : decode cX2_bestCut 85 = .ok (.istore_n 2, 1) := by decide +kernel
theorem dX2_bestCut_86 : decode cX2_bestCut 86 = .ok (.iinc 3 1, 3) := by decide +kernel
theorem dX2_bestCut_89 : decode cX2_bestCut 89 = .ok (.goto (-78), 3) := by decide +kernel
theorem dX2_bestCut_92 : decode cX2_bestCut 92 = .ok (.iload_n 1, 1) := by decide +kernel
theorem dX2_bestCut_93 : decode cX2_bestCut 93 = .ok (.ireturn, 1) := by decide +kernel
theorem dJ6_bitCount_0f7a4_0 : decode cJ6_bitCount_0f7a4 0 = .ok (.iload_n 0, 1) := by decide +kernel
theorem dJ6_bitCount_0f7a4_1 : decode cJ6_bitCount_0f7a4 1 = .ok (.iload_n 0, 1) := by decide +kernel
theorem dJ6_bitCount_0f7a4_2 : decode cJ6_bitCount_0f7a4 2 = .ok (.iconst 1, 1) := by decide +kernel
theorem dJ6_bitCount_0f7a4_3 : decode cJ6_bitCount_0f7a4 3 = .ok (.iushr, 1) := by decide +kernel
theorem dJ6_bitCount_0f7a4_4 : decode cJ6_bitCount_0f7a4 4 = .ok (.ldc_w 265, 3) := by decide +kernel
theorem dJ6_bitCount_0f7a4_7 : decode cJ6_bitCount_0f7a4 7 = .ok (.iand, 1) := by decide +kernel
theorem dJ6_bitCount_0f7a4_8 : decode cJ6_bitCount_0f7a4 8 = .ok (.isub, 1) := by decide +kernel
theorem dJ6_bitCount_0f7a4_9 : decode cJ6_bitCount_0f7a4 9 = .ok (.istore_n 0, 1) := by decide +kernel
theorem dJ6_bitCount_0f7a4_10 : decode cJ6_bitCount_0f7a4 10 = .ok (.iload_n 0, 1) := by decide +kernel
theorem dJ6_bitCount_0f7a4_11 : decode cJ6_bitCount_0f7a4 11 = .ok (.ldc_w 266, 3) := by decide +kernel
theorem dJ6_bitCount_0f7a4_14 : decode cJ6_bitCount_0f7a4 14 = .ok (.iand, 1) := by decide +kernel
theorem dJ6_bitCount_0f7a4_15 : decode cJ6_bitCount_0f7a4 15 = .ok (.iload_n 0, 1) := by decide +kernel
theorem dJ6_bitCount_0f7a4_16 : decode cJ6_bitCount_0f7a4 16 = .ok (.iconst 2, 1) := by decide +kernel
theorem dJ6_bitCount_0f7a4_17 : decode cJ6_bitCount_0f7a4 17 = .ok (.iushr, 1) := by decide +kernel
theorem dJ6_bitCount_0f7a4_18 : decode cJ6_bitCount_0f7a4 18 = .ok (.ldc_w 266, 3) := by decide +kernel
theorem dJ6_bitCount_0f7a4_21 : decode cJ6_bitCount_0f7a4 21 = .ok (.iand, 1) := by decide +kernel
theorem dJ6_bitCount_0f7a4_22 : decode cJ6_bitCount_0f7a4 22 = .ok (.iadd, 1) := by decide +kernel
theorem dJ6_bitCount_0f7a4_23 : decode cJ6_bitCount_0f7a4 23 = .ok (.istore_n 0, 1) := by decide +kernel
theorem dJ6_bitCount_0f7a4_24 : decode cJ6_bitCount_0f7a4 24 = .ok (.iload_n 0, 1) := by decide +kernel
theorem dJ6_bitCount_0f7a4_25 : decode cJ6_bitCount_0f7a4 25 = .ok (.iload_n 0, 1) := by decide +kernel
theorem dJ6_bitCount_0f7a4_26 : decode cJ6_bitCount_0f7a4 26 = .ok (.iconst 4, 1) := by decide +kernel
theorem dJ6_bitCount_0f7a4_27 : decode cJ6_bitCount_0f7a4 27 = .ok (.iushr, 1) := by decide +kernel
theorem dJ6_bitCount_0f7a4_28 : decode cJ6_bitCount_0f7a4 28 = .ok (.iadd, 1) := by decide +kernel
theorem dJ6_bitCount_0f7a4_29 : decode cJ6_bitCount_0f7a4 29 = .ok (.ldc_w 267, 3) := by decide +kernel
theorem dJ6_bitCount_0f7a4_32 : decode cJ6_bitCount_0f7a4 32 = .ok (.iand, 1) := by decide +kernel
theorem dJ6_bitCount_0f7a4_33 : decode cJ6_bitCount_0f7a4 33 = .ok (.istore_n 0, 1) := by decide +kernel
theorem dJ6_bitCount_0f7a4_34 : decode cJ6_bitCount_0f7a4 34 = .ok (.iload_n 0, 1) := by decide +kernel
theorem dJ6_bitCount_0f7a4_35 : decode cJ6_bitCount_0f7a4 35 = .ok (.iload_n 0, 1) := by decide +kernel
theorem dJ6_bitCount_0f7a4_36 : decode cJ6_bitCount_0f7a4 36 = .ok (.bipush 8, 2) := by decide +kernel
theorem dJ6_bitCount_0f7a4_38 : decode cJ6_bitCount_0f7a4 38 = .ok (.iushr, 1) := by decide +kernel
theorem dJ6_bitCount_0f7a4_39 : decode cJ6_bitCount_0f7a4 39 = .ok (.iadd, 1) := by decide +kernel
theorem dJ6_bitCount_0f7a4_40 : decode cJ6_bitCount_0f7a4 40 = .ok (.istore_n 0, 1) := by decide +kernel
theorem dJ6_bitCount_0f7a4_41 : decode cJ6_bitCount_0f7a4 41 = .ok (.iload_n 0, 1) := by decide +kernel
theorem dJ6_bitCount_0f7a4_42 : decode cJ6_bitCount_0f7a4 42 = .ok (.iload_n 0, 1) := by decide +kernel
theorem dJ6_bitCount_0f7a4_43 : decode cJ6_bitCount_0f7a4 43 = .ok (.bipush 16, 2) := by decide +kernel
theorem dJ6_bitCount_0f7a4_45 : decode cJ6_bitCount_0f7a4 45 = .ok (.iushr, 1) := by decide +kernel
theorem dJ6_bitCount_0f7a4_46 : decode cJ6_bitCount_0f7a4 46 = .ok (.iadd, 1) := by decide +kernel
theorem dJ6_bitCount_0f7a4_47 : decode cJ6_bitCount_0f7a4 47 = .ok (.istore_n 0, 1) := by decide +kernel
theorem dJ6_bitCount_0f7a4_48 : decode cJ6_bitCount_0f7a4 48 = .ok (.iload_n 0, 1) := by decide +kernel
theorem dJ6_bitCount_0f7a4_49 : decode cJ6_bitCount_0f7a4 49 = .ok (.bipush 63, 2) := by decide +kernel
theorem dJ6_bitCount_0f7a4_51 : decode cJ6_bitCount_0f7a4 51 = .ok (.iand, 1) := by decide +kernel
theorem dJ6_bitCount_0f7a4_52 : decode cJ6_bitCount_0f7a4 52 = .ok (.ireturn, 1) := by decide +kernel
set_option maxRecDepth 20000 in
theorem ggL_sides_X1_sides : GoodIn wsL_sides wsX1_sides := goodIn_ca (goodIn_ca (goodIn_r _ [7, 8, 9, 10, 11, 12, 13, 14, 15, 16, 17, 18, 19, 20, 21, 22, 23, 24] (by decide +kernel) (by decide +kernel)) (goodIn_sub (fun _ h => List.mem_cons_of_mem _ (List.mem_append_left _ (List.mem_append_right _ h))) (by decide +kernel))) (goodIn_sub (fun _ h => List.mem_cons_of_mem _ (List.mem_append_right _ h)) (by decide +kernel))
set_option maxRecDepth 20000 in
theorem gL_sides_X1_sides : GoodIn wsL_sides (wsV RL 7 RX1 yX1_sides wsX1_sides) := goodIn_app (goodIn_of _ (by decide +kernel)) ggL_sides_X1_sides
theorem dL_sides_0 : decode cL_sides 0 = .ok (.aload_n 0, 1) := by decide +kernel
theorem dL_sides_1 : decode cL_sides 1 = .ok (.iload_n 1, 1) := by decide +kernel
theorem dL_sides_2 : decode cL_sides 2 = .ok (.invokevirtual 7, 3) := by decide +kernel
theorem dL_sides_5 : decode cL_sides 5 = .ok (.goto 9, 3) := by decide +kernel
theorem dL_sides_8 : decode cL_sides 8 = .ok (.astore_n 2, 1) := by decide +kernel
theorem dL_sides_9 : decode cL_sides 9 = .ok (.iconst 1, 1) := by decide +kernel
theorem dL_sides_10 : decode cL_sides 10 = .ok (.ireturn, 1) := by decide +kernel
theorem dL_sides_11 : decode cL_sides 11 = .ok (.astore_n 2, 1) := by decide +kernel
theorem dL_sides_12 : decode cL_sides 12 = .ok (.iconst 2, 1) := by decide +kernel
theorem dL_sides_13 : decode cL_sides 13 = .ok (.ireturn, 1) := by decide +kernel
theorem dL_sides_14 : decode cL_sides 14 = .ok (.iconst 0, 1) := by decide +kernel
theorem dL_sides_15 : decode cL_sides 15 = .ok (.ireturn, 1) := by decide +kernel
set_option maxRecDepth 20000 in
theorem ggL_plant_X1_plant : GoodIn wsL_plant wsX1_plant := goodIn_ca (goodIn_ca (goodIn_r _ [7, 8, 9, 10, 11, 12, 13, 6, 14, 15, 16, 17, 18, 19, 20, 21, 22, 23, 24, 25, 26, 27, 28, 29, 30, 31, 32, 33, 34, 35, 36, 37, 38, 39, 40, 41, 42, 43, 44, 45, 46, 47, 48, 49, 50, 51, 52, 53, 54] (by decide +kernel) (by decide +kernel)) (goodIn_sub (fun _ h => List.mem_cons_of_mem _ (List.mem_append_left _ (List.mem_append_right _ h))) (by decide +kernel))) (goodIn_sub (fun _ h => List.mem_cons_of_mem _ (List.mem_append_right _ h)) (by decide +kernel))
set_option maxRecDepth 20000 in
theorem gL_plant_X1_plant : GoodIn wsL_plant (wsV RL 17 RX1 yX1_plant wsX1_plant) := goodIn_app (goodIn_of _ (by decide +kernel)) ggL_plant_X1_plant
theorem dL_plant_0 : decode cL_plant 0 = .ok (.aload_n 0, 1) := by decide +kernel
theorem dL_plant_1 : decode cL_plant 1 = .ok (.iload_n 1, 1) := by decide +kernel
theorem dL_plant_2 : decode cL_plant 2 = .ok (.invokevirtual 17, 3) := by decide +kernel
theorem dL_plant_5 : decode cL_plant 5 = .ok (.goto 9, 3) := by decide +kernel
theorem dL_plant_8 : decode cL_plant 8 = .ok (.astore_n 2, 1) := by decide +kernel
theorem dL_plant_9 : decode cL_plant 9 = .ok (.iconst 1, 1) := by decide +kernel
theorem dL_plant_10 : decode cL_plant 10 = .ok (.ireturn, 1) := by decide +kernel
theorem dL_plant_11 : decode cL_plant 11 = .ok (.astore_n 2, 1) := by decide +kernel
theorem dL_plant_12 : decode cL_plant 12 = .ok (.iconst 2, 1) := by decide +kernel
theorem dL_plant_13 : decode cL_plant 13 = .ok (.ireturn, 1) := by decide +kernel
theorem dL_plant_14 : decode cL_plant 14 = .ok (.iconst 0, 1) := by decide +kernel
theorem dL_plant_15 : decode cL_plant 15 = .ok (.ireturn, 1) := by decide +kernel
set_option maxRecDepth 20000 in
theorem ggL_trellis_X1_trellis : GoodIn wsL_trellis wsX1_trellis := goodIn_ca (goodIn_ca (goodIn_r _ [7, 8, 9, 10, 11, 12, 6, 13, 14, 15, 16, 17, 18, 19, 20, 21, 22, 23, 24, 25, 26] (by decide +kernel) (by decide +kernel)) (goodIn_sub (fun _ h => List.mem_cons_of_mem _ (List.mem_append_left _ (List.mem_append_right _ h))) (by decide +kernel))) (goodIn_sub (fun _ h => List.mem_cons_of_mem _ (List.mem_append_right _ h)) (by decide +kernel))
set_option maxRecDepth 20000 in
theorem gL_trellis_X1_trellis : GoodIn wsL_trellis (wsV RL 22 RX1 yX1_trellis wsX1_trellis) := goodIn_app (goodIn_of _ (by decide +kernel)) ggL_trellis_X1_trellis
theorem dL_trellis_0 : decode cL_trellis 0 = .ok (.aload_n 3, 1) := by decide +kernel
theorem dL_trellis_1 : decode cL_trellis 1 = .ok (.iconst 0, 1) := by decide +kernel
theorem dL_trellis_2 : decode cL_trellis 2 = .ok (.aload_n 0, 1) := by decide +kernel
theorem dL_trellis_3 : decode cL_trellis 3 = .ok (.iload_n 1, 1) := by decide +kernel
theorem dL_trellis_4 : decode cL_trellis 4 = .ok (.iload_n 2, 1) := by decide +kernel
theorem dL_trellis_5 : decode cL_trellis 5 = .ok (.invokevirtual 22, 3) := by decide +kernel
theorem dL_trellis_8 : decode cL_trellis 8 = .ok (.i2l, 1) := by decide +kernel
theorem dL_trellis_9 : decode cL_trellis 9 = .ok (.lastore, 1) := by decide +kernel
theorem dL_trellis_10 : decode cL_trellis 10 = .ok (.goto 11, 3) := by decide +kernel
theorem dL_trellis_13 : decode cL_trellis 13 = .ok (.astore 4, 2) := by decide +kernel
theorem dL_trellis_15 : decode cL_trellis 15 = .ok (.iconst 1, 1) := by decide +kernel
theorem dL_trellis_16 : decode cL_trellis 16 = .ok (.ireturn, 1) := by decide +kernel
theorem dL_trellis_17 : decode cL_trellis 17 = .ok (.astore 4, 2) := by decide +kernel
theorem dL_trellis_19 : decode cL_trellis 19 = .ok (.iconst 2, 1) := by decide +kernel
theorem dL_trellis_20 : decode cL_trellis 20 = .ok (.ireturn, 1) := by decide +kernel
theorem dL_trellis_21 : decode cL_trellis 21 = .ok (.iconst 0, 1) := by decide +kernel
theorem dL_trellis_22 : decode cL_trellis 22 = .ok (.ireturn, 1) := by decide +kernel
set_option maxRecDepth 20000 in
theorem ggL_cut_X1_cut : GoodIn wsL_cut wsX1_cut := goodIn_ca (goodIn_ca (goodIn_r _ [7, 8, 9, 10, 11, 12, 13, 6, 14, 15, 16, 17, 18, 19, 20, 21, 22, 23, 24, 25, 26, 27, 28, 29, 30, 31, 32, 33, 34, 35, 36, 37, 38, 39, 40, 41, 42, 43, 44, 45, 46, 47, 48, 49, 50, 51, 52, 53, 54, 55] (by decide +kernel) (by decide +kernel)) (goodIn_sub (fun _ h => List.mem_cons_of_mem _ (List.mem_append_left _ (List.mem_append_right _ h))) (by decide +kernel))) (goodIn_sub (fun _ h => List.mem_cons_of_mem _ (List.mem_append_right _ h)) (by decide +kernel))
set_option maxRecDepth 20000 in
theorem gL_cut_X1_cut : GoodIn wsL_cut (wsV RL 26 RX1 yX1_cut wsX1_cut) := goodIn_app (goodIn_of _ (by decide +kernel)) ggL_cut_X1_cut
theorem dL_cut_0 : decode cL_cut 0 = .ok (.aload_n 3, 1) := by decide +kernel
theorem dL_cut_1 : decode cL_cut 1 = .ok (.iconst 0, 1) := by decide +kernel
theorem dL_cut_2 : decode cL_cut 2 = .ok (.aload_n 0, 1) := by decide +kernel
theorem dL_cut_3 : decode cL_cut 3 = .ok (.iload_n 1, 1) := by decide +kernel
theorem dL_cut_4 : decode cL_cut 4 = .ok (.iload_n 2, 1) := by decide +kernel
theorem dL_cut_5 : decode cL_cut 5 = .ok (.invokevirtual 26, 3) := by decide +kernel
theorem dL_cut_8 : decode cL_cut 8 = .ok (.i2l, 1) := by decide +kernel
theorem dL_cut_9 : decode cL_cut 9 = .ok (.lastore, 1) := by decide +kernel
theorem dL_cut_10 : decode cL_cut 10 = .ok (.goto 11, 3) := by decide +kernel
theorem dL_cut_13 : decode cL_cut 13 = .ok (.astore 4, 2) := by decide +kernel
theorem dL_cut_15 : decode cL_cut 15 = .ok (.iconst 1, 1) := by decide +kernel
theorem dL_cut_16 : decode cL_cut 16 = .ok (.ireturn, 1) := by decide +kernel
theorem dL_cut_17 : decode cL_cut 17 = .ok (.astore 4, 2) := by decide +kernel
theorem dL_cut_19 : decode cL_cut 19 = .ok (.iconst 2, 1) := by decide +kernel
theorem dL_cut_20 : decode cL_cut 20 = .ok (.ireturn, 1) := by decide +kernel
theorem dL_cut_21 : decode cL_cut 21 = .ok (.iconst 0, 1) := by decide +kernel
theorem dL_cut_22 : decode cL_cut 22 = .ok (.ireturn, 1) := by decide +kernel
set_option maxRecDepth 20000 in
theorem ggL_grow_X1_grow : GoodIn wsL_grow wsX1_grow := goodIn_ca (goodIn_r _ [6, 7, 8, 9, 10, 11, 12, 13, 14, 15, 16, 17, 18, 5, 19, 20, 21, 22, 23, 24, 25, 26, 27, 28, 29, 30, 31, 32, 33, 34, 35, 36, 37, 38, 39, 40, 41, 42, 43, 44, 45, 46, 47, 48, 49, 50, 51, 52, 53, 54, 55, 56, 57, 58, 59, 60, 61, 62, 63, 64, 65, 66, 67, 68, 69, 70, 71, 72, 73, 74, 75, 76, 77, 78, 79, 80, 81, 82, 83, 84, 85, 86, 87, 88, 89, 90, 91, 92, 93, 94, 95, 96, 97, 98, 99, 100, 101, 102] (by decide +kernel) (by decide +kernel)) (goodIn_sub (fun _ h => List.mem_cons_of_mem _ (List.mem_append_right _ h)) (by decide +kernel))
set_option maxRecDepth 20000 in
theorem gL_grow_X1_grow : GoodIn wsL_grow (wsV RL 29 RX1 yX1_grow wsX1_grow) := goodIn_app (goodIn_of _ (by decide +kernel)) ggL_grow_X1_grow
theorem dL_grow_0 : decode cL_grow 0 = .ok (.aload_n 1, 1) := by decide +kernel
theorem dL_grow_1 : decode cL_grow 1 = .ok (.iconst 0, 1) := by decide +kernel
theorem dL_grow_2 : decode cL_grow 2 = .ok (.aload_n 0, 1) := by decide +kernel
theorem dL_grow_3 : decode cL_grow 3 = .ok (.invokevirtual 29, 3) := by decide +kernel
theorem dL_grow_6 : decode cL_grow 6 = .ok (.i2l, 1) := by decide +kernel
theorem dL_grow_7 : decode cL_grow 7 = .ok (.lastore, 1) := by decide +kernel
theorem dL_grow_8 : decode cL_grow 8 = .ok (.goto 6, 3) := by decide +kernel
theorem dL_grow_11 : decode cL_grow 11 = .ok (.astore_n 2, 1) := by decide +kernel
theorem dL_grow_12 : decode cL_grow 12 = .ok (.iconst 1, 1) := by decide +kernel
theorem dL_grow_13 : decode cL_grow 13 = .ok (.ireturn, 1) := by decide +kernel
theorem dL_grow_14 : decode cL_grow 14 = .ok (.iconst 0, 1) := by decide +kernel
theorem dL_grow_15 : decode cL_grow 15 = .ok (.ireturn, 1) := by decide +kernel
set_option maxRecDepth 20000 in
theorem ggL_look_X1_look : GoodIn wsL_look wsX1_look := goodIn_ca (goodIn_r _ [6, 7, 8, 9, 5, 10, 11, 12, 13, 14, 15, 16, 17, 18, 19, 20, 21, 22, 23, 24, 25, 26, 27, 28, 29, 30, 31, 32, 33, 34, 35, 36, 37, 38, 39, 40, 41, 42, 43, 44, 45, 46, 47, 48] (by decide +kernel) (by decide +kernel)) (goodIn_sub (fun _ h => List.mem_cons_of_mem _ (List.mem_append_right _ h)) (by decide +kernel))
set_option maxRecDepth 20000 in
theorem gL_look_X1_look : GoodIn wsL_look (wsV RL 33 RX1 yX1_look wsX1_look) := goodIn_app (goodIn_of _ (by decide +kernel)) ggL_look_X1_look
theorem dL_look_0 : decode cL_look 0 = .ok (.aload_n 3, 1) := by decide +kernel
theorem dL_look_1 : decode cL_look 1 = .ok (.iconst 0, 1) := by decide +kernel
theorem dL_look_2 : decode cL_look 2 = .ok (.aload_n 0, 1) := by decide +kernel
theorem dL_look_3 : decode cL_look 3 = .ok (.iload_n 1, 1) := by decide +kernel
theorem dL_look_4 : decode cL_look 4 = .ok (.iload_n 2, 1) := by decide +kernel
theorem dL_look_5 : decode cL_look 5 = .ok (.invokevirtual 33, 3) := by decide +kernel
theorem dL_look_8 : decode cL_look 8 = .ok (.i2l, 1) := by decide +kernel
theorem dL_look_9 : decode cL_look 9 = .ok (.lastore, 1) := by decide +kernel
theorem dL_look_10 : decode cL_look 10 = .ok (.goto 7, 3) := by decide +kernel
theorem dL_look_13 : decode cL_look 13 = .ok (.astore 4, 2) := by decide +kernel
theorem dL_look_15 : decode cL_look 15 = .ok (.iconst 1, 1) := by decide +kernel
theorem dL_look_16 : decode cL_look 16 = .ok (.ireturn, 1) := by decide +kernel
theorem dL_look_17 : decode cL_look 17 = .ok (.iconst 0, 1) := by decide +kernel
theorem dL_look_18 : decode cL_look 18 = .ok (.ireturn, 1) := by decide +kernel
set_option maxRecDepth 20000 in
theorem ggL_shadeOf_X1_shadeOf : GoodIn wsL_shadeOf wsX1_shadeOf := goodIn_ca (goodIn_r _ [6, 7, 8, 9, 5, 10, 11, 12, 13, 14, 15, 16, 17, 18, 19, 20, 21, 22, 23, 24, 25, 26, 27, 28, 29, 30, 31, 32, 33, 34, 35, 36, 37, 38] (by decide +kernel) (by decide +kernel)) (goodIn_sub (fun _ h => List.mem_cons_of_mem _ (List.mem_append_right _ h)) (by decide +kernel))
set_option maxRecDepth 20000 in
theorem gL_shadeOf_X1_shadeOf : GoodIn wsL_shadeOf (wsV RL 37 RX1 yX1_shadeOf wsX1_shadeOf) := goodIn_app (goodIn_of _ (by decide +kernel)) ggL_shadeOf_X1_shadeOf
theorem dL_shadeOf_0 : decode cL_shadeOf 0 = .ok (.aload_n 3, 1) := by decide +kernel
theorem dL_shadeOf_1 : decode cL_shadeOf 1 = .ok (.iconst 0, 1) := by decide +kernel
theorem dL_shadeOf_2 : decode cL_shadeOf 2 = .ok (.aload_n 0, 1) := by decide +kernel
theorem dL_shadeOf_3 : decode cL_shadeOf 3 = .ok (.iload_n 1, 1) := by decide +kernel
theorem dL_shadeOf_4 : decode cL_shadeOf 4 = .ok (.iload_n 2, 1) := by decide +kernel
theorem dL_shadeOf_5 : decode cL_shadeOf 5 = .ok (.invokevirtual 37, 3) := by decide +kernel
theorem dL_shadeOf_8 : decode cL_shadeOf 8 = .ok (.i2l, 1) := by decide +kernel
theorem dL_shadeOf_9 : decode cL_shadeOf 9 = .ok (.lastore, 1) := by decide +kernel
theorem dL_shadeOf_10 : decode cL_shadeOf 10 = .ok (.goto 7, 3) := by decide +kernel
theorem dL_shadeOf_13 : decode cL_shadeOf 13 = .ok (.astore 4, 2) := by decide +kernel
theorem dL_shadeOf_15 : decode cL_shadeOf 15 = .ok (.iconst 1, 1) := by decide +kernel
theorem dL_shadeOf_16 : decode cL_shadeOf 16 = .ok (.ireturn, 1) := by decide +kernel
theorem dL_shadeOf_17 : decode cL_shadeOf 17 = .ok (.iconst 0, 1) := by decide +kernel
theorem dL_shadeOf_18 : decode cL_shadeOf 18 = .ok (.ireturn, 1) := by decide +kernel
set_option maxRecDepth 20000 in
theorem ggL_holdersOf_X1_holdersOf : GoodIn wsL_holdersOf wsX1_holdersOf := goodIn_ca (goodIn_r _ [6, 7, 8, 9, 10, 5, 11, 12, 13, 14, 15, 16, 17, 18, 19, 20, 21, 22, 23, 24, 25, 26, 27, 28, 29, 30, 31, 32, 33, 34, 35, 36, 37, 38, 39, 40, 41, 42, 43, 44, 45, 46, 47, 48, 49, 50, 51, 52, 53] (by decide +kernel) (by decide +kernel)) (goodIn_sub (fun _ h => List.mem_cons_of_mem _ (List.mem_append_right _ h)) (by decide +kernel))
set_option maxRecDepth 20000 in
theorem gL_holdersOf_X1_holdersOf : GoodIn wsL_holdersOf (wsV RL 40 RX1 yX1_holdersOf wsX1_holdersOf) := goodIn_app (goodIn_of _ (by decide +kernel)) ggL_holdersOf_X1_holdersOf
theorem dL_holdersOf_0 : decode cL_holdersOf 0 = .ok (.aload_n 3, 1) := by decide +kernel
theorem dL_holdersOf_1 : decode cL_holdersOf 1 = .ok (.iconst 0, 1) := by decide +kernel
theorem dL_holdersOf_2 : decode cL_holdersOf 2 = .ok (.aload_n 0, 1) := by decide +kernel
theorem dL_holdersOf_3 : decode cL_holdersOf 3 = .ok (.iload_n 1, 1) := by decide +kernel
theorem dL_holdersOf_4 : decode cL_holdersOf 4 = .ok (.iload_n 2, 1) := by decide +kernel
theorem dL_holdersOf_5 : decode cL_holdersOf 5 = .ok (.invokevirtual 40, 3) := by decide +kernel
theorem dL_holdersOf_8 : decode cL_holdersOf 8 = .ok (.i2l, 1) := by decide +kernel
theorem dL_holdersOf_9 : decode cL_holdersOf 9 = .ok (.lastore, 1) := by decide +kernel
theorem dL_holdersOf_10 : decode cL_holdersOf 10 = .ok (.goto 7, 3) := by decide +kernel
theorem dL_holdersOf_13 : decode cL_holdersOf 13 = .ok (.astore 4, 2) := by decide +kernel
theorem dL_holdersOf_15 : decode cL_holdersOf 15 = .ok (.iconst 1, 1) := by decide +kernel
theorem dL_holdersOf_16 : decode cL_holdersOf 16 = .ok (.ireturn, 1) := by decide +kernel
theorem dL_holdersOf_17 : decode cL_holdersOf 17 = .ok (.iconst 0, 1) := by decide +kernel
theorem dL_holdersOf_18 : decode cL_holdersOf 18 = .ok (.ireturn, 1) := by decide +kernel
set_option maxRecDepth 20000 in
theorem ggL_neighboursOf_X1_neighboursOf : GoodIn wsL_neighboursOf wsX1_neighboursOf := goodIn_ca (goodIn_r _ [6, 7, 8, 9, 10, 5, 11, 12, 13, 14, 15, 16, 17, 18, 19, 20, 21, 22, 23, 24, 25, 26, 27, 28, 29, 30, 31, 32, 33, 34, 35, 36, 37, 38, 39, 40, 41, 42, 43, 44, 45, 46, 47, 48, 49, 50, 51, 52, 53] (by decide +kernel) (by decide +kernel)) (goodIn_sub (fun _ h => List.mem_cons_of_mem _ (List.mem_append_right _ h)) (by decide +kernel))
set_option maxRecDepth 20000 in
theorem gL_neighboursOf_X1_neighboursOf : GoodIn wsL_neighboursOf (wsV RL 43 RX1 yX1_neighboursOf wsX1_neighboursOf) := goodIn_app (goodIn_of _ (by decide +kernel)) ggL_neighboursOf_X1_neighboursOf
theorem dL_neighboursOf_0 : decode cL_neighboursOf 0 = .ok (.aload_n 3, 1) := by decide +kernel
theorem dL_neighboursOf_1 : decode cL_neighboursOf 1 = .ok (.iconst 0, 1) := by decide +kernel
theorem dL_neighboursOf_2 : decode cL_neighboursOf 2 = .ok (.aload_n 0, 1) := by decide +kernel
theorem dL_neighboursOf_3 : decode cL_neighboursOf 3 = .ok (.iload_n 1, 1) := by decide +kernel
theorem dL_neighboursOf_4 : decode cL_neighboursOf 4 = .ok (.iload_n 2, 1) := by decide +kernel
theorem dL_neighboursOf_5 : decode cL_neighboursOf 5 = .ok (.invokevirtual 43, 3) := by decide +kernel
theorem dL_neighboursOf_8 : decode cL_neighboursOf 8 = .ok (.i2l, 1) := by decide +kernel
theorem dL_neighboursOf_9 : decode cL_neighboursOf 9 = .ok (.lastore, 1) := by decide +kernel
theorem dL_neighboursOf_10 : decode cL_neighboursOf 10 = .ok (.goto 7, 3) := by decide +kernel
theorem dL_neighboursOf_13 : decode cL_neighboursOf 13 = .ok (.astore 4, 2) := by decide +kernel
theorem dL_neighboursOf_15 : decode cL_neighboursOf 15 = .ok (.iconst 1, 1) := by decide +kernel
theorem dL_neighboursOf_16 : decode cL_neighboursOf 16 = .ok (.ireturn, 1) := by decide +kernel
theorem dL_neighboursOf_17 : decode cL_neighboursOf 17 = .ok (.iconst 0, 1) := by decide +kernel
theorem dL_neighboursOf_18 : decode cL_neighboursOf 18 = .ok (.ireturn, 1) := by decide +kernel
set_option maxRecDepth 20000 in
theorem ggL_leavesIn_X1_leavesIn : GoodIn wsL_leavesIn wsX1_leavesIn := goodIn_ca (goodIn_r _ [6, 7, 8, 9, 5, 10, 11, 12, 13, 14, 15, 16, 17, 18, 19, 20, 21, 22, 23, 24, 25, 26, 27, 28, 29, 30, 31, 32, 33, 34, 35, 36, 37, 38, 39] (by decide +kernel) (by decide +kernel)) (goodIn_sub (fun _ h => List.mem_cons_of_mem _ (List.mem_append_right _ h)) (by decide +kernel))
set_option maxRecDepth 20000 in
theorem gL_leavesIn_X1_leavesIn : GoodIn wsL_leavesIn (wsV RL 46 RX1 yX1_leavesIn wsX1_leavesIn) := goodIn_app (goodIn_of _ (by decide +kernel)) ggL_leavesIn_X1_leavesIn
theorem dL_leavesIn_0 : decode cL_leavesIn 0 = .ok (.aload_n 2, 1) := by decide +kernel
theorem dL_leavesIn_1 : decode cL_leavesIn 1 = .ok (.iconst 0, 1) := by decide +kernel
theorem dL_leavesIn_2 : decode cL_leavesIn 2 = .ok (.aload_n 0, 1) := by decide +kernel
theorem dL_leavesIn_3 : decode cL_leavesIn 3 = .ok (.iload_n 1, 1) := by decide +kernel
theorem dL_leavesIn_4 : decode cL_leavesIn 4 = .ok (.invokevirtual 46, 3) := by decide +kernel
theorem dL_leavesIn_7 : decode cL_leavesIn 7 = .ok (.i2l, 1) := by decide +kernel
theorem dL_leavesIn_8 : decode cL_leavesIn 8 = .ok (.lastore, 1) := by decide +kernel
theorem dL_leavesIn_9 : decode cL_leavesIn 9 = .ok (.goto 6, 3) := by decide +kernel
theorem dL_leavesIn_12 : decode cL_leavesIn 12 = .ok (.astore_n 3, 1) := by decide +kernel
theorem dL_leavesIn_13 : decode cL_leavesIn 13 = .ok (.iconst 1, 1) := by decide +kernel
theorem dL_leavesIn_14 : decode cL_leavesIn 14 = .ok (.ireturn, 1) := by decide +kernel
theorem dL_leavesIn_15 : decode cL_leavesIn 15 = .ok (.iconst 0, 1) := by decide +kernel
theorem dL_leavesIn_16 : decode cL_leavesIn 16 = .ok (.ireturn, 1) := by decide +kernel
set_option maxRecDepth 20000 in
theorem ggL_law_X1_init : GoodIn wsL_law wsX1_init := goodIn_r _ [9, 10, 11, 12, 13, 14, 15, 16, 17, 18, 6, 19, 20, 21, 22, 23, 24, 25, 26, 27, 28, 29, 30, 31, 32, 445, 446, 426, 427, 428, 429, 430, 431, 432, 433, 434, 435, 436] (by decide +kernel) (by decide +kernel)
set_option maxRecDepth 20000 in
theorem gL_law_X1_init : GoodIn wsL_law (wsX1_init) := ggL_law_X1_init
set_option maxRecDepth 20000 in
theorem ggL_law_X2_init : GoodIn wsL_law wsX2_init := goodIn_r _ [35, 36, 11, 12, 21, 37, 38, 39, 437, 438, 439, 440, 441, 442, 443, 444] (by decide +kernel) (by decide +kernel)
set_option maxRecDepth 20000 in
theorem gL_law_X2_init : GoodIn wsL_law (wsX2_init) := ggL_law_X2_init
set_option maxRecDepth 20000 in
theorem ggL_law_L_sides : GoodIn wsL_law wsL_sides := goodIn_ca (goodIn_ca (goodIn_r _ [43, 44, 45, 46, 47, 48, 2, 49, 50, 51, 52, 53, 26, 23, 426, 427, 428, 429, 430, 431, 432, 433, 434, 435, 436] (by decide +kernel) (by decide +kernel)) (goodIn_sub (fun _ h => List.mem_append_left _ (List.mem_append_left _ (List.mem_append_right _ h))) (by decide +kernel))) (goodIn_sub (fun _ h => List.mem_append_left _ (List.mem_append_right _ h)) (by decide +kernel))
set_option maxRecDepth 20000 in
theorem gL_law_L_sides : GoodIn wsL_law (va_wsS RL 54 yL_sides wsL_sides) := goodIn_app (goodIn_of _ (by decide +kernel)) ggL_law_L_sides
set_option maxRecDepth 20000 in
theorem ggL_law_X2_sides : GoodIn wsL_law wsX2_sides := goodIn_r _ [57, 58, 59, 60, 437, 438, 439, 440, 441, 442, 443, 444] (by decide +kernel) (by decide +kernel)
set_option maxRecDepth 20000 in
theorem gL_law_X2_sides : GoodIn wsL_law (wsV RL 59 RX2 yX2_sides wsX2_sides) := goodIn_app (goodIn_of _ (by decide +kernel)) ggL_law_X2_sides
set_option maxRecDepth 20000 in
theorem ggL_law_X2_thrown : GoodIn wsL_law wsX2_thrown := goodIn_r _ [64, 59, 437, 438, 439, 440, 441, 442, 443, 444] (by decide +kernel) (by decide +kernel)
set_option maxRecDepth 20000 in
theorem gL_law_X2_thrown : GoodIn wsL_law (wsV RL 60 RX2 yX2_thrown wsX2_thrown) := goodIn_app (goodIn_of _ (by decide +kernel)) ggL_law_X2_thrown
set_option maxRecDepth 20000 in
theorem ggL_law_L_plant : GoodIn wsL_law wsL_plant := goodIn_ca (goodIn_ca (goodIn_r _ [67, 68, 45, 69, 70, 71, 2, 72, 52, 53, 16, 24, 73, 74, 75, 76, 77, 78, 79, 80, 15, 81, 82, 83, 84, 85, 86, 87, 88, 89, 31, 90, 91, 92, 93, 32, 94, 95, 96, 97, 98, 99, 426, 427, 428, 429, 430, 431, 432, 433, 434, 435, 436, 445, 446] (by decide +kernel) (by decide +kernel)) (goodIn_sub (fun _ h => List.mem_append_left _ (List.mem_append_right _ h)) (by decide +kernel))) (goodIn_sub (fun _ h => List.mem_append_right _ h) (by decide +kernel))
set_option maxRecDepth 20000 in
theorem gL_law_L_plant : GoodIn wsL_law (va_wsS RL 63 yL_plant wsL_plant) := goodIn_app (goodIn_of _ (by decide +kernel)) ggL_law_L_plant
set_option maxRecDepth 20000 in
theorem ggL_law_X2_plant : GoodIn wsL_law wsX2_plant := goodIn_r _ [103, 37, 104, 59, 105, 106, 5, 107, 437, 438, 439, 440, 441, 442, 443, 444] (by decide +kernel) (by decide +kernel)
set_option maxRecDepth 20000 in
theorem gL_law_X2_plant : GoodIn wsL_law (wsV RL 65 RX2 yX2_plant wsX2_plant) := goodIn_app (goodIn_of _ (by decide +kernel)) ggL_law_X2_plant
set_option maxRecDepth 20000 in
theorem ggL_law_L_trellis : GoodIn wsL_law wsL_trellis := goodIn_ca (goodIn_ca (goodIn_r _ [110, 68, 44, 111, 112, 113, 2, 114, 50, 51, 22, 73, 74, 75, 76, 77, 426, 427, 428, 429, 430, 431, 432, 433, 434, 435, 436] (by decide +kernel) (by decide +kernel)) (goodIn_sub (fun _ h => List.mem_append_left _ (List.mem_append_left _ (List.mem_append_right _ h))) (by decide +kernel))) (goodIn_sub (fun _ h => List.mem_append_right _ h) (by decide +kernel))
set_option maxRecDepth 20000 in
theorem gL_law_L_trellis : GoodIn wsL_law (va_wsS RL 66 yL_trellis wsL_trellis) := goodIn_app (goodIn_of _ (by decide +kernel)) ggL_law_L_trellis
set_option maxRecDepth 20000 in
theorem ggL_law_X2_trellis : GoodIn wsL_law wsX2_trellis := goodIn_r _ [118, 59, 38, 105, 106, 5, 107, 437, 438, 439, 440, 441, 442, 443, 444] (by decide +kernel) (by decide +kernel)
set_option maxRecDepth 20000 in
theorem gL_law_X2_trellis : GoodIn wsL_law (wsV RL 69 RX2 yX2_trellis wsX2_trellis) := goodIn_app (goodIn_of _ (by decide +kernel)) ggL_law_X2_trellis
set_option maxRecDepth 20000 in
theorem ggL_law_L_cut : GoodIn wsL_law wsL_cut := goodIn_ca (goodIn_ca (goodIn_r _ [121, 68, 45, 122, 123, 124, 2, 125, 52, 53, 16, 25, 126, 127, 128, 76, 77, 129, 98, 99, 130, 83, 84, 15, 85, 86, 87, 88, 89, 31, 131, 132, 133, 134, 135, 136, 137, 138, 32, 139, 140, 141, 142, 426, 427, 428, 429, 430, 431, 432, 433, 434, 435, 436, 445, 446] (by decide +kernel) (by decide +kernel)) (goodIn_sub (fun _ h => List.mem_append_left _ (List.mem_append_right _ h)) (by decide +kernel))) (goodIn_sub (fun _ h => List.mem_append_right _ h) (by decide +kernel))
set_option maxRecDepth 20000 in
theorem gL_law_L_cut : GoodIn wsL_law (va_wsS RL 70 yL_cut wsL_cut) := goodIn_app (goodIn_of _ (by decide +kernel)) ggL_law_L_cut
set_option maxRecDepth 20000 in
theorem ggL_law_X2_cut : GoodIn wsL_law wsX2_cut := goodIn_r _ [146, 37, 39, 59, 147, 148, 5, 149, 105, 106, 107, 437, 438, 439, 440, 441, 442, 443, 444] (by decide +kernel) (by decide +kernel)
set_option maxRecDepth 20000 in
theorem gL_law_X2_cut : GoodIn wsL_law (wsV RL 72 RX2 yX2_cut wsX2_cut) := goodIn_app (goodIn_of _ (by decide +kernel)) ggL_law_X2_cut
set_option maxRecDepth 20000 in
theorem ggL_law_L_grow : GoodIn wsL_law wsL_grow := goodIn_ca (goodIn_r _ [152, 45, 153, 154, 155, 2, 156, 52, 53, 26, 27, 18, 16, 23, 22, 25, 157, 158, 159, 160, 161, 162, 163, 15, 164, 31, 165, 166, 167, 168, 169, 170, 171, 172, 173, 174, 175, 32, 176, 177, 178, 179, 86, 87, 88, 89, 180, 181, 182, 183, 184, 185, 186, 187, 188, 189, 190, 191, 192, 193, 90, 91, 92, 93, 194, 195, 196, 197, 82, 83, 84, 85, 198, 199, 200, 201, 202, 203, 204, 205, 139, 140, 141, 142, 98, 99, 206, 207, 208, 209, 426, 427, 428, 429, 430, 431, 432, 433, 434, 435, 436, 445, 446] (by decide +kernel) (by decide +kernel)) (goodIn_sub (fun _ h => List.mem_append_left _ (List.mem_append_right _ h)) (by decide +kernel))
set_option maxRecDepth 20000 in
theorem gL_law_L_grow : GoodIn wsL_law (va_wsS RL 73 yL_grow wsL_grow) := goodIn_app (goodIn_of _ (by decide +kernel)) ggL_law_L_grow
set_option maxRecDepth 20000 in
theorem ggL_law_X2_grow : GoodIn wsL_law wsX2_grow := goodIn_r _ [213, 58, 59, 214, 39, 215, 216, 217, 5, 218, 219, 220, 221, 222, 223, 224, 225, 226, 60, 37, 105, 106, 107, 227, 228, 229, 230, 231, 232, 233, 234, 235, 236, 237, 238, 239, 240, 241, 242, 243, 244, 245, 246, 247, 248, 249, 250, 251, 252, 253, 254, 38, 255, 256, 257, 258, 437, 438, 439, 440, 441, 442, 443, 444] (by decide +kernel) (by decide +kernel)
set_option maxRecDepth 20000 in
theorem gL_law_X2_grow : GoodIn wsL_law (wsV RL 76 RX2 yX2_grow wsX2_grow) := goodIn_app (goodIn_of _ (by decide +kernel)) ggL_law_X2_grow
set_option maxRecDepth 20000 in
theorem ggL_law_L_look : GoodIn wsL_law wsL_look := goodIn_ca (goodIn_r _ [261, 68, 262, 263, 264, 2, 265, 16, 126, 127, 128, 76, 77, 129, 98, 99, 130, 83, 84, 15, 85, 86, 87, 88, 89, 31, 78, 79, 80, 81, 82, 90, 91, 92, 93, 32, 426, 427, 428, 429, 430, 431, 432, 433, 434, 435, 436, 445, 446] (by decide +kernel) (by decide +kernel)) (goodIn_sub (fun _ h => List.mem_append_right _ h) (by decide +kernel))
set_option maxRecDepth 20000 in
theorem gL_law_L_look : GoodIn wsL_law (va_wsS RL 77 yL_look wsL_look) := goodIn_app (goodIn_of _ (by decide +kernel)) ggL_law_L_look
set_option maxRecDepth 20000 in
theorem ggL_law_X2_look : GoodIn wsL_law wsX2_look := goodIn_r _ [269, 59, 37, 147, 148, 5, 149, 105, 106, 107, 437, 438, 439, 440, 441, 442, 443, 444] (by decide +kernel) (by decide +kernel)
set_option maxRecDepth 20000 in
theorem gL_law_X2_look : GoodIn wsL_law (wsV RL 79 RX2 yX2_look wsX2_look) := goodIn_app (goodIn_of _ (by decide +kernel)) ggL_law_X2_look
set_option maxRecDepth 20000 in
theorem ggL_law_L_shadeOf : GoodIn wsL_law wsL_shadeOf := goodIn_ca (goodIn_r _ [272, 68, 273, 274, 275, 2, 276, 16, 126, 127, 128, 76, 77, 129, 98, 99, 277, 195, 196, 15, 197, 86, 87, 88, 89, 31, 426, 427, 428, 429, 430, 431, 432, 433, 434, 435, 436, 445, 446] (by decide +kernel) (by decide +kernel)) (goodIn_sub (fun _ h => List.mem_append_right _ h) (by decide +kernel))
set_option maxRecDepth 20000 in
theorem gL_law_L_shadeOf : GoodIn wsL_law (va_wsS RL 80 yL_shadeOf wsL_shadeOf) := goodIn_app (goodIn_of _ (by decide +kernel)) ggL_law_L_shadeOf
set_option maxRecDepth 20000 in
theorem ggL_law_X2_shadeOf : GoodIn wsL_law wsX2_shadeOf := goodIn_r _ [281, 59, 147, 148, 5, 149, 105, 106, 107, 227, 228, 229, 230, 223, 224, 225, 226, 60, 37, 437, 438, 439, 440, 441, 442, 443, 444] (by decide +kernel) (by decide +kernel)
set_option maxRecDepth 20000 in
theorem gL_law_X2_shadeOf : GoodIn wsL_law (wsV RL 82 RX2 yX2_shadeOf wsX2_shadeOf) := goodIn_app (goodIn_of _ (by decide +kernel)) ggL_law_X2_shadeOf
set_option maxRecDepth 20000 in
theorem ggL_law_L_holdersOf : GoodIn wsL_law wsL_holdersOf := goodIn_ca (goodIn_r _ [284, 68, 285, 286, 287, 2, 288, 16, 23, 126, 127, 128, 76, 77, 129, 98, 99, 289, 290, 291, 15, 292, 180, 181, 182, 183, 86, 87, 88, 89, 31, 184, 185, 186, 165, 166, 167, 168, 169, 170, 171, 426, 427, 428, 429, 430, 431, 432, 433, 434, 435, 436, 445, 446] (by decide +kernel) (by decide +kernel)) (goodIn_sub (fun _ h => List.mem_append_right _ h) (by decide +kernel))
set_option maxRecDepth 20000 in
theorem gL_law_L_holdersOf : GoodIn wsL_law (va_wsS RL 83 yL_holdersOf wsL_holdersOf) := goodIn_app (goodIn_of _ (by decide +kernel)) ggL_law_L_holdersOf
set_option maxRecDepth 20000 in
theorem ggL_law_X2_holdersOf : GoodIn wsL_law wsX2_holdersOf := goodIn_r _ [296, 59, 147, 148, 5, 149, 105, 106, 107, 239, 240, 241, 242, 243, 244, 245, 246, 223, 224, 225, 226, 60, 37, 437, 438, 439, 440, 441, 442, 443, 444] (by decide +kernel) (by decide +kernel)
set_option maxRecDepth 20000 in
theorem gL_law_X2_holdersOf : GoodIn wsL_law (wsV RL 85 RX2 yX2_holdersOf wsX2_holdersOf) := goodIn_app (goodIn_of _ (by decide +kernel)) ggL_law_X2_holdersOf
set_option maxRecDepth 20000 in
theorem ggL_law_L_neighboursOf : GoodIn wsL_law wsL_neighboursOf := goodIn_ca (goodIn_r _ [299, 68, 300, 301, 302, 2, 303, 16, 23, 126, 127, 128, 76, 77, 129, 98, 99, 304, 305, 306, 15, 307, 180, 181, 182, 183, 86, 87, 88, 89, 31, 187, 188, 189, 165, 166, 167, 168, 169, 170, 171, 426, 427, 428, 429, 430, 431, 432, 433, 434, 435, 436, 445, 446] (by decide +kernel) (by decide +kernel)) (goodIn_sub (fun _ h => List.mem_append_right _ h) (by decide +kernel))
set_option maxRecDepth 20000 in
theorem gL_law_L_neighboursOf : GoodIn wsL_law (va_wsS RL 86 yL_neighboursOf wsL_neighboursOf) := goodIn_app (goodIn_of _ (by decide +kernel)) ggL_law_L_neighboursOf
set_option maxRecDepth 20000 in
theorem ggL_law_X2_neighboursOf : GoodIn wsL_law wsX2_neighboursOf := goodIn_r _ [311, 59, 147, 148, 5, 149, 105, 106, 107, 247, 248, 249, 250, 243, 244, 245, 246, 223, 224, 225, 226, 60, 37, 437, 438, 439, 440, 441, 442, 443, 444] (by decide +kernel) (by decide +kernel)
set_option maxRecDepth 20000 in
theorem gL_law_X2_neighboursOf : GoodIn wsL_law (wsV RL 88 RX2 yX2_neighboursOf wsX2_neighboursOf) := goodIn_app (goodIn_of _ (by decide +kernel)) ggL_law_X2_neighboursOf
set_option maxRecDepth 20000 in
theorem ggL_law_L_leavesIn : GoodIn wsL_law wsL_leavesIn := goodIn_ca (goodIn_r _ [314, 68, 315, 316, 317, 2, 318, 16, 73, 74, 75, 76, 77, 319, 199, 200, 15, 201, 194, 195, 196, 197, 86, 87, 88, 89, 31, 426, 427, 428, 429, 430, 431, 432, 433, 434, 435, 436, 445, 446] (by decide +kernel) (by decide +kernel)) (goodIn_sub (fun _ h => List.mem_append_right _ h) (by decide +kernel))
set_option maxRecDepth 20000 in
theorem gL_law_L_leavesIn : GoodIn wsL_law (va_wsS RL 89 yL_leavesIn wsL_leavesIn) := goodIn_app (goodIn_of _ (by decide +kernel)) ggL_law_L_leavesIn
set_option maxRecDepth 20000 in
theorem ggL_law_X2_leavesIn : GoodIn wsL_law wsX2_leavesIn := goodIn_r _ [323, 59, 105, 106, 5, 107, 219, 220, 221, 222, 223, 224, 225, 226, 60, 37, 227, 228, 229, 230, 437, 438, 439, 440, 441, 442, 443, 444] (by decide +kernel) (by decide +kernel)
set_option maxRecDepth 20000 in
theorem gL_law_X2_leavesIn : GoodIn wsL_law (wsV RL 92 RX2 yX2_leavesIn wsX2_leavesIn) := goodIn_app (goodIn_of _ (by decide +kernel)) ggL_law_X2_leavesIn
set_option maxRecDepth 20000 in
theorem ggL_law_X1_leaves : GoodIn wsL_law wsX1_leaves := goodIn_r _ [160, 16, 161, 162, 163, 15, 164, 31, 165, 166, 167, 168, 169, 170, 171, 426, 427, 428, 429, 430, 431, 432, 433, 434, 435, 436, 445, 446] (by decide +kernel) (by decide +kernel)
set_option maxRecDepth 20000 in
theorem gL_law_X1_leaves : GoodIn wsL_law (wsV RL 93 RX1 yX1_leaves wsX1_leaves) := goodIn_app (goodIn_of _ (by decide +kernel)) ggL_law_X1_leaves
set_option maxRecDepth 20000 in
theorem ggL_law_X2_leaves : GoodIn wsL_law wsX2_leaves := goodIn_r _ [328, 59, 215, 216, 217, 5, 218, 219, 220, 221, 222, 223, 224, 225, 226, 60, 37, 105, 106, 107, 227, 228, 229, 230, 437, 438, 439, 440, 441, 442, 443, 444] (by decide +kernel) (by decide +kernel)
set_option maxRecDepth 20000 in
theorem gL_law_X2_leaves : GoodIn wsL_law (wsV RL 96 RX2 yX2_leaves wsX2_leaves) := goodIn_app (goodIn_of _ (by decide +kernel)) ggL_law_X2_leaves
set_option maxRecDepth 20000 in
theorem ggL_law_X1_lit : GoodIn wsL_law wsX1_lit := goodIn_r _ [332, 16, 333, 334, 335, 15, 336, 31, 165, 166, 167, 168, 169, 170, 171, 426, 427, 428, 429, 430, 431, 432, 433, 434, 435, 436, 445, 446] (by decide +kernel) (by decide +kernel)
set_option maxRecDepth 20000 in
theorem gL_law_X1_lit : GoodIn wsL_law (wsV RL 97 RX1 yX1_lit wsX1_lit) := goodIn_app (goodIn_of _ (by decide +kernel)) ggL_law_X1_lit
set_option maxRecDepth 20000 in
theorem ggL_law_X2_lit : GoodIn wsL_law wsX2_lit := goodIn_r _ [340, 59, 341, 342, 343, 5, 344, 219, 220, 221, 222, 223, 224, 225, 226, 60, 37, 105, 106, 107, 227, 228, 229, 230, 437, 438, 439, 440, 441, 442, 443, 444] (by decide +kernel) (by decide +kernel)
set_option maxRecDepth 20000 in
theorem gL_law_X2_lit : GoodIn wsL_law (wsV RL 100 RX2 yX2_lit wsX2_lit) := goodIn_app (goodIn_of _ (by decide +kernel)) ggL_law_X2_lit
set_option maxRecDepth 20000 in
theorem ggL_law_X1_generation : GoodIn wsL_law wsX1_generation := goodIn_r _ [348, 26, 426, 427, 428, 429, 430, 431, 432, 433, 434, 435, 436] (by decide +kernel) (by decide +kernel)
set_option maxRecDepth 20000 in
theorem gL_law_X1_generation : GoodIn wsL_law (wsV RL 101 RX1 yX1_generation wsX1_generation) := goodIn_app (goodIn_of _ (by decide +kernel)) ggL_law_X1_generation
set_option maxRecDepth 20000 in
theorem ggL_law_X2_generation : GoodIn wsL_law wsX2_generation := goodIn_r _ [352, 59, 58, 437, 438, 439, 440, 441, 442, 443, 444] (by decide +kernel) (by decide +kernel)
set_option maxRecDepth 20000 in
theorem gL_law_X2_generation : GoodIn wsL_law (wsV RL 104 RX2 yX2_generation wsX2_generation) := goodIn_app (goodIn_of _ (by decide +kernel)) ggL_law_X2_generation
set_option maxRecDepth 20000 in
theorem ggL_law_X1_cutsLeft : GoodIn wsL_law wsX1_cutsLeft := goodIn_r _ [134, 25, 426, 427, 428, 429, 430, 431, 432, 433, 434, 435, 436] (by decide +kernel) (by decide +kernel)
set_option maxRecDepth 20000 in
theorem gL_law_X1_cutsLeft : GoodIn wsL_law (wsV RL 105 RX1 yX1_cutsLeft wsX1_cutsLeft) := goodIn_app (goodIn_of _ (by decide +kernel)) ggL_law_X1_cutsLeft
set_option maxRecDepth 20000 in
theorem ggL_law_X2_cutsLeft : GoodIn wsL_law wsX2_cutsLeft := goodIn_r _ [357, 59, 39, 437, 438, 439, 440, 441, 442, 443, 444] (by decide +kernel) (by decide +kernel)
set_option maxRecDepth 20000 in
theorem gL_law_X2_cutsLeft : GoodIn wsL_law (wsV RL 108 RX2 yX2_cutsLeft wsX2_cutsLeft) := goodIn_app (goodIn_of _ (by decide +kernel)) ggL_law_X2_cutsLeft
set_option maxRecDepth 20000 in
theorem ggL_law_X1_broken : GoodIn wsL_law wsX1_broken := goodIn_r _ [361, 27, 426, 427, 428, 429, 430, 431, 432, 433, 434, 435, 436] (by decide +kernel) (by decide +kernel)
set_option maxRecDepth 20000 in
theorem gL_law_X1_broken : GoodIn wsL_law (wsV RL 109 RX1 yX1_broken wsX1_broken) := goodIn_app (goodIn_of _ (by decide +kernel)) ggL_law_X1_broken
set_option maxRecDepth 20000 in
theorem ggL_law_X2_broken : GoodIn wsL_law wsX2_broken := goodIn_r _ [365, 59, 214, 437, 438, 439, 440, 441, 442, 443, 444] (by decide +kernel) (by decide +kernel)
set_option maxRecDepth 20000 in
theorem gL_law_X2_broken : GoodIn wsL_law (wsV RL 112 RX2 yX2_broken wsX2_broken) := goodIn_app (goodIn_of _ (by decide +kernel)) ggL_law_X2_broken
set_option maxRecDepth 20000 in
theorem ggL_law_X1_leavesNext : GoodIn wsL_law wsX1_leavesNext := goodIn_r _ [369, 18, 16, 23, 22, 172, 173, 174, 15, 175, 31, 32, 176, 177, 178, 179, 86, 87, 88, 89, 180, 181, 182, 183, 184, 185, 186, 165, 166, 167, 168, 169, 170, 171, 187, 188, 189, 190, 191, 192, 193, 90, 91, 92, 93, 194, 195, 196, 197, 82, 83, 84, 85, 198, 199, 200, 201, 202, 203, 204, 205, 139, 140, 141, 142, 98, 2, 99, 161, 162, 163, 164, 426, 427, 428, 429, 430, 431, 432, 433, 434, 435, 436, 445, 446] (by decide +kernel) (by decide +kernel)
set_option maxRecDepth 20000 in
theorem gL_law_X1_leavesNext : GoodIn wsL_law (wsV RL 113 RX1 yX1_leavesNext wsX1_leavesNext) := goodIn_app (goodIn_of _ (by decide +kernel)) ggL_law_X1_leavesNext
set_option maxRecDepth 20000 in
theorem ggL_law_X2_leavesNext : GoodIn wsL_law wsX2_leavesNext := goodIn_r _ [373, 59, 231, 232, 233, 5, 234, 37, 235, 236, 237, 238, 239, 240, 241, 242, 243, 244, 245, 246, 223, 224, 225, 226, 60, 105, 106, 107, 247, 248, 249, 250, 227, 228, 229, 230, 251, 252, 253, 254, 38, 219, 220, 221, 222, 215, 216, 217, 218, 437, 438, 439, 440, 441, 442, 443, 444] (by decide +kernel) (by decide +kernel)
set_option maxRecDepth 20000 in
theorem gL_law_X2_leavesNext : GoodIn wsL_law (wsV RL 116 RX2 yX2_leavesNext wsX2_leavesNext) := goodIn_app (goodIn_of _ (by decide +kernel)) ggL_law_X2_leavesNext
set_option maxRecDepth 20000 in
theorem ggL_law_X1_repeatsIn : GoodIn wsL_law wsX1_repeatsIn := goodIn_r _ [377, 16, 17, 18, 23, 22, 378, 379, 380, 15, 381, 32, 206, 207, 208, 209, 31, 382, 383, 384, 2, 385, 19, 20, 386, 387, 388, 389, 86, 87, 88, 89, 172, 173, 174, 175, 176, 177, 178, 179, 180, 181, 182, 183, 184, 185, 186, 165, 166, 167, 168, 169, 170, 171, 187, 188, 189, 190, 191, 192, 193, 90, 91, 92, 93, 194, 195, 196, 197, 82, 83, 84, 85, 198, 199, 200, 201, 202, 203, 204, 205, 139, 140, 141, 142, 98, 99, 390, 391, 392, 393, 426, 427, 428, 429, 430, 431, 432, 433, 434, 435, 436, 445, 446] (by decide +kernel) (by decide +kernel)
set_option maxRecDepth 20000 in
theorem gL_law_X1_repeatsIn : GoodIn wsL_law (wsV RL 117 RX1 yX1_repeatsIn wsX1_repeatsIn) := goodIn_app (goodIn_of _ (by decide +kernel)) ggL_law_X1_repeatsIn
set_option maxRecDepth 20000 in
theorem ggL_law_X2_repeatsIn : GoodIn wsL_law wsX2_repeatsIn := goodIn_r _ [397, 59, 231, 232, 233, 5, 234, 37, 235, 236, 237, 238, 239, 240, 241, 242, 243, 244, 245, 246, 223, 224, 225, 226, 60, 105, 106, 107, 247, 248, 249, 250, 227, 228, 229, 230, 251, 252, 253, 254, 38, 219, 220, 221, 222, 398, 399, 400, 401, 437, 438, 439, 440, 441, 442, 443, 444] (by decide +kernel) (by decide +kernel)
set_option maxRecDepth 20000 in
theorem gL_law_X2_repeatsIn : GoodIn wsL_law (wsV RL 120 RX2 yX2_repeatsIn wsX2_repeatsIn) := goodIn_app (goodIn_of _ (by decide +kernel)) ggL_law_X2_repeatsIn
set_option maxRecDepth 20000 in
theorem ggL_law_X1_bestCut : GoodIn wsL_law wsX1_bestCut := goodIn_r _ [405, 16, 130, 83, 84, 15, 85, 86, 87, 88, 89, 31, 406, 407, 408, 2, 409, 17, 18, 23, 22, 206, 207, 208, 209, 32, 135, 136, 137, 138, 139, 140, 141, 142, 98, 99, 172, 173, 174, 175, 176, 177, 178, 179, 180, 181, 182, 183, 184, 185, 186, 165, 166, 167, 168, 169, 170, 171, 187, 188, 189, 190, 191, 192, 193, 90, 91, 92, 93, 194, 195, 196, 197, 82, 198, 199, 200, 201, 202, 203, 204, 205, 333, 334, 335, 336, 426, 427, 428, 429, 430, 431, 432, 433, 434, 435, 436, 445, 446] (by decide +kernel) (by decide +kernel)
set_option maxRecDepth 20000 in
theorem gL_law_X1_bestCut : GoodIn wsL_law (wsV RL 121 RX1 yX1_bestCut wsX1_bestCut) := goodIn_app (goodIn_of _ (by decide +kernel)) ggL_law_X1_bestCut
set_option maxRecDepth 20000 in
theorem ggL_law_X2_bestCut : GoodIn wsL_law wsX2_bestCut := goodIn_r _ [413, 59, 37, 255, 256, 257, 5, 258, 231, 232, 233, 234, 235, 236, 237, 238, 239, 240, 241, 242, 243, 244, 245, 246, 223, 224, 225, 226, 60, 105, 106, 107, 247, 248, 249, 250, 227, 228, 229, 230, 251, 252, 253, 254, 38, 219, 220, 221, 222, 341, 342, 343, 344, 437, 438, 439, 440, 441, 442, 443, 444] (by decide +kernel) (by decide +kernel)
set_option maxRecDepth 20000 in
theorem gL_law_X2_bestCut : GoodIn wsL_law (wsV RL 124 RX2 yX2_bestCut wsX2_bestCut) := goodIn_app (goodIn_of _ (by decide +kernel)) ggL_law_X2_bestCut
set_option maxRecDepth 20000 in
theorem ggL_law_X1_clear : GoodIn wsL_law wsX1_clear := goodIn_r _ [417, 16, 24, 25, 26, 27, 418, 419, 420, 15, 421, 31, 32, 426, 427, 428, 429, 430, 431, 432, 433, 434, 435, 436, 445, 446] (by decide +kernel) (by decide +kernel)
set_option maxRecDepth 20000 in
theorem gL_law_X1_clear : GoodIn wsL_law (wsV RL 125 RX1 yX1_clear wsX1_clear) := goodIn_app (goodIn_of _ (by decide +kernel)) ggL_law_X1_clear
set_option maxRecDepth 20000 in
theorem ggL_law_X2_clear : GoodIn wsL_law wsX2_clear := goodIn_r _ [425, 59, 37, 58, 39, 104, 214, 437, 438, 439, 440, 441, 442, 443, 444] (by decide +kernel) (by decide +kernel)
set_option maxRecDepth 20000 in
theorem gL_law_X2_clear : GoodIn wsL_law (wsV RL 128 RX2 yX2_clear wsX2_clear) := goodIn_app (goodIn_of _ (by decide +kernel)) ggL_law_X2_clear
theorem dL_law_0 : decode cL_law 0 = .ok (.new 8, 3) := by decide +kernel
theorem dL_law_3 : decode cL_law 3 = .ok (.dup, 1) := by decide +kernel
theorem dL_law_4 : decode cL_law 4 = .ok (.invokespecial 50, 3) := by decide +kernel
theorem dL_law_7 : decode cL_law 7 = .ok (.astore_n 1, 1) := by decide +kernel
theorem dL_law_8 : decode cL_law 8 = .ok (.new 51, 3) := by decide +kernel
theorem dL_law_11 : decode cL_law 11 = .ok (.dup, 1) := by decide +kernel
theorem dL_law_12 : decode cL_law 12 = .ok (.invokespecial 53, 3) := by decide +kernel
theorem dL_law_15 : decode cL_law 15 = .ok (.astore_n 2, 1) := by decide +kernel
theorem dL_law_16 : decode cL_law 16 = .ok (.iconst 1, 1) := by decide +kernel
theorem dL_law_17 : decode cL_law 17 = .ok (.newarray .long, 2) := by decide +kernel
theorem dL_law_19 : decode cL_law 19 = .ok (.astore_n 3, 1) := by decide +kernel
theorem dL_law_20 : decode cL_law 20 = .ok (.iconst 0, 1) := by decide +kernel
theorem dL_law_21 : decode cL_law 21 = .ok (.istore 4, 2) := by decide +kernel
theorem dL_law_23 : decode cL_law 23 = .ok (.iload 4, 2) := by decide +kernel
theorem dL_law_25 : decode cL_law 25 = .ok (.aload_n 0, 1) := by decide +kernel
theorem dL_law_26 : decode cL_law 26 = .ok (.arraylength, 1) := by decide +kernel
theorem dL_law_27 : decode cL_law 27 = .ok (.iconst 3, 1) := by decide +kernel
theorem dL_law_28 : decode cL_law 28 = .ok (.isub, 1) := by decide +kernel
theorem dL_law_29 : decode cL_law 29 = .ok (.if_icmp .gt 800, 3) := by decide +kernel
theorem dL_law_32 : decode cL_law 32 = .ok (.aload_n 0, 1) := by decide +kernel
theorem dL_law_33 : decode cL_law 33 = .ok (.iload 4, 2) := by decide +kernel
theorem dL_law_35 : decode cL_law 35 = .ok (.iaload, 1) := by decide +kernel
theorem dL_law_36 : decode cL_law 36 = .ok (.bipush 31, 2) := by decide +kernel
theorem dL_law_38 : decode cL_law 38 = .ok (.iand, 1) := by decide +kernel
theorem dL_law_39 : decode cL_law 39 = .ok (.tableswitch 784 0 18 #[89, 125, 161, 229, 297, 341, 409, 477, 545, 613, 669, 682, 695, 708, 721, 734, 747, 760, 773], 89) := by decide +kernel
theorem dL_law_128 : decode cL_law 128 = .ok (.aload_n 1, 1) := by decide +kernel
theorem dL_law_129 : decode cL_law 129 = .ok (.aload_n 0, 1) := by decide +kernel
theorem dL_law_130 : decode cL_law 130 = .ok (.iload 4, 2) := by decide +kernel
theorem dL_law_132 : decode cL_law 132 = .ok (.iconst 1, 1) := by decide +kernel
theorem dL_law_133 : decode cL_law 133 = .ok (.iadd, 1) := by decide +kernel
theorem dL_law_134 : decode cL_law 134 = .ok (.iaload, 1) := by decide +kernel
theorem dL_law_135 : decode cL_law 135 = .ok (.invokestatic 54, 3) := by decide +kernel
theorem dL_law_138 : decode cL_law 138 = .ok (.istore 5, 2) := by decide +kernel
theorem dL_law_140 : decode cL_law 140 = .ok (.aload_n 2, 1) := by decide +kernel
theorem dL_law_141 : decode cL_law 141 = .ok (.aload_n 0, 1) := by decide +kernel
theorem dL_law_142 : decode cL_law 142 = .ok (.iload 4, 2) := by decide +kernel
theorem dL_law_144 : decode cL_law 144 = .ok (.iconst 1, 1) := by decide +kernel
theorem dL_law_145 : decode cL_law 145 = .ok (.iadd, 1) := by decide +kernel
theorem dL_law_146 : decode cL_law 146 = .ok (.iaload, 1) := by decide +kernel
theorem dL_law_147 : decode cL_law 147 = .ok (.invokevirtual 59, 3) := by decide +kernel
theorem dL_law_150 : decode cL_law 150 = .ok (.aload_n 2, 1) := by decide +kernel
theorem dL_law_151 : decode cL_law 151 = .ok (.invokevirtual 60, 3) := by decide +kernel
theorem dL_law_154 : decode cL_law 154 = .ok (.iload 5, 2) := by decide +kernel
theorem dL_law_156 : decode cL_law 156 = .ok (.if_icmp .eq 5, 3) := by decide +kernel
theorem dL_law_159 : decode cL_law 159 = .ok (.iconst 0, 1) := by decide +kernel
theorem dL_law_160 : decode cL_law 160 = .ok (.ireturn, 1) := by decide +kernel
theorem dL_law_161 : decode cL_law 161 = .ok (.goto 662, 3) := by decide +kernel
theorem dL_law_164 : decode cL_law 164 = .ok (.aload_n 1, 1) := by decide +kernel
theorem dL_law_165 : decode cL_law 165 = .ok (.aload_n 0, 1) := by decide +kernel
theorem dL_law_166 : decode cL_law 166 = .ok (.iload 4, 2) := by decide +kernel
theorem dL_law_168 : decode cL_law 168 = .ok (.iconst 1, 1) := by decide +kernel
theorem dL_law_169 : decode cL_law 169 = .ok (.iadd, 1) := by decide +kernel
theorem dL_law_170 : decode cL_law 170 = .ok (.iaload, 1) := by decide +kernel
theorem dL_law_171 : decode cL_law 171 = .ok (.invokestatic 63, 3) := by decide +kernel
theorem dL_law_174 : decode cL_law 174 = .ok (.istore 5, 2) := by decide +kernel
theorem dL_law_176 : decode cL_law 176 = .ok (.aload_n 2, 1) := by decide +kernel
theorem dL_law_177 : decode cL_law 177 = .ok (.aload_n 0, 1) := by decide +kernel
theorem dL_law_178 : decode cL_law 178 = .ok (.iload 4, 2) := by decide +kernel
theorem dL_law_180 : decode cL_law 180 = .ok (.iconst 1, 1) := by decide +kernel
theorem dL_law_181 : decode cL_law 181 = .ok (.iadd, 1) := by decide +kernel
theorem dL_law_182 : decode cL_law 182 = .ok (.iaload, 1) := by decide +kernel
theorem dL_law_183 : decode cL_law 183 = .ok (.invokevirtual 65, 3) := by decide +kernel
theorem dL_law_186 : decode cL_law 186 = .ok (.aload_n 2, 1) := by decide +kernel
theorem dL_law_187 : decode cL_law 187 = .ok (.invokevirtual 60, 3) := by decide +kernel
theorem dL_law_190 : decode cL_law 190 = .ok (.iload 5, 2) := by decide +kernel
theorem dL_law_192 : decode cL_law 192 = .ok (.if_icmp .eq 5, 3) := by decide +kernel
theorem dL_law_195 : decode cL_law 195 = .ok (.iconst 0, 1) := by decide +kernel
theorem dL_law_196 : decode cL_law 196 = .ok (.ireturn, 1) := by decide +kernel
theorem dL_law_197 : decode cL_law 197 = .ok (.goto 626, 3) := by decide +kernel
theorem dL_law_200 : decode cL_law 200 = .ok (.aload_n 1, 1) := by decide +kernel
theorem dL_law_201 : decode cL_law 201 = .ok (.aload_n 0, 1) := by decide +kernel
theorem dL_law_202 : decode cL_law 202 = .ok (.iload 4, 2) := by decide +kernel
theorem dL_law_204 : decode cL_law 204 = .ok (.iconst 1, 1) := by decide +kernel
theorem dL_law_205 : decode cL_law 205 = .ok (.iadd, 1) := by decide +kernel
theorem dL_law_206 : decode cL_law 206 = .ok (.iaload, 1) := by decide +kernel
theorem dL_law_207 : decode cL_law 207 = .ok (.aload_n 0, 1) := by decide +kernel
theorem dL_law_208 : decode cL_law 208 = .ok (.iload 4, 2) := by decide +kernel
theorem dL_law_210 : decode cL_law 210 = .ok (.iconst 2, 1) := by decide +kernel
theorem dL_law_211 : decode cL_law 211 = .ok (.iadd, 1) := by decide +kernel
theorem dL_law_212 : decode cL_law 212 = .ok (.iaload, 1) := by decide +kernel
theorem dL_law_213 : decode cL_law 213 = .ok (.aload_n 3, 1) := by decide +kernel
theorem dL_law_214 : decode cL_law 214 = .ok (.invokestatic 66, 3) := by decide +kernel
theorem dL_law_217 : decode cL_law 217 = .ok (.istore 5, 2) := by decide +kernel
theorem dL_law_219 : decode cL_law 219 = .ok (.aload_n 2, 1) := by decide +kernel
theorem dL_law_220 : decode cL_law 220 = .ok (.aload_n 0, 1) := by decide +kernel
theorem dL_law_221 : decode cL_law 221 = .ok (.iload 4, 2) := by decide +kernel
theorem dL_law_223 : decode cL_law 223 = .ok (.iconst 1, 1) := by decide +kernel
theorem dL_law_224 : decode cL_law 224 = .ok (.iadd, 1) := by decide +kernel
theorem dL_law_225 : decode cL_law 225 = .ok (.iaload, 1) := by decide +kernel
theorem dL_law_226 : decode cL_law 226 = .ok (.aload_n 0, 1) := by decide +kernel
theorem dL_law_227 : decode cL_law 227 = .ok (.iload 4, 2) := by decide +kernel
theorem dL_law_229 : decode cL_law 229 = .ok (.iconst 2, 1) := by decide +kernel
theorem dL_law_230 : decode cL_law 230 = .ok (.iadd, 1) := by decide +kernel
theorem dL_law_231 : decode cL_law 231 = .ok (.iaload, 1) := by decide +kernel
theorem dL_law_232 : decode cL_law 232 = .ok (.invokevirtual 69, 3) := by decide +kernel
theorem dL_law_235 : decode cL_law 235 = .ok (.istore 6, 2) := by decide +kernel
theorem dL_law_237 : decode cL_law 237 = .ok (.aload_n 2, 1) := by decide +kernel
theorem dL_law_238 : decode cL_law 238 = .ok (.invokevirtual 60, 3) := by decide +kernel
theorem dL_law_241 : decode cL_law 241 = .ok (.iload 5, 2) := by decide +kernel
theorem dL_law_243 : decode cL_law 243 = .ok (.if_icmp .eq 5, 3) := by decide +kernel
theorem dL_law_246 : decode cL_law 246 = .ok (.iconst 0, 1) := by decide +kernel
theorem dL_law_247 : decode cL_law 247 = .ok (.ireturn, 1) := by decide +kernel
theorem dL_law_248 : decode cL_law 248 = .ok (.iload 5, 2) := by decide +kernel
theorem dL_law_250 : decode cL_law 250 = .ok (.ifCond .ne 15, 3) := by decide +kernel
theorem dL_law_253 : decode cL_law 253 = .ok (.aload_n 3, 1) := by decide +kernel
theorem dL_law_254 : decode cL_law 254 = .ok (.iconst 0, 1) := by decide +kernel
theorem dL_law_255 : decode cL_law 255 = .ok (.laload, 1) := by decide +kernel
theorem dL_law_256 : decode cL_law 256 = .ok (.iload 6, 2) := by decide +kernel
theorem dL_law_258 : decode cL_law 258 = .ok (.i2l, 1) := by decide +kernel
theorem dL_law_259 : decode cL_law 259 = .ok (.lcmp, 1) := by decide +kernel
theorem dL_law_260 : decode cL_law 260 = .ok (.ifCond .eq 5, 3) := by decide +kernel
theorem dL_law_263 : decode cL_law 263 = .ok (.iconst 0, 1) := by decide +kernel
theorem dL_law_264 : decode cL_law 264 = .ok (.ireturn, 1) := by decide +kernel
theorem dL_law_265 : decode cL_law 265 = .ok (.goto 558, 3) := by decide +kernel
theorem dL_law_268 : decode cL_law 268 = .ok (.aload_n 1, 1) := by decide +kernel
theorem dL_law_269 : decode cL_law 269 = .ok (.aload_n 0, 1) := by decide +kernel
theorem dL_law_270 : decode cL_law 270 = .ok (.iload 4, 2) := by decide +kernel
theorem dL_law_272 : decode cL_law 272 = .ok (.iconst 1, 1) := by decide +kernel
theorem dL_law_273 : decode cL_law 273 = .ok (.iadd, 1) := by decide +kernel
theorem dL_law_274 : decode cL_law 274 = .ok (.iaload, 1) := by decide +kernel
theorem dL_law_275 : decode cL_law 275 = .ok (.aload_n 0, 1) := by decide +kernel
theorem dL_law_276 : decode cL_law 276 = .ok (.iload 4, 2) := by decide +kernel
theorem dL_law_278 : decode cL_law 278 = .ok (.iconst 2, 1) := by decide +kernel
theorem dL_law_279 : decode cL_law 279 = .ok (.iadd, 1) := by decide +kernel
theorem dL_law_280 : decode cL_law 280 = .ok (.iaload, 1) := by decide +kernel
theorem dL_law_281 : decode cL_law 281 = .ok (.aload_n 3, 1) := by decide +kernel
theorem dL_law_282 : decode cL_law 282 = .ok (.invokestatic 70, 3) := by decide +kernel
theorem dL_law_285 : decode cL_law 285 = .ok (.istore 5, 2) := by decide +kernel
theorem dL_law_287 : decode cL_law 287 = .ok (.aload_n 2, 1) := by decide +kernel
theorem dL_law_288 : decode cL_law 288 = .ok (.aload_n 0, 1) := by decide +kernel
theorem dL_law_289 : decode cL_law 289 = .ok (.iload 4, 2) := by decide +kernel
theorem dL_law_291 : decode cL_law 291 = .ok (.iconst 1, 1) := by decide +kernel
theorem dL_law_292 : decode cL_law 292 = .ok (.iadd, 1) := by decide +kernel
theorem dL_law_293 : decode cL_law 293 = .ok (.iaload, 1) := by decide +kernel
theorem dL_law_294 : decode cL_law 294 = .ok (.aload_n 0, 1) := by decide +kernel
theorem dL_law_295 : decode cL_law 295 = .ok (.iload 4, 2) := by decide +kernel
theorem dL_law_297 : decode cL_law 297 = .ok (.iconst 2, 1) := by decide +kernel
theorem dL_law_298 : decode cL_law 298 = .ok (.iadd, 1) := by decide +kernel
theorem dL_law_299 : decode cL_law 299 = .ok (.iaload, 1) := by decide +kernel
theorem dL_law_300 : decode cL_law 300 = .ok (.invokevirtual 72, 3) := by decide +kernel
theorem dL_law_303 : decode cL_law 303 = .ok (.istore 6, 2) := by decide +kernel
theorem dL_law_305 : decode cL_law 305 = .ok (.aload_n 2, 1) := by decide +kernel
theorem dL_law_306 : decode cL_law 306 = .ok (.invokevirtual 60, 3) := by decide +kernel
theorem dL_law_309 : decode cL_law 309 = .ok (.iload 5, 2) := by decide +kernel
theorem dL_law_311 : decode cL_law 311 = .ok (.if_icmp .eq 5, 3) := by decide +kernel
theorem dL_law_314 : decode cL_law 314 = .ok (.iconst 0, 1) := by decide +kernel
theorem dL_law_315 : decode cL_law 315 = .ok (.ireturn, 1) := by decide +kernel
theorem dL_law_316 : decode cL_law 316 = .ok (.iload 5, 2) := by decide +kernel
theorem dL_law_318 : decode cL_law 318 = .ok (.ifCond .ne 15, 3) := by decide +kernel
theorem dL_law_321 : decode cL_law 321 = .ok (.aload_n 3, 1) := by decide +kernel
theorem dL_law_322 : decode cL_law 322 = .ok (.iconst 0, 1) := by decide +kernel
theorem dL_law_323 : decode cL_law 323 = .ok (.laload, 1) := by decide +kernel
theorem dL_law_324 : decode cL_law 324 = .ok (.iload 6, 2) := by decide +kernel
theorem dL_law_326 : decode cL_law 326 = .ok (.i2l, 1) := by decide +kernel
theorem dL_law_327 : decode cL_law 327 = .ok (.lcmp, 1) := by decide +kernel
theorem dL_law_328 : decode cL_law 328 = .ok (.ifCond .eq 5, 3) := by decide +kernel
theorem dL_law_331 : decode cL_law 331 = .ok (.iconst 0, 1) := by decide +kernel
theorem dL_law_332 : decode cL_law 332 = .ok (.ireturn, 1) := by decide +kernel
theorem dL_law_333 : decode cL_law 333 = .ok (.goto 490, 3) := by decide +kernel
theorem dL_law_336 : decode cL_law 336 = .ok (.aload_n 1, 1) := by decide +kernel
theorem dL_law_337 : decode cL_law 337 = .ok (.aload_n 3, 1) := by decide +kernel
theorem dL_law_338 : decode cL_law 338 = .ok (.invokestatic 73, 3) := by decide +kernel
theorem dL_law_341 : decode cL_law 341 = .ok (.istore 5, 2) := by decide +kernel
theorem dL_law_343 : decode cL_law 343 = .ok (.aload_n 2, 1) := by decide +kernel
theorem dL_law_344 : decode cL_law 344 = .ok (.invokevirtual 76, 3) := by decide +kernel
theorem dL_law_347 : decode cL_law 347 = .ok (.istore 6, 2) := by decide +kernel
theorem dL_law_349 : decode cL_law 349 = .ok (.aload_n 2, 1) := by decide +kernel
theorem dL_law_350 : decode cL_law 350 = .ok (.invokevirtual 60, 3) := by decide +kernel
theorem dL_law_353 : decode cL_law 353 = .ok (.iload 5, 2) := by decide +kernel
theorem dL_law_355 : decode cL_law 355 = .ok (.if_icmp .eq 5, 3) := by decide +kernel
theorem dL_law_358 : decode cL_law 358 = .ok (.iconst 0, 1) := by decide +kernel
theorem dL_law_359 : decode cL_law 359 = .ok (.ireturn, 1) := by decide +kernel
theorem dL_law_360 : decode cL_law 360 = .ok (.iload 5, 2) := by decide +kernel
theorem dL_law_362 : decode cL_law 362 = .ok (.ifCond .ne 15, 3) := by decide +kernel
theorem dL_law_365 : decode cL_law 365 = .ok (.aload_n 3, 1) := by decide +kernel
theorem dL_law_366 : decode cL_law 366 = .ok (.iconst 0, 1) := by decide +kernel
theorem dL_law_367 : decode cL_law 367 = .ok (.laload, 1) := by decide +kernel
theorem dL_law_368 : decode cL_law 368 = .ok (.iload 6, 2) := by decide +kernel
theorem dL_law_370 : decode cL_law 370 = .ok (.i2l, 1) := by decide +kernel
theorem dL_law_371 : decode cL_law 371 = .ok (.lcmp, 1) := by decide +kernel
theorem dL_law_372 : decode cL_law 372 = .ok (.ifCond .eq 5, 3) := by decide +kernel
theorem dL_law_375 : decode cL_law 375 = .ok (.iconst 0, 1) := by decide +kernel
theorem dL_law_376 : decode cL_law 376 = .ok (.ireturn, 1) := by decide +kernel
theorem dL_law_377 : decode cL_law 377 = .ok (.goto 446, 3) := by decide +kernel
theorem dL_law_380 : decode cL_law 380 = .ok (.aload_n 1, 1) := by decide +kernel
theorem dL_law_381 : decode cL_law 381 = .ok (.aload_n 0, 1) := by decide +kernel
theorem dL_law_382 : decode cL_law 382 = .ok (.iload 4, 2) := by decide +kernel
theorem dL_law_384 : decode cL_law 384 = .ok (.iconst 1, 1) := by decide +kernel
theorem dL_law_385 : decode cL_law 385 = .ok (.iadd, 1) := by decide +kernel
theorem dL_law_386 : decode cL_law 386 = .ok (.iaload, 1) := by decide +kernel
theorem dL_law_387 : decode cL_law 387 = .ok (.aload_n 0, 1) := by decide +kernel
theorem dL_law_388 : decode cL_law 388 = .ok (.iload 4, 2) := by decide +kernel
theorem dL_law_390 : decode cL_law 390 = .ok (.iconst 2, 1) := by decide +kernel
theorem dL_law_391 : decode cL_law 391 = .ok (.iadd, 1) := by decide +kernel
theorem dL_law_392 : decode cL_law 392 = .ok (.iaload, 1) := by decide +kernel
theorem dL_law_393 : decode cL_law 393 = .ok (.aload_n 3, 1) := by decide +kernel
theorem dL_law_394 : decode cL_law 394 = .ok (.invokestatic 77, 3) := by decide +kernel
theorem dL_law_397 : decode cL_law 397 = .ok (.istore 5, 2) := by decide +kernel
theorem dL_law_399 : decode cL_law 399 = .ok (.aload_n 2, 1) := by decide +kernel
theorem dL_law_400 : decode cL_law 400 = .ok (.aload_n 0, 1) := by decide +kernel
theorem dL_law_401 : decode cL_law 401 = .ok (.iload 4, 2) := by decide +kernel
theorem dL_law_403 : decode cL_law 403 = .ok (.iconst 1, 1) := by decide +kernel
theorem dL_law_404 : decode cL_law 404 = .ok (.iadd, 1) := by decide +kernel
theorem dL_law_405 : decode cL_law 405 = .ok (.iaload, 1) := by decide +kernel
theorem dL_law_406 : decode cL_law 406 = .ok (.aload_n 0, 1) := by decide +kernel
theorem dL_law_407 : decode cL_law 407 = .ok (.iload 4, 2) := by decide +kernel
theorem dL_law_409 : decode cL_law 409 = .ok (.iconst 2, 1) := by decide +kernel
theorem dL_law_410 : decode cL_law 410 = .ok (.iadd, 1) := by decide +kernel
theorem dL_law_411 : decode cL_law 411 = .ok (.iaload, 1) := by decide +kernel
theorem dL_law_412 : decode cL_law 412 = .ok (.invokevirtual 79, 3) := by decide +kernel
theorem dL_law_415 : decode cL_law 415 = .ok (.istore 6, 2) := by decide +kernel
theorem dL_law_417 : decode cL_law 417 = .ok (.aload_n 2, 1) := by decide +kernel
theorem dL_law_418 : decode cL_law 418 = .ok (.invokevirtual 60, 3) := by decide +kernel
theorem dL_law_421 : decode cL_law 421 = .ok (.iload 5, 2) := by decide +kernel
theorem dL_law_423 : decode cL_law 423 = .ok (.if_icmp .eq 5, 3) := by decide +kernel
theorem dL_law_426 : decode cL_law 426 = .ok (.iconst 0, 1) := by decide +kernel
theorem dL_law_427 : decode cL_law 427 = .ok (.ireturn, 1) := by decide +kernel
theorem dL_law_428 : decode cL_law 428 = .ok (.iload 5, 2) := by decide +kernel
theorem dL_law_430 : decode cL_law 430 = .ok (.ifCond .ne 15, 3) := by decide +kernel
theorem dL_law_433 : decode cL_law 433 = .ok (.aload_n 3, 1) := by decide +kernel
theorem dL_law_434 : decode cL_law 434 = .ok (.iconst 0, 1) := by decide +kernel
theorem dL_law_435 : decode cL_law 435 = .ok (.laload, 1) := by decide +kernel
theorem dL_law_436 : decode cL_law 436 = .ok (.iload 6, 2) := by decide +kernel
theorem dL_law_438 : decode cL_law 438 = .ok (.i2l, 1) := by decide +kernel
theorem dL_law_439 : decode cL_law 439 = .ok (.lcmp, 1) := by decide +kernel
theorem dL_law_440 : decode cL_law 440 = .ok (.ifCond .eq 5, 3) := by decide +kernel
theorem dL_law_443 : decode cL_law 443 = .ok (.iconst 0, 1) := by decide +kernel
theorem dL_law_444 : decode cL_law 444 = .ok (.ireturn, 1) := by decide +kernel
theorem dL_law_445 : decode cL_law 445 = .ok (.goto 378, 3) := by decide +kernel
theorem dL_law_448 : decode cL_law 448 = .ok (.aload_n 1, 1) := by decide +kernel
theorem dL_law_449 : decode cL_law 449 = .ok (.aload_n 0, 1) := by decide +kernel
theorem dL_law_450 : decode cL_law 450 = .ok (.iload 4, 2) := by decide +kernel
theorem dL_law_452 : decode cL_law 452 = .ok (.iconst 1, 1) := by decide +kernel
theorem dL_law_453 : decode cL_law 453 = .ok (.iadd, 1) := by decide +kernel
theorem dL_law_454 : decode cL_law 454 = .ok (.iaload, 1) := by decide +kernel
theorem dL_law_455 : decode cL_law 455 = .ok (.aload_n 0, 1) := by decide +kernel
theorem dL_law_456 : decode cL_law 456 = .ok (.iload 4, 2) := by decide +kernel
theorem dL_law_458 : decode cL_law 458 = .ok (.iconst 2, 1) := by decide +kernel
theorem dL_law_459 : decode cL_law 459 = .ok (.iadd, 1) := by decide +kernel
theorem dL_law_460 : decode cL_law 460 = .ok (.iaload, 1) := by decide +kernel
theorem dL_law_461 : decode cL_law 461 = .ok (.aload_n 3, 1) := by decide +kernel
theorem dL_law_462 : decode cL_law 462 = .ok (.invokestatic 80, 3) := by decide +kernel
theorem dL_law_465 : decode cL_law 465 = .ok (.istore 5, 2) := by decide +kernel
theorem dL_law_467 : decode cL_law 467 = .ok (.aload_n 2, 1) := by decide +kernel
theorem dL_law_468 : decode cL_law 468 = .ok (.aload_n 0, 1) := by decide +kernel
theorem dL_law_469 : decode cL_law 469 = .ok (.iload 4, 2) := by decide +kernel
theorem dL_law_471 : decode cL_law 471 = .ok (.iconst 1, 1) := by decide +kernel
theorem dL_law_472 : decode cL_law 472 = .ok (.iadd, 1) := by decide +kernel
theorem dL_law_473 : decode cL_law 473 = .ok (.iaload, 1) := by decide +kernel
theorem dL_law_474 : decode cL_law 474 = .ok (.aload_n 0, 1) := by decide +kernel
theorem dL_law_475 : decode cL_law 475 = .ok (.iload 4, 2) := by decide +kernel
theorem dL_law_477 : decode cL_law 477 = .ok (.iconst 2, 1) := by decide +kernel
theorem dL_law_478 : decode cL_law 478 = .ok (.iadd, 1) := by decide +kernel
theorem dL_law_479 : decode cL_law 479 = .ok (.iaload, 1) := by decide +kernel
theorem dL_law_480 : decode cL_law 480 = .ok (.invokevirtual 82, 3) := by decide +kernel
theorem dL_law_483 : decode cL_law 483 = .ok (.istore 6, 2) := by decide +kernel
theorem dL_law_485 : decode cL_law 485 = .ok (.aload_n 2, 1) := by decide +kernel
theorem dL_law_486 : decode cL_law 486 = .ok (.invokevirtual 60, 3) := by decide +kernel
theorem dL_law_489 : decode cL_law 489 = .ok (.iload 5, 2) := by decide +kernel
theorem dL_law_491 : decode cL_law 491 = .ok (.if_icmp .eq 5, 3) := by decide +kernel
theorem dL_law_494 : decode cL_law 494 = .ok (.iconst 0, 1) := by decide +kernel
theorem dL_law_495 : decode cL_law 495 = .ok (.ireturn, 1) := by decide +kernel
theorem dL_law_496 : decode cL_law 496 = .ok (.iload 5, 2) := by decide +kernel
theorem dL_law_498 : decode cL_law 498 = .ok (.ifCond .ne 15, 3) := by decide +kernel
theorem dL_law_501 : decode cL_law 501 = .ok (.aload_n 3, 1) := by decide +kernel
theorem dL_law_502 : decode cL_law 502 = .ok (.iconst 0, 1) := by decide +kernel
theorem dL_law_503 : decode cL_law 503 = .ok (.laload, 1) := by decide +kernel
theorem dL_law_504 : decode cL_law 504 = .ok (.iload 6, 2) := by decide +kernel
theorem dL_law_506 : decode cL_law 506 = .ok (.i2l, 1) := by decide +kernel
theorem dL_law_507 : decode cL_law 507 = .ok (.lcmp, 1) := by decide +kernel
theorem dL_law_508 : decode cL_law 508 = .ok (.ifCond .eq 5, 3) := by decide +kernel
theorem dL_law_511 : decode cL_law 511 = .ok (.iconst 0, 1) := by decide +kernel
theorem dL_law_512 : decode cL_law 512 = .ok (.ireturn, 1) := by decide +kernel
theorem dL_law_513 : decode cL_law 513 = .ok (.goto 310, 3) := by decide +kernel
theorem dL_law_516 : decode cL_law 516 = .ok (.aload_n 1, 1) := by decide +kernel
theorem dL_law_517 : decode cL_law 517 = .ok (.aload_n 0, 1) := by decide +kernel
theorem dL_law_518 : decode cL_law 518 = .ok (.iload 4, 2) := by decide +kernel
theorem dL_law_520 : decode cL_law 520 = .ok (.iconst 1, 1) := by decide +kernel
theorem dL_law_521 : decode cL_law 521 = .ok (.iadd, 1) := by decide +kernel
theorem dL_law_522 : decode cL_law 522 = .ok (.iaload, 1) := by decide +kernel
theorem dL_law_523 : decode cL_law 523 = .ok (.aload_n 0, 1) := by decide +kernel
theorem dL_law_524 : decode cL_law 524 = .ok (.iload 4, 2) := by decide +kernel
theorem dL_law_526 : decode cL_law 526 = .ok (.iconst 2, 1) := by decide +kernel
theorem dL_law_527 : decode cL_law 527 = .ok (.iadd, 1) := by decide +kernel
theorem dL_law_528 : decode cL_law 528 = .ok (.iaload, 1) := by decide +kernel
theorem dL_law_529 : decode cL_law 529 = .ok (.aload_n 3, 1) := by decide +kernel
theorem dL_law_530 : decode cL_law 530 = .ok (.invokestatic 83, 3) := by decide +kernel
theorem dL_law_533 : decode cL_law 533 = .ok (.istore 5, 2) := by decide +kernel
theorem dL_law_535 : decode cL_law 535 = .ok (.aload_n 2, 1) := by decide +kernel
theorem dL_law_536 : decode cL_law 536 = .ok (.aload_n 0, 1) := by decide +kernel
theorem dL_law_537 : decode cL_law 537 = .ok (.iload 4, 2) := by decide +kernel
theorem dL_law_539 : decode cL_law 539 = .ok (.iconst 1, 1) := by decide +kernel
theorem dL_law_540 : decode cL_law 540 = .ok (.iadd, 1) := by decide +kernel
theorem dL_law_541 : decode cL_law 541 = .ok (.iaload, 1) := by decide +kernel
theorem dL_law_542 : decode cL_law 542 = .ok (.aload_n 0, 1) := by decide +kernel
theorem dL_law_543 : decode cL_law 543 = .ok (.iload 4, 2) := by decide +kernel
theorem dL_law_545 : decode cL_law 545 = .ok (.iconst 2, 1) := by decide +kernel
theorem dL_law_546 : decode cL_law 546 = .ok (.iadd, 1) := by decide +kernel
theorem dL_law_547 : decode cL_law 547 = .ok (.iaload, 1) := by decide +kernel
theorem dL_law_548 : decode cL_law 548 = .ok (.invokevirtual 85, 3) := by decide +kernel
theorem dL_law_551 : decode cL_law 551 = .ok (.istore 6, 2) := by decide +kernel
theorem dL_law_553 : decode cL_law 553 = .ok (.aload_n 2, 1) := by decide +kernel
theorem dL_law_554 : decode cL_law 554 = .ok (.invokevirtual 60, 3) := by decide +kernel
theorem dL_law_557 : decode cL_law 557 = .ok (.iload 5, 2) := by decide +kernel
theorem dL_law_559 : decode cL_law 559 = .ok (.if_icmp .eq 5, 3) := by decide +kernel
theorem dL_law_562 : decode cL_law 562 = .ok (.iconst 0, 1) := by decide +kernel
theorem dL_law_563 : decode cL_law 563 = .ok (.ireturn, 1) := by decide +kernel
theorem dL_law_564 : decode cL_law 564 = .ok (.iload 5, 2) := by decide +kernel
theorem dL_law_566 : decode cL_law 566 = .ok (.ifCond .ne 15, 3) := by decide +kernel
theorem dL_law_569 : decode cL_law 569 = .ok (.aload_n 3, 1) := by decide +kernel
theorem dL_law_570 : decode cL_law 570 = .ok (.iconst 0, 1) := by decide +kernel
theorem dL_law_571 : decode cL_law 571 = .ok (.laload, 1) := by decide +kernel
theorem dL_law_572 : decode cL_law 572 = .ok (.iload 6, 2) := by decide +kernel
theorem dL_law_574 : decode cL_law 574 = .ok (.i2l, 1) := by decide +kernel
theorem dL_law_575 : decode cL_law 575 = .ok (.lcmp, 1) := by decide +kernel
theorem dL_law_576 : decode cL_law 576 = .ok (.ifCond .eq 5, 3) := by decide +kernel
theorem dL_law_579 : decode cL_law 579 = .ok (.iconst 0, 1) := by decide +kernel
theorem dL_law_580 : decode cL_law 580 = .ok (.ireturn, 1) := by decide +kernel
theorem dL_law_581 : decode cL_law 581 = .ok (.goto 242, 3) := by decide +kernel
theorem dL_law_584 : decode cL_law 584 = .ok (.aload_n 1, 1) := by decide +kernel
theorem dL_law_585 : decode cL_law 585 = .ok (.aload_n 0, 1) := by decide +kernel
theorem dL_law_586 : decode cL_law 586 = .ok (.iload 4, 2) := by decide +kernel
theorem dL_law_588 : decode cL_law 588 = .ok (.iconst 1, 1) := by decide +kernel
theorem dL_law_589 : decode cL_law 589 = .ok (.iadd, 1) := by decide +kernel
theorem dL_law_590 : decode cL_law 590 = .ok (.iaload, 1) := by decide +kernel
theorem dL_law_591 : decode cL_law 591 = .ok (.aload_n 0, 1) := by decide +kernel
theorem dL_law_592 : decode cL_law 592 = .ok (.iload 4, 2) := by decide +kernel
theorem dL_law_594 : decode cL_law 594 = .ok (.iconst 2, 1) := by decide +kernel
theorem dL_law_595 : decode cL_law 595 = .ok (.iadd, 1) := by decide +kernel
theorem dL_law_596 : decode cL_law 596 = .ok (.iaload, 1) := by decide +kernel
theorem dL_law_597 : decode cL_law 597 = .ok (.aload_n 3, 1) := by decide +kernel
theorem dL_law_598 : decode cL_law 598 = .ok (.invokestatic 86, 3) := by decide +kernel
theorem dL_law_601 : decode cL_law 601 = .ok (.istore 5, 2) := by decide +kernel
theorem dL_law_603 : decode cL_law 603 = .ok (.aload_n 2, 1) := by decide +kernel
theorem dL_law_604 : decode cL_law 604 = .ok (.aload_n 0, 1) := by decide +kernel
theorem dL_law_605 : decode cL_law 605 = .ok (.iload 4, 2) := by decide +kernel
theorem dL_law_607 : decode cL_law 607 = .ok (.iconst 1, 1) := by decide +kernel
theorem dL_law_608 : decode cL_law 608 = .ok (.iadd, 1) := by decide +kernel
theorem dL_law_609 : decode cL_law 609 = .ok (.iaload, 1) := by decide +kernel
theorem dL_law_610 : decode cL_law 610 = .ok (.aload_n 0, 1) := by decide +kernel
theorem dL_law_611 : decode cL_law 611 = .ok (.iload 4, 2) := by decide +kernel
theorem dL_law_613 : decode cL_law 613 = .ok (.iconst 2, 1) := by decide +kernel
theorem dL_law_614 : decode cL_law 614 = .ok (.iadd, 1) := by decide +kernel
theorem dL_law_615 : decode cL_law 615 = .ok (.iaload, 1) := by decide +kernel
theorem dL_law_616 : decode cL_law 616 = .ok (.invokevirtual 88, 3) := by decide +kernel
theorem dL_law_619 : decode cL_law 619 = .ok (.istore 6, 2) := by decide +kernel
theorem dL_law_621 : decode cL_law 621 = .ok (.aload_n 2, 1) := by decide +kernel
theorem dL_law_622 : decode cL_law 622 = .ok (.invokevirtual 60, 3) := by decide +kernel
theorem dL_law_625 : decode cL_law 625 = .ok (.iload 5, 2) := by decide +kernel
theorem dL_law_627 : decode cL_law 627 = .ok (.if_icmp .eq 5, 3) := by decide +kernel
theorem dL_law_630 : decode cL_law 630 = .ok (.iconst 0, 1) := by decide +kernel
theorem dL_law_631 : decode cL_law 631 = .ok (.ireturn, 1) := by decide +kernel
theorem dL_law_632 : decode cL_law 632 = .ok (.iload 5, 2) := by decide +kernel
theorem dL_law_634 : decode cL_law 634 = .ok (.ifCond .ne 15, 3) := by decide +kernel
theorem dL_law_637 : decode cL_law 637 = .ok (.aload_n 3, 1) := by decide +kernel
theorem dL_law_638 : decode cL_law 638 = .ok (.iconst 0, 1) := by decide +kernel
theorem dL_law_639 : decode cL_law 639 = .ok (.laload, 1) := by decide +kernel
theorem dL_law_640 : decode cL_law 640 = .ok (.iload 6, 2) := by decide +kernel
theorem dL_law_642 : decode cL_law 642 = .ok (.i2l, 1) := by decide +kernel
theorem dL_law_643 : decode cL_law 643 = .ok (.lcmp, 1) := by decide +kernel
theorem dL_law_644 : decode cL_law 644 = .ok (.ifCond .eq 5, 3) := by decide +kernel
theorem dL_law_647 : decode cL_law 647 = .ok (.iconst 0, 1) := by decide +kernel
theorem dL_law_648 : decode cL_law 648 = .ok (.ireturn, 1) := by decide +kernel
theorem dL_law_649 : decode cL_law 649 = .ok (.goto 174, 3) := by decide +kernel
theorem dL_law_652 : decode cL_law 652 = .ok (.aload_n 1, 1) := by decide +kernel
theorem dL_law_653 : decode cL_law 653 = .ok (.aload_n 0, 1) := by decide +kernel
theorem dL_law_654 : decode cL_law 654 = .ok (.iload 4, 2) := by decide +kernel
theorem dL_law_656 : decode cL_law 656 = .ok (.iconst 1, 1) := by decide +kernel
theorem dL_law_657 : decode cL_law 657 = .ok (.iadd, 1) := by decide +kernel
theorem dL_law_658 : decode cL_law 658 = .ok (.iaload, 1) := by decide +kernel
theorem dL_law_659 : decode cL_law 659 = .ok (.aload_n 3, 1) := by decide +kernel
theorem dL_law_660 : decode cL_law 660 = .ok (.invokestatic 89, 3) := by decide +kernel
theorem dL_law_663 : decode cL_law 663 = .ok (.istore 5, 2) := by decide +kernel
theorem dL_law_665 : decode cL_law 665 = .ok (.aload_n 2, 1) := by decide +kernel
theorem dL_law_666 : decode cL_law 666 = .ok (.aload_n 0, 1) := by decide +kernel
theorem dL_law_667 : decode cL_law 667 = .ok (.iload 4, 2) := by decide +kernel
theorem dL_law_669 : decode cL_law 669 = .ok (.iconst 1, 1) := by decide +kernel
end
section
theorem dL_law_670 : decode cL_law 670 = .ok (.iadd, 1) := by decide +kernel
theorem dL_law_671 : decode cL_law 671 = .ok (.iaload, 1) := by decide +kernel
theorem dL_law_672 : decode cL_law 672 = .ok (.invokevirtual 92, 3) := by decide +kernel
theorem dL_law_675 : decode cL_law 675 = .ok (.istore 6, 2) := by decide +kernel
theorem dL_law_677 : decode cL_law 677 = .ok (.aload_n 2, 1) := by decide +kernel
theorem dL_law_678 : decode cL_law 678 = .ok (.invokevirtual 60, 3) := by decide +kernel
theorem dL_law_681 : decode cL_law 681 = .ok (.iload 5, 2) := by decide +kernel
theorem dL_law_683 : decode cL_law 683 = .ok (.if_icmp .eq 5, 3) := by decide +kernel
theorem dL_law_686 : decode cL_law 686 = .ok (.iconst 0, 1) := by decide +kernel
theorem dL_law_687 : decode cL_law 687 = .ok (.ireturn, 1) := by decide +kernel
theorem dL_law_688 : decode cL_law 688 = .ok (.iload 5, 2) := by decide +kernel
theorem dL_law_690 : decode cL_law 690 = .ok (.ifCond .ne 15, 3) := by decide +kernel
theorem dL_law_693 : decode cL_law 693 = .ok (.aload_n 3, 1) := by decide +kernel
theorem dL_law_694 : decode cL_law 694 = .ok (.iconst 0, 1) := by decide +kernel
theorem dL_law_695 : decode cL_law 695 = .ok (.laload, 1) := by decide +kernel
theorem dL_law_696 : decode cL_law 696 = .ok (.iload 6, 2) := by decide +kernel
theorem dL_law_698 : decode cL_law 698 = .ok (.i2l, 1) := by decide +kernel
theorem dL_law_699 : decode cL_law 699 = .ok (.lcmp, 1) := by decide +kernel
theorem dL_law_700 : decode cL_law 700 = .ok (.ifCond .eq 5, 3) := by decide +kernel
theorem dL_law_703 : decode cL_law 703 = .ok (.iconst 0, 1) := by decide +kernel
theorem dL_law_704 : decode cL_law 704 = .ok (.ireturn, 1) := by decide +kernel
theorem dL_law_705 : decode cL_law 705 = .ok (.goto 118, 3) := by decide +kernel
theorem dL_law_708 : decode cL_law 708 = .ok (.aload_n 1, 1) := by decide +kernel
theorem dL_law_709 : decode cL_law 709 = .ok (.invokevirtual 93, 3) := by decide +kernel
theorem dL_law_712 : decode cL_law 712 = .ok (.aload_n 2, 1) := by decide +kernel
theorem dL_law_713 : decode cL_law 713 = .ok (.invokevirtual 96, 3) := by decide +kernel
theorem dL_law_716 : decode cL_law 716 = .ok (.if_icmp .eq 107, 3) := by decide +kernel
theorem dL_law_719 : decode cL_law 719 = .ok (.iconst 0, 1) := by decide +kernel
theorem dL_law_720 : decode cL_law 720 = .ok (.ireturn, 1) := by decide +kernel
theorem dL_law_721 : decode cL_law 721 = .ok (.aload_n 1, 1) := by decide +kernel
theorem dL_law_722 : decode cL_law 722 = .ok (.invokevirtual 97, 3) := by decide +kernel
theorem dL_law_725 : decode cL_law 725 = .ok (.aload_n 2, 1) := by decide +kernel
theorem dL_law_726 : decode cL_law 726 = .ok (.invokevirtual 100, 3) := by decide +kernel
theorem dL_law_729 : decode cL_law 729 = .ok (.if_icmp .eq 94, 3) := by decide +kernel
theorem dL_law_732 : decode cL_law 732 = .ok (.iconst 0, 1) := by decide +kernel
theorem dL_law_733 : decode cL_law 733 = .ok (.ireturn, 1) := by decide +kernel
theorem dL_law_734 : decode cL_law 734 = .ok (.aload_n 1, 1) := by decide +kernel
theorem dL_law_735 : decode cL_law 735 = .ok (.invokevirtual 101, 3) := by decide +kernel
theorem dL_law_738 : decode cL_law 738 = .ok (.aload_n 2, 1) := by decide +kernel
theorem dL_law_739 : decode cL_law 739 = .ok (.invokevirtual 104, 3) := by decide +kernel
theorem dL_law_742 : decode cL_law 742 = .ok (.if_icmp .eq 81, 3) := by decide +kernel
theorem dL_law_745 : decode cL_law 745 = .ok (.iconst 0, 1) := by decide +kernel
theorem dL_law_746 : decode cL_law 746 = .ok (.ireturn, 1) := by decide +kernel
theorem dL_law_747 : decode cL_law 747 = .ok (.aload_n 1, 1) := by decide +kernel
theorem dL_law_748 : decode cL_law 748 = .ok (.invokevirtual 105, 3) := by decide +kernel
theorem dL_law_751 : decode cL_law 751 = .ok (.aload_n 2, 1) := by decide +kernel
theorem dL_law_752 : decode cL_law 752 = .ok (.invokevirtual 108, 3) := by decide +kernel
theorem dL_law_755 : decode cL_law 755 = .ok (.if_icmp .eq 68, 3) := by decide +kernel
theorem dL_law_758 : decode cL_law 758 = .ok (.iconst 0, 1) := by decide +kernel
theorem dL_law_759 : decode cL_law 759 = .ok (.ireturn, 1) := by decide +kernel
theorem dL_law_760 : decode cL_law 760 = .ok (.aload_n 1, 1) := by decide +kernel
theorem dL_law_761 : decode cL_law 761 = .ok (.invokevirtual 109, 3) := by decide +kernel
theorem dL_law_764 : decode cL_law 764 = .ok (.aload_n 2, 1) := by decide +kernel
theorem dL_law_765 : decode cL_law 765 = .ok (.invokevirtual 112, 3) := by decide +kernel
theorem dL_law_768 : decode cL_law 768 = .ok (.if_icmp .eq 55, 3) := by decide +kernel
theorem dL_law_771 : decode cL_law 771 = .ok (.iconst 0, 1) := by decide +kernel
theorem dL_law_772 : decode cL_law 772 = .ok (.ireturn, 1) := by decide +kernel
theorem dL_law_773 : decode cL_law 773 = .ok (.aload_n 1, 1) := by decide +kernel
theorem dL_law_774 : decode cL_law 774 = .ok (.invokevirtual 113, 3) := by decide +kernel
theorem dL_law_777 : decode cL_law 777 = .ok (.aload_n 2, 1) := by decide +kernel
theorem dL_law_778 : decode cL_law 778 = .ok (.invokevirtual 116, 3) := by decide +kernel
theorem dL_law_781 : decode cL_law 781 = .ok (.if_icmp .eq 42, 3) := by decide +kernel
theorem dL_law_784 : decode cL_law 784 = .ok (.iconst 0, 1) := by decide +kernel
theorem dL_law_785 : decode cL_law 785 = .ok (.ireturn, 1) := by decide +kernel
theorem dL_law_786 : decode cL_law 786 = .ok (.aload_n 1, 1) := by decide +kernel
theorem dL_law_787 : decode cL_law 787 = .ok (.invokevirtual 117, 3) := by decide +kernel
theorem dL_law_790 : decode cL_law 790 = .ok (.aload_n 2, 1) := by decide +kernel
theorem dL_law_791 : decode cL_law 791 = .ok (.invokevirtual 120, 3) := by decide +kernel
theorem dL_law_794 : decode cL_law 794 = .ok (.if_icmp .eq 29, 3) := by decide +kernel
theorem dL_law_797 : decode cL_law 797 = .ok (.iconst 0, 1) := by decide +kernel
theorem dL_law_798 : decode cL_law 798 = .ok (.ireturn, 1) := by decide +kernel
theorem dL_law_799 : decode cL_law 799 = .ok (.aload_n 1, 1) := by decide +kernel
theorem dL_law_800 : decode cL_law 800 = .ok (.invokevirtual 121, 3) := by decide +kernel
theorem dL_law_803 : decode cL_law 803 = .ok (.aload_n 2, 1) := by decide +kernel
theorem dL_law_804 : decode cL_law 804 = .ok (.invokevirtual 124, 3) := by decide +kernel
theorem dL_law_807 : decode cL_law 807 = .ok (.if_icmp .eq 16, 3) := by decide +kernel
theorem dL_law_810 : decode cL_law 810 = .ok (.iconst 0, 1) := by decide +kernel
theorem dL_law_811 : decode cL_law 811 = .ok (.ireturn, 1) := by decide +kernel
theorem dL_law_812 : decode cL_law 812 = .ok (.aload_n 1, 1) := by decide +kernel
theorem dL_law_813 : decode cL_law 813 = .ok (.invokevirtual 125, 3) := by decide +kernel
theorem dL_law_816 : decode cL_law 816 = .ok (.aload_n 2, 1) := by decide +kernel
theorem dL_law_817 : decode cL_law 817 = .ok (.invokevirtual 128, 3) := by decide +kernel
theorem dL_law_820 : decode cL_law 820 = .ok (.goto 3, 3) := by decide +kernel
theorem dL_law_823 : decode cL_law 823 = .ok (.iinc 4 3, 3) := by decide +kernel
theorem dL_law_826 : decode cL_law 826 = .ok (.goto (-803), 3) := by decide +kernel
theorem dL_law_829 : decode cL_law 829 = .ok (.iconst 1, 1) := by decide +kernel
theorem dL_law_830 : decode cL_law 830 = .ok (.ireturn, 1) := by decide +kernel
end
section
/-! Base: a standard contract, and the calls of it. -/
-- the residual of a specification: branches, results of calls
theorem gv_t {c : Prop} [hd : Decidable c] {α : Type} {a b r : α} (h : c) (e : (if c then a else b) = r) : a = r := (if_pos h).symm.trans e
theorem gv_f {c : Prop} [hd : Decidable c] {α : Type} {a b r : α} (h : ¬ c) (e : (if c then a else b) = r) : b = r := (if_neg h).symm.trans e
def gv_b {α β : Type} (a : α) (k : α → β) : β := k a
def gv_b2 {α γ β : Type} (a : α × γ) (k : α → γ → β) : β := k a.1 a.2
def gv_b3 {α γ δ β : Type} (a : α × γ × δ) (k : α → γ → δ → β) : β := k a.1 a.2.1 a.2.2
def gv_b4 {α γ δ ε β : Type} (a : α × γ × δ × ε) (k : α → γ → δ → ε → β) : β := k a.1 a.2.1 a.2.2.1 a.2.2.2
theorem gv_q {α β : Type} {u a : α} {k : α → β} {r : β} (h : u = a) (e : gv_b a k = r) : k u = r := by subst h; exact e
theorem gv_q2 {α γ β : Type} {u : α} {v : γ} {a : α × γ} {k : α → γ → β} {r : β} (h : (u, v) = a) (e : gv_b2 a k = r) : k u v = r := by subst h; exact e
theorem gv_q3 {α γ δ β : Type} {u : α} {v : γ} {w : δ} {a : α × γ × δ} {k : α → γ → δ → β} {r : β} (h : (u, v, w) = a) (e : gv_b3 a k = r) : k u v w = r := by subst h; exact e
theorem gv_q4 {α γ δ ε β : Type} {u : α} {v : γ} {w : δ} {x : ε} {a : α × γ × δ × ε} {k : α → γ → δ → ε → β} {r : β} (h : (u, v, w, x) = a) (e : gv_b4 a k = r) : k u v w x = r := by subst h; exact e
-- loop tests
theorem gv_ge {x y : Int32} {i N : Nat} (hx : x = nI i) (hy : y = nI N) (hN : N < 2 ^ 31) (h : i = N) : ¬ ¬ y ≤ x := by
  subst hx; subst hy; subst h
  exact fun q => q (nI_le (Nat.le_refl _) hN)
theorem gv_lt {x y : Int32} {i N : Nat} (hx : x = nI i) (hy : y = nI N) (hN : N < 2 ^ 31) (h : i < N) : ¬ y ≤ x := by
  subst hx; subst hy
  exact nI_ge h hN
theorem gv_gt {x y : Int32} {i N : Nat} (hx : x = nI i) (hy : y = nI N) (hi : i < 2 ^ 31) (h : N < i) : ¬ ¬ y < x := by
  subst hx; subst hy
  exact fun q => q (nI_lt h hi)
theorem gv_ngt {x y : Int32} {i N : Nat} (hx : x = nI i) (hy : y = nI N) (hN : N < 2 ^ 31) (h : i ≤ N) : ¬ y < x := by
  subst hx; subst hy
  exact nI_nlt h hN
theorem gv_in8 {x : Int32} {n : Nat} (h1 : ¬ x < 0) {y : Int32} (hy : y = nI n) (hn : n < 2 ^ 31) (h2 : ¬ y ≤ x) : vp_in x n := by
  subst hy
  rw [vp_in_iff]
  rw [Int32.lt_iff_toInt_lt] at h1
  rw [Int32.le_iff_toInt_le, nI_toInt hn] at h2
  have : (0 : Int32).toInt = 0 := rfl
  omega
theorem gv_inN {x : Int32} {i n : Nat} (hx : x = nI i) (h : i < n) (hn : n < 2 ^ 31) : vp_in x n := by
  subst hx
  exact vp_in_nI h hn
-- the two links to members of the nest
def gv_N (U : State) : Prop := va_Nw (.methodLinkNest RX0 29 yX1_isCell RX1) U ∧ va_Nw (.methodLinkNest RX1 9 yX0_init RX1) U
theorem gv_N.warm {s U : State} (hW : s.WarmedH U.vm) (h : gv_N s) : gv_N U := ⟨va_Nw.warmM hW h.1, va_Nw.warmM hW h.2⟩
theorem gv_N.same {u U : State} (h : u.vm = U.vm) (hN : gv_N u) : gv_N U := ⟨va_Nw.same rfl h hN.1, va_Nw.same rfl h hN.2⟩
-- the cells of a world by their addresses
def gv_in (ws : va_W) : Nat → Prop := fun q => q ∈ ws.map Prod.fst
def gv_Pc (D : va_G) (tys : List (ClassId × FieldType)) (A : Nat → Prop) (av : List Value) (ws : va_W) : Array Value → State → Prop := va_Pc av (fun U => va_P D vwCl ws U.heap ∧ va_K D vwCl tys U ∧ va_D A ws ∧ gv_N U)
theorem gv_blind {D : va_G} {tys : List (ClassId × FieldType)} {A : Nat → Prop} {av : List Value} {ws : va_W} : FrameBlind (gv_Pc D tys A av ws) := by
  intro a U g mk q
  obtain ⟨q0, q1, q2, q3, q4⟩ := q
  exact ⟨q0, q1, va_K.moved (u := U) (U := U.calling g mk a) (Vm.Alike.refl U.vm) q2, q3, gv_N.same (u := U) (U := U.calling g mk a) rfl q4⟩
theorem gv_preS {s : State} {H : Heap} {D : va_G} {tys : List (ClassId × FieldType)} {A : Nat → Prop} {As : List Value} {ws : va_W} (hK : va_K D vwCl tys s) (hP : va_P D vwCl ws H) (hD : va_D A ws) (hN : gv_N s) : PreS s H (gv_Pc D tys A As ws) As :=
  ⟨gv_blind, fun U hU hW => ⟨rfl, by rw [hU]; exact hP, va_K.moved hW.alike hK, hD, gv_N.warm hW hN⟩⟩
theorem gv_preV {s : State} {H : Heap} {D : va_G} {tys : List (ClassId × FieldType)} {A : Nat → Prop} {As : List Value} {ws : va_W} {b ci : Nat} {q : vw_C} {fs : List Value} (hK : va_K D vwCl tys s) (hP : va_P D vwCl ws H) (hD : va_D A ws) (hN : gv_N s) (hc : vwCl[ci]? = some q) (he : ws[0]? = some (b, .inr (ci, fs))) : PreV s H q.1 b (gv_Pc D tys A (.ref b :: As) ws) As :=
  ⟨gv_blind, va_recv hK hP hc he, fun U hU hW => ⟨rfl, by rw [hU]; exact hP, va_K.moved hW.alike hK, hD, gv_N.warm hW hN⟩⟩
-- contracts: an int, a long, nothing comes back; no cell is made; what changes is told by wf
def gv_Mi (l : Launch) (y : MethodName) (wsy : List Cond) (fr lo : Nat) (D : va_G) (tys : List (ClassId × FieldType)) (av : List Value) (wc : va_W) {S : Type} (post : Int32 → S → Prop) (wf : S → va_W) : Prop :=
  ∀ A : Nat → Prop, Met l y wsy { frames := fr, cells := 0, slots := 0, locals := lo } (gv_Pc D tys A av wc) (va_Qi post (fun u t => va_P D vwCl (wf u) t.heap) A) 0 0 A
def gv_Ml (l : Launch) (y : MethodName) (wsy : List Cond) (fr lo : Nat) (D : va_G) (tys : List (ClassId × FieldType)) (av : List Value) (wc : va_W) {S : Type} (post : Int64 → S → Prop) (wf : S → va_W) : Prop :=
  ∀ A : Nat → Prop, Met l y wsy { frames := fr, cells := 0, slots := 0, locals := lo } (gv_Pc D tys A av wc) (va_Ql post (fun u t => va_P D vwCl (wf u) t.heap) A) 0 0 A
def gv_Mv (l : Launch) (y : MethodName) (wsy : List Cond) (fr lo : Nat) (D : va_G) (tys : List (ClassId × FieldType)) (av : List Value) (wc : va_W) {S : Type} (post : S → Prop) (wf : S → va_W) : Prop :=
  ∀ A : Nat → Prop, Met l y wsy { frames := fr, cells := 0, slots := 0, locals := lo } (gv_Pc D tys A av wc) (va_Qv post (fun u t => va_P D vwCl (wf u) t.heap) A) 0 0 A
-- a world with some of its cells anew
def gv_put : va_W → List Nat → va_W → va_W
  | ws, i :: is, e :: w1 => gv_put (ws.set i e) is w1
  | ws, _, _ => ws
theorem gv_set_fst (ws : va_W) (i : Nat) (e : Nat × va_E) (h : (ws[i]?).map Prod.fst = some e.1) (j : Nat) : ((ws.set i e)[j]?).map Prod.fst = (ws[j]?).map Prod.fst := by
  by_cases hij : i = j
  · subst hij
    have hi : i < ws.length := by
      cases hw : ws[i]? with
      | none => rw [hw] at h; cases h
      | some q => exact (List.getElem?_eq_some_iff.mp hw).1
    rw [List.getElem?_set_self hi, h]
    rfl
  · rw [List.getElem?_set_ne hij]
theorem gv_put_fst : ∀ (is : List Nat) (w1 ws : va_W), is.map (fun i => (ws[i]?).map Prod.fst) = w1.map (fun e => some e.1) → ∀ k : Nat, ((gv_put ws is w1)[k]?).map Prod.fst = (ws[k]?).map Prod.fst
  | [], _, _, _, _ => by simp [gv_put]
  | _ :: _, [], _, h, _ => by simp at h
  | i :: is, e :: w1, ws, h, k => by
    simp only [List.map_cons, List.cons.injEq] at h
    have h2 : is.map (fun j => ((ws.set i e)[j]?).map Prod.fst) = w1.map (fun e => some e.1) := by
      rw [← h.2]
      exact List.map_congr_left (fun j _ => gv_set_fst ws i e h.1 j)
    rw [gv_put, gv_put_fst is w1 (ws.set i e) h2 k, gv_set_fst ws i e h.1 k]
theorem gv_put_get : ∀ (is : List Nat) (w1 ws : va_W), is.length = w1.length → ∀ (k : Nat) (q : Nat × va_E), (gv_put ws is w1)[k]? = some q → q ∈ w1 ∨ (ws[k]? = some q ∧ k ∉ is)
  | [], _, _, _, _, _, h => Or.inr ⟨by simpa [gv_put] using h, by simp⟩
  | _ :: _, [], _, hl, _, _, _ => by simp at hl
  | i :: is, e :: w1, ws, hl, k, q, h => by
    rw [gv_put] at h
    rcases gv_put_get is w1 (ws.set i e) (by simpa using hl) k q h with h1 | ⟨h1, h2⟩
    · exact Or.inl (List.mem_cons_of_mem _ h1)
    · by_cases hik : i = k
      · subst hik
        have hi : i < (ws.set i e).length := (List.getElem?_eq_some_iff.mp h1).1
        rw [List.getElem?_set_self (by simpa using hi)] at h1
        cases h1
        exact Or.inl List.mem_cons_self
      · rw [List.getElem?_set_ne hik] at h1
        exact Or.inr ⟨h1, fun hm => (List.mem_cons.mp hm).elim (fun h3 => hik h3.symm) h2⟩
theorem gv_join {D : va_G} {cl : List vw_C} {ws wc w1 : va_W} {A0 : Nat → Prop} {H H1 : Heap} (is : List Nat) (hP : va_P D cl ws H) (hD : va_D A0 ws) (his : is.map (fun i => ws[i]?) = wc.map some) (hw1 : w1.map Prod.fst = wc.map Prod.fst)
    (hk : ∀ q : Nat, q < H.size → ¬ gv_in wc q → H1[q]? = H[q]?) (hP1 : va_P D cl w1 H1) : va_P D cl (gv_put ws is w1) H1 ∧ va_D A0 (gv_put ws is w1) := by
  have hf : is.map (fun i => (ws[i]?).map Prod.fst) = w1.map (fun e => some e.1) := by
    have h1 : is.map (fun i => (ws[i]?).map Prod.fst) = (is.map (fun i => ws[i]?)).map (Option.map Prod.fst) := by rw [List.map_map]; rfl
    rw [h1, his, List.map_map]
    have h2 : w1.map (fun e => some e.1) = (w1.map Prod.fst).map some := by rw [List.map_map]; rfl
    rw [h2, hw1, List.map_map]
    rfl
  have hlen : is.length = w1.length := by
    have := congrArg List.length hf
    simpa using this
  have hfst := gv_put_fst is w1 ws hf
  constructor
  · intro k q hq
    rcases gv_put_get is w1 ws hlen k q hq with h | ⟨h, hn⟩
    · obtain ⟨j, hj⟩ := List.getElem?_of_mem h
      exact hP1 j q hj
    · refine (hP k q h).kept (hk q.1 (hP k q h).lt fun hin => ?_)
      unfold gv_in at hin
      obtain ⟨e, he, hee⟩ := List.mem_map.mp hin
      obtain ⟨j, hj⟩ := List.getElem?_of_mem he
      have h3 : (is.map (fun i => ws[i]?))[j]? = some (some e) := by rw [his, List.getElem?_map, hj]; rfl
      rw [List.getElem?_map] at h3
      cases hi : is[j]? with
      | none => rw [hi] at h3; cases h3
      | some i =>
        rw [hi] at h3
        have h4 : ws[i]? = some e := Option.some.inj h3
        have h5 := hD.1 k i q e h h4 hee.symm
        subst h5
        exact hn (List.mem_of_getElem? hi)
  · have back : ∀ (k : Nat) (q : Nat × va_E), (gv_put ws is w1)[k]? = some q → ∃ q', ws[k]? = some q' ∧ q'.1 = q.1 := by
      intro k q hq
      have h := hfst k
      rw [hq] at h
      cases hw : ws[k]? with
      | none => rw [hw] at h; cases h
      | some q' => rw [hw] at h; exact ⟨q', rfl, (Option.some.inj h).symm⟩
    constructor
    · intro i j x y hx hy hxy
      obtain ⟨x', hx', ex⟩ := back i x hx
      obtain ⟨y', hy', ey⟩ := back j y hy
      exact hD.1 i j x' y' hx' hy' (by rw [ex, ey]; exact hxy)
    · intro k q hq
      obtain ⟨q', hq', eq⟩ := back k q hq
      rw [← eq]
      exact hD.2 k q' hq'
theorem gv_D {A0 : Nat → Prop} {ws wc : va_W} (hD : va_D A0 ws) (is : List Nat) (hnd : va_nd is = true) (his : is.map (fun i => ws[i]?) = wc.map some) : va_D (gv_in wc) wc :=
  ⟨(hD.sub is hnd his).1, fun k q hq => List.mem_map.mpr ⟨q, List.mem_of_getElem? hq, rfl⟩⟩
theorem gv_sub {D : va_G} {cl : List vw_C} {ws wc : va_W} {H : Heap} (is : List Nat) (hP : va_P D cl ws H) (his : is.map (fun i => ws[i]?) = wc.map some) : va_P D cl wc H := by
  intro k q hq
  have h1 : (is.map (fun i => ws[i]?))[k]? = some (some q) := by rw [his, List.getElem?_map, hq]; rfl
  rw [List.getElem?_map] at h1
  cases hi : is[k]? with
  | none => rw [hi] at h1; cases h1
  | some i => rw [hi] at h1; exact hP i q (Option.some.inj h1)
theorem gv_inA {A0 : Nat → Prop} {ws wc : va_W} (hD : va_D A0 ws) (is : List Nat) (his : is.map (fun i => ws[i]?) = wc.map some) : ∀ q, gv_in wc q → A0 q := by
  intro q h
  obtain ⟨e, he, hee⟩ := List.mem_map.mp h
  obtain ⟨j, hj⟩ := List.getElem?_of_mem he
  have h3 : (is.map (fun i => ws[i]?))[j]? = some (some e) := by rw [his, List.getElem?_map, hj]; rfl
  rw [List.getElem?_map] at h3
  cases hi : is[j]? with
  | none => rw [hi] at h3; cases h3
  | some i =>
    rw [hi] at h3
    rw [← hee]
    exact hD.2 i e (Option.some.inj h3)
section GVC
variable {p : Program} {l : Launch} {e : Env} {R : Room} {s : State} {m : MethodId} {args : Array Value} {below : List Frame} {meth : Method} {c : Code} {H H0 : Heap} {locs : List Loc} {cells slots : Nat} {Q : State → Prop}
variable {pc : Nat} {ls : Array Slot} {rest st0 : List Value} {a : Array Value} {A0 : Nat → Prop} {D : va_G} {ws wc : va_W}
theorem gv_ki {S : Type} {post : Int32 → S → Prop} {wf : S → va_W} (is : List Nat) (hwf : ∀ u, (wf u).map Prod.fst = wc.map Prod.fst) (hP : va_P D vwCl ws H) (hD : va_D A0 ws) (hS : va_S A0 H0 H locs) (hnd : va_nd is = true) (his : is.map (fun i => ws[i]?) = wc.map some)
    (hr : va_Run p l e R s m args below meth c H locs cells slots 0 0 (F0 m pc ls st0) rest (va_Qi post (fun u t => va_P D vwCl (wf u) t.heap) (gv_in wc) a) (gv_in wc))
    (kk : ∀ (r : Int32) (u : S) (H1 : Heap) (locs1 : List Loc), post r u → va_P D vwCl (gv_put ws is (wf u)) H1 → va_D A0 (gv_put ws is (wf u)) → va_S A0 H0 H1 locs1 → W p l e R s m args below meth c H1 locs1 cells slots Q (F0 m (pc + 3) ls (.int r :: rest))) : W p l e R s m args below meth c H locs cells slots Q (F0 m pc ls st0) := by
  refine va_calli hr hS (fun q _ h => gv_inA hD is his q h) (gv_inA hD is his) (fun r u t H1 locs1 ht hvm hw hB hz hk hS1 => ?_)
  rw [ht] at hB
  obtain ⟨h1, h2⟩ := gv_join is hP hD his (hwf u) hk hB
  exact kk r u H1 locs1 hw h1 h2 hS1
theorem gv_kl {S : Type} {post : Int64 → S → Prop} {wf : S → va_W} (is : List Nat) (hwf : ∀ u, (wf u).map Prod.fst = wc.map Prod.fst) (hP : va_P D vwCl ws H) (hD : va_D A0 ws) (hS : va_S A0 H0 H locs) (hnd : va_nd is = true) (his : is.map (fun i => ws[i]?) = wc.map some)
    (hr : va_Run p l e R s m args below meth c H locs cells slots 0 0 (F0 m pc ls st0) rest (va_Ql post (fun u t => va_P D vwCl (wf u) t.heap) (gv_in wc) a) (gv_in wc))
    (kk : ∀ (r : Int64) (u : S) (H1 : Heap) (locs1 : List Loc), post r u → va_P D vwCl (gv_put ws is (wf u)) H1 → va_D A0 (gv_put ws is (wf u)) → va_S A0 H0 H1 locs1 → W p l e R s m args below meth c H1 locs1 cells slots Q (F0 m (pc + 3) ls (.long r :: rest))) : W p l e R s m args below meth c H locs cells slots Q (F0 m pc ls st0) := by
  refine va_calll hr hS (fun q _ h => gv_inA hD is his q h) (gv_inA hD is his) (fun r u t H1 locs1 ht hvm hw hB hz hk hS1 => ?_)
  rw [ht] at hB
  obtain ⟨h1, h2⟩ := gv_join is hP hD his (hwf u) hk hB
  exact kk r u H1 locs1 hw h1 h2 hS1
theorem gv_kv {S : Type} {post : S → Prop} {wf : S → va_W} (is : List Nat) (hwf : ∀ u, (wf u).map Prod.fst = wc.map Prod.fst) (hP : va_P D vwCl ws H) (hD : va_D A0 ws) (hS : va_S A0 H0 H locs) (hnd : va_nd is = true) (his : is.map (fun i => ws[i]?) = wc.map some)
    (hr : va_Run p l e R s m args below meth c H locs cells slots 0 0 (F0 m pc ls st0) rest (va_Qv post (fun u t => va_P D vwCl (wf u) t.heap) (gv_in wc) a) (gv_in wc))
    (kk : ∀ (u : S) (H1 : Heap) (locs1 : List Loc), post u → va_P D vwCl (gv_put ws is (wf u)) H1 → va_D A0 (gv_put ws is (wf u)) → va_S A0 H0 H1 locs1 → W p l e R s m args below meth c H1 locs1 cells slots Q (F0 m (pc + 3) ls rest)) : W p l e R s m args below meth c H locs cells slots Q (F0 m pc ls st0) := by
  refine va_callv hr hS (fun q _ h => gv_inA hD is his q h) (gv_inA hD is his) (fun u t H1 locs1 ht hvm hw hB hz hk hS1 => ?_)
  rw [ht] at hB
  obtain ⟨h1, h2⟩ := gv_join is hP hD his (hwf u) hk hB
  exact kk u H1 locs1 hw h1 h2 hS1
end GVC
-- worlds: a wall; the class; the reference
abbrev gv_W (cI : ClassId) (h0 h1 h2 : Nat) (f h : Nat → Int32) : va_W := [(h0, .inr (0, [.ref h1, .ref h2])), (h1, .inl (cI, 8, .inl f)), (h2, .inl (cI, 8, .inl h))]
abbrev gv_WW (cI : ClassId) (h0 h1 h2 k0 k1 k2 : Nat) (f h f1 g1 : Nat → Int32) : va_W := [(h0, .inr (0, [.ref h1, .ref h2])), (h1, .inl (cI, 8, .inl f)), (h2, .inl (cI, 8, .inl h)), (k0, .inr (0, [.ref k1, .ref k2])), (k1, .inl (cI, 8, .inl f1)), (k2, .inl (cI, 8, .inl g1))]
abbrev gv_WWA (cI : ClassId) (h0 h1 h2 k0 k1 k2 b0 : Nat) (f h f1 g1 be : Nat → Int32) : va_W := [(h0, .inr (0, [.ref h1, .ref h2])), (h1, .inl (cI, 8, .inl f)), (h2, .inl (cI, 8, .inl h)), (k0, .inr (0, [.ref k1, .ref k2])), (k1, .inl (cI, 8, .inl f1)), (k2, .inl (cI, 8, .inl g1)), (b0, .inl (cI, 12, .inl be))]
abbrev gv_V (cI cL : ClassId) (ad : Nat → Nat) (f0 c0 f1 c1 f2 c2 : Nat → Int32) (lo up : Nat → Int64) (be : Nat → Int32) (si pl cu ge fa : Int32) : va_W := [(ad 0, .inr (1, [.ref (ad 1), .ref (ad 4), .ref (ad 7), .ref (ad 10), .ref (ad 11), .ref (ad 12), .int si, .int pl, .int cu, .int ge, .int fa])), (ad 1, .inr (0, [.ref (ad 2), .ref (ad 3)])), (ad 2, .inl (cI, 8, .inl f0)), (ad 3, .inl (cI, 8, .inl c0)), (ad 4, .inr (0, [.ref (ad 5), .ref (ad 6)])), (ad 5, .inl (cI, 8, .inl f1)), (ad 6, .inl (cI, 8, .inl c1)), (ad 7, .inr (0, [.ref (ad 8), .ref (ad 9)])), (ad 8, .inl (cI, 8, .inl f2)), (ad 9, .inl (cI, 8, .inl c2)), (ad 10, .inl (cL, 61, .inr (.inl lo))), (ad 11, .inl (cL, 61, .inr (.inl up))), (ad 12, .inl (cI, 12, .inl be))]
abbrev gv_M (cI : ClassId) (am : Nat → Nat) (g be : Nat → Int32) (si ge cu pl br th : Int32) : va_W := [(am 0, .inr (2, [.ref (am 1), .ref (am 2), .int si, .int ge, .int cu, .int pl, .int br, .int th])), (am 1, .inl (cI, 5952, .inl g)), (am 2, .inl (cI, 12, .inl be))]
theorem gv_P0 {D : va_G} {cl : List vw_C} {H : Heap} : va_P D cl [] H := fun k q h => by simp at h
theorem gv_D0 {A : Nat → Prop} : va_D A [] := ⟨fun i j p q h => by simp at h, fun k q h => by simp at h⟩
abbrev gv_R (fr lo : Nat) : Room := { frames := fr, cells := 0, slots := 0, locals := lo }
-- natural numbers behind ints
theorem gn_add {x y : Int32} {a b : Nat} (hx : x = nI a) (hy : y = nI b) : x + y = nI (a + b) := by subst hx; subst hy; exact nI_add a b
theorem gn_mul {x y : Int32} {a b : Nat} (hx : x = nI a) (hy : y = nI b) : x * y = nI (a * b) := by subst hx; subst hy; exact pk_mul a b
theorem gn_sub {x y : Int32} {a b : Nat} (hx : x = nI a) (hy : y = nI b) (h : b ≤ a) : x - y = nI (a - b) := by subst hx; subst hy; exact pk_sub h
theorem gn_div {x y : Int32} {a b : Nat} (hx : x = nI a) (hy : y = nI b) (ha : a < 2 ^ 31) (h0 : 0 < b) (hb : b < 2 ^ 31) : x / y = nI (a / b) := by subst hx; subst hy; exact pk_div ha h0 hb
theorem gn_rem {x y : Int32} {a b : Nat} (hx : x = nI a) (hy : y = nI b) (ha : a < 2 ^ 31) (h0 : 0 < b) (hb : b < 2 ^ 31) : x - x / y * y = nI (a % b) := by subst hx; subst hy; exact pk_rem ha h0 hb
theorem gv_dec (x : Int32) : x + Int32.ofInt (-1) = x - 1 := by rw [Int32.sub_eq_add_neg]; rfl
section GVA
variable {p : Program} {l : Launch} {e : Env} {R : Room} {s : State} {m : MethodId} {args : Array Value} {below : List Frame} {meth : Method} {c : Code} {H H0 : Heap} {locs : List Loc} {cells slots : Nat} {Q : State → Prop}
variable {cc : ByteArray} {pc : Nat} {ls : Array Slot} {rest : List Value} {D : va_G} {cl : List vw_C} {A : Nat → Prop} {a : Nat} {tys : List (ClassId × FieldType)} {ws : va_W}
theorem gv_iald (hexec : p.tables.exec = Jvm.exec) (hb : c.code = cc) (hK : va_K D cl tys s) (hP : va_P D cl ws H) (q0 t0 : Nat) {cA : ClassId} {n k : Nat} {f : Nat → Int32} (ha : ws[q0]? = some (a, .inl (cA, n, .inl f))) (ht : tys[t0]? = some (cA, .int)) {i : Int32} (hi : i = nI k) (hk : k < n) (hn : n < 2 ^ 31) (hdg : decode cc pc = .ok (.iaload, 1))
    (kk : W p l e R s m args below meth c H locs cells slots Q (F0 m (pc + 1) ls (.int (f k) :: rest))) : W p l e R s m args below meth c H locs cells slots Q (F0 m pc ls (.int i :: .ref a :: rest)) := by
  refine va_iald hexec hb hK hP q0 t0 ha ht (gv_inN hi hk hn) hdg ?_
  rw [hi, nI_clamp (Nat.lt_trans hk hn)]
  exact kk
theorem gv_lald (hexec : p.tables.exec = Jvm.exec) (hb : c.code = cc) (hK : va_K D cl tys s) (hP : va_P D cl ws H) (q0 t0 : Nat) {cA : ClassId} {n k : Nat} {f : Nat → Int64} (ha : ws[q0]? = some (a, .inl (cA, n, .inr (.inl f)))) (ht : tys[t0]? = some (cA, .long)) {i : Int32} (hi : i = nI k) (hk : k < n) (hn : n < 2 ^ 31) (hdg : decode cc pc = .ok (.laload, 1))
    (kk : W p l e R s m args below meth c H locs cells slots Q (F0 m (pc + 1) ls (.long (f k) :: rest))) : W p l e R s m args below meth c H locs cells slots Q (F0 m pc ls (.int i :: .ref a :: rest)) := by
  refine va_lald hexec hb hK hP q0 t0 ha ht (gv_inN hi hk hn) hdg ?_
  rw [hi, nI_clamp (Nat.lt_trans hk hn)]
  exact kk
theorem gv_iast (hexec : p.tables.exec = Jvm.exec) (hb : c.code = cc) (hK : va_K D cl tys s) (hP : va_P D cl ws H) (hD : va_D A ws) (hS : va_S A H0 H locs) (q0 t0 : Nat) {cA : ClassId} {n k : Nat} {f : Nat → Int32} (ha : ws[q0]? = some (a, .inl (cA, n, .inl f))) (ht : tys[t0]? = some (cA, .int)) {i : Int32} {x : Int32} (hi : i = nI k) (hk : k < n) (hn : n < 2 ^ 31) (hdg : decode cc pc = .ok (.iastore, 1))
    (kk : ∀ (H1 : Heap) (locs1 : List Loc), va_P D cl (ws.set q0 (a, .inl (cA, n, .inl (upd f k x)))) H1 → va_D A (ws.set q0 (a, .inl (cA, n, .inl (upd f k x)))) → va_S A H0 H1 locs1 → W p l e R s m args below meth c H1 locs1 cells slots Q (F0 m (pc + 1) ls rest)) : W p l e R s m args below meth c H locs cells slots Q (F0 m pc ls (.int x :: .int i :: .ref a :: rest)) := by
  refine va_iast hexec hb hK hP hD hS q0 t0 ha ht (gv_inN hi hk hn) hdg ?_
  rw [hi, nI_clamp (Nat.lt_trans hk hn)]
  exact kk
theorem gv_last (hexec : p.tables.exec = Jvm.exec) (hb : c.code = cc) (hK : va_K D cl tys s) (hP : va_P D cl ws H) (hD : va_D A ws) (hS : va_S A H0 H locs) (q0 t0 : Nat) {cA : ClassId} {n k : Nat} {f : Nat → Int64} (ha : ws[q0]? = some (a, .inl (cA, n, .inr (.inl f)))) (ht : tys[t0]? = some (cA, .long)) {i : Int32} {x : Int64} (hi : i = nI k) (hk : k < n) (hn : n < 2 ^ 31) (hdg : decode cc pc = .ok (.lastore, 1))
    (kk : ∀ (H1 : Heap) (locs1 : List Loc), va_P D cl (ws.set q0 (a, .inl (cA, n, .inr (.inl (vp_updL f k x))))) H1 → va_D A (ws.set q0 (a, .inl (cA, n, .inr (.inl (vp_updL f k x))))) → va_S A H0 H1 locs1 → W p l e R s m args below meth c H1 locs1 cells slots Q (F0 m (pc + 1) ls rest)) : W p l e R s m args below meth c H locs cells slots Q (F0 m pc ls (.long x :: .int i :: .ref a :: rest)) := by
  refine va_last hexec hb hK hP hD hS q0 t0 ha ht (gv_inN hi hk hn) hdg ?_
  rw [hi, nI_clamp (Nat.lt_trans hk hn)]
  exact kk
end GVA
-- a contract out of its walk
theorem gv_ofi {l : Launch} {y : MethodName} {wsy ws' : List Cond} {fr lo : Nat} {D : va_G} {tys : List (ClassId × FieldType)} {av : List Value} {wc : va_W} {S : Type} {post : Int32 → S → Prop} {wf : S → va_W} {cc : ByteArray} {maxL : Nat} {own : String}
    (hy : plainName y.cls = true) (hw : wsy = Cond.code y cc maxL (some .int) :: ws') (hav : (lg_sl av).length ≤ maxL) (ho : y.cls = own)
    (body : ∀ (A : Nat → Prop) p e s m args below meth c Q (ls : Array Slot) (H : Heap) (locs : List Loc), p.tables.exec = Jvm.exec → c.code = cc → c.maxLocals = maxL → (∀ w ∈ wsy, w.before args s = true) → s.vm.findClass own = some m.cls → va_P D vwCl wc H → va_K D vwCl tys s → va_D A wc → gv_N s → va_S A s.heap H locs → lv_has ls maxL (lv_args 0 av) →
      (∀ (v : Int32) (u : S) H locs pc ls, post v u → va_P D vwCl (wf u) H → va_S A s.heap H locs → decode cc pc = .ok (.ireturn, 1) → W p l e (gv_R fr lo) s m args below meth c H locs 0 0 Q (F0 m pc ls [.int v])) →
      W p l e (gv_R fr lo) s m args below meth c H locs 0 0 Q (F0 m 0 ls [])) : gv_Mi l y wsy fr lo D tys av wc post wf := by
  intro A
  refine Met.ofW (cc := cc) (maxL := maxL) (ret := some .int) hy hw ?_
  intro p e s m args below meth c s₁ B hml hv
  obtain ⟨rfl, hP, hK, hD, hN⟩ := hv
  have hlocks := B.notSynchronized
  have hl := lv_entry av (n := maxL) hav
  rw [lg_entry_eq]
  exact body A p e s m _ below meth c _ _ _ _ B.exec B.bytes hml (atoms_spec (ws := wsy) B.pre) (ho ▸ findClass_of_methodNamed B.named) hP hK hD hN va_S.rf hl (fun v u H locs pc ls hq hP hS hdg => W.iret (v := v) B.exec B.bytes B.returns (fun t ht hW => ⟨⟨v, u, rfl, hq, by show va_P D vwCl (wf u) t.heap; rw [ht]; exact hP⟩, hS.F ht⟩) hS.2.2 hdg)
theorem gv_ofz {l : Launch} {y : MethodName} {wsy ws' : List Cond} {fr lo : Nat} {D : va_G} {tys : List (ClassId × FieldType)} {av : List Value} {wc : va_W} {S : Type} {post : Int32 → S → Prop} {wf : S → va_W} {cc : ByteArray} {maxL : Nat} {own : String} {ty : FieldType}
    (hy : plainName y.cls = true) (hw : wsy = Cond.code y cc maxL (some ty) :: ws') (hav : (lg_sl av).length ≤ maxL) (ho : y.cls = own)
    (body : ∀ (A : Nat → Prop) p e s m args below meth c Q (ls : Array Slot) (H : Heap) (locs : List Loc), p.tables.exec = Jvm.exec → c.code = cc → c.maxLocals = maxL → (∀ w ∈ wsy, w.before args s = true) → s.vm.findClass own = some m.cls → va_P D vwCl wc H → va_K D vwCl tys s → va_D A wc → gv_N s → va_S A s.heap H locs → lv_has ls maxL (lv_args 0 av) →
      (∀ (v : Int32) (u : S) H locs pc ls, narrow ty (.int v) = .int v → post v u → va_P D vwCl (wf u) H → va_S A s.heap H locs → decode cc pc = .ok (.ireturn, 1) → W p l e (gv_R fr lo) s m args below meth c H locs 0 0 Q (F0 m pc ls [.int v])) →
      W p l e (gv_R fr lo) s m args below meth c H locs 0 0 Q (F0 m 0 ls [])) : gv_Mi l y wsy fr lo D tys av wc post wf := by
  intro A
  refine Met.ofW (cc := cc) (maxL := maxL) (ret := some ty) hy hw ?_
  intro p e s m args below meth c s₁ B hml hv
  obtain ⟨rfl, hP, hK, hD, hN⟩ := hv
  have hlocks := B.notSynchronized
  have hl := lv_entry av (n := maxL) hav
  rw [lg_entry_eq]
  exact body A p e s m _ below meth c _ _ _ _ B.exec B.bytes hml (atoms_spec (ws := wsy) B.pre) (ho ▸ findClass_of_methodNamed B.named) hP hK hD hN va_S.rf hl (fun v u H locs pc ls hn hq hP hS hdg => W.zret (v := v) B.exec B.bytes B.returns hn (fun t ht hW => ⟨⟨v, u, rfl, hq, by show va_P D vwCl (wf u) t.heap; rw [ht]; exact hP⟩, hS.F ht⟩) hS.2.2 hdg)
theorem gv_ofl {l : Launch} {y : MethodName} {wsy ws' : List Cond} {fr lo : Nat} {D : va_G} {tys : List (ClassId × FieldType)} {av : List Value} {wc : va_W} {S : Type} {post : Int64 → S → Prop} {wf : S → va_W} {cc : ByteArray} {maxL : Nat} {own : String}
    (hy : plainName y.cls = true) (hw : wsy = Cond.code y cc maxL (some .long) :: ws') (hav : (lg_sl av).length ≤ maxL) (ho : y.cls = own)
    (body : ∀ (A : Nat → Prop) p e s m args below meth c Q (ls : Array Slot) (H : Heap) (locs : List Loc), p.tables.exec = Jvm.exec → c.code = cc → c.maxLocals = maxL → (∀ w ∈ wsy, w.before args s = true) → s.vm.findClass own = some m.cls → va_P D vwCl wc H → va_K D vwCl tys s → va_D A wc → gv_N s → va_S A s.heap H locs → lv_has ls maxL (lv_args 0 av) →
      (∀ (v : Int64) (u : S) H locs pc ls, post v u → va_P D vwCl (wf u) H → va_S A s.heap H locs → decode cc pc = .ok (.lreturn, 1) → W p l e (gv_R fr lo) s m args below meth c H locs 0 0 Q (F0 m pc ls [.long v])) →
      W p l e (gv_R fr lo) s m args below meth c H locs 0 0 Q (F0 m 0 ls [])) : gv_Ml l y wsy fr lo D tys av wc post wf := by
  intro A
  refine Met.ofW (cc := cc) (maxL := maxL) (ret := some .long) hy hw ?_
  intro p e s m args below meth c s₁ B hml hv
  obtain ⟨rfl, hP, hK, hD, hN⟩ := hv
  have hlocks := B.notSynchronized
  have hl := lv_entry av (n := maxL) hav
  rw [lg_entry_eq]
  exact body A p e s m _ below meth c _ _ _ _ B.exec B.bytes hml (atoms_spec (ws := wsy) B.pre) (ho ▸ findClass_of_methodNamed B.named) hP hK hD hN va_S.rf hl (fun v u H locs pc ls hq hP hS hdg => W.lret (v := v) B.exec B.bytes B.returns (fun t ht hW => ⟨⟨v, u, rfl, hq, by show va_P D vwCl (wf u) t.heap; rw [ht]; exact hP⟩, hS.F ht⟩) hS.2.2 hdg)
theorem gv_ofv {l : Launch} {y : MethodName} {wsy ws' : List Cond} {fr lo : Nat} {D : va_G} {tys : List (ClassId × FieldType)} {av : List Value} {wc : va_W} {S : Type} {post : S → Prop} {wf : S → va_W} {cc : ByteArray} {maxL : Nat} {own : String}
    (hy : plainName y.cls = true) (hw : wsy = Cond.code y cc maxL none :: ws') (hav : (lg_sl av).length ≤ maxL) (ho : y.cls = own)
    (body : ∀ (A : Nat → Prop) p e s m args below meth c Q (ls : Array Slot) (H : Heap) (locs : List Loc), p.tables.exec = Jvm.exec → c.code = cc → c.maxLocals = maxL → (∀ w ∈ wsy, w.before args s = true) → s.vm.findClass own = some m.cls → va_P D vwCl wc H → va_K D vwCl tys s → va_D A wc → gv_N s → va_S A s.heap H locs → lv_has ls maxL (lv_args 0 av) →
      (∀ (u : S) H locs pc ls, post u → va_P D vwCl (wf u) H → va_S A s.heap H locs → decode cc pc = .ok (.return_, 1) → W p l e (gv_R fr lo) s m args below meth c H locs 0 0 Q (F0 m pc ls [])) →
      W p l e (gv_R fr lo) s m args below meth c H locs 0 0 Q (F0 m 0 ls [])) : gv_Mv l y wsy fr lo D tys av wc post wf := by
  intro A
  refine Met.ofW (cc := cc) (maxL := maxL) (ret := none) hy hw ?_
  intro p e s m args below meth c s₁ B hml hv
  obtain ⟨rfl, hP, hK, hD, hN⟩ := hv
  have hlocks := B.notSynchronized
  have hl := lv_entry av (n := maxL) hav
  rw [lg_entry_eq]
  exact body A p e s m _ below meth c _ _ _ _ B.exec B.bytes hml (atoms_spec (ws := wsy) B.pre) (ho ▸ findClass_of_methodNamed B.named) hP hK hD hN va_S.rf hl (fun u H locs pc ls hq hP hS hdg => W.vret B.exec B.bytes B.returns (fun t ht hW => ⟨⟨u, rfl, hq, by show va_P D vwCl (wf u) t.heap; rw [ht]; exact hP⟩, hS.F ht⟩) hS.2.2 hdg)
end
section
def spJ6_bitCount_0f7a4 (p0 : Int32) : Int32 := gv_b (p0 - (((p0.toUInt32 >>> ((1 : Int32).toUInt32 &&& Int32.toUInt32 31)).toInt32) &&& 1431655765)) (fun y9 => gv_b ((y9 &&& 858993459) + (((y9.toUInt32 >>> ((2 : Int32).toUInt32 &&& Int32.toUInt32 31)).toInt32) &&& 858993459)) (fun y23 => gv_b ((y23 + ((y23.toUInt32 >>> ((4 : Int32).toUInt32 &&& Int32.toUInt32 31)).toInt32)) &&& 252645135) (fun y33 => gv_b (y33 + ((y33.toUInt32 >>> ((8 : Int32).toUInt32 &&& Int32.toUInt32 31)).toInt32)) (fun y40 => gv_b (y40 + ((y40.toUInt32 >>> ((16 : Int32).toUInt32 &&& Int32.toUInt32 31)).toInt32)) (fun y47 => y47 &&& 63)))))
theorem spJ6_bitCount_0f7a4_e (p0 : Int32) : spJ6_bitCount_0f7a4 p0 = gv_b (p0 - (((p0.toUInt32 >>> ((1 : Int32).toUInt32 &&& Int32.toUInt32 31)).toInt32) &&& 1431655765)) (fun y9 => gv_b ((y9 &&& 858993459) + (((y9.toUInt32 >>> ((2 : Int32).toUInt32 &&& Int32.toUInt32 31)).toInt32) &&& 858993459)) (fun y23 => gv_b ((y23 + ((y23.toUInt32 >>> ((4 : Int32).toUInt32 &&& Int32.toUInt32 31)).toInt32)) &&& 252645135) (fun y33 => gv_b (y33 + ((y33.toUInt32 >>> ((8 : Int32).toUInt32 &&& Int32.toUInt32 31)).toInt32)) (fun y40 => gv_b (y40 + ((y40.toUInt32 >>> ((16 : Int32).toUInt32 &&& Int32.toUInt32 31)).toInt32)) (fun y47 => y47 &&& 63))))) := rfl
set_option maxHeartbeats 4000000 in
set_option maxRecDepth 100000 in
theorem kJ6_bitCount_0f7a4 (l : Launch) (dC : Nat → ClassId) (dI : Nat → Nat → Nat) (cI cL : ClassId)   (p0 : Int32) : gv_Mi l yJ6_bitCount_0f7a4 wsJ6_bitCount_0f7a4 0 0 (dC, dI) [(cI, .int), (cL, .long)] [.int p0] ([] : va_W) (fun (r : Int32) (_ : Unit) => r = spJ6_bitCount_0f7a4 p0) (fun (_ : Unit) => ([] : va_W)) := by
  refine gv_ofi (cc := cJ6_bitCount_0f7a4) (maxL := 1) (own := RJ6) (by decide) rfl (Nat.le_of_ble_eq_true rfl) rfl ?_
  intro A p e s m args below meth c Q ls H locs hx hb hml hts hown hP hK hD hN hS hl kr
  have hl : lv_has ls 1 [(0, .int p0)] := hl
  have he := (spJ6_bitCount_0f7a4_e p0).symm
  refine lv_iload_n hx hb dJ6_bitCount_0f7a4_0 rfl (lv_at hl 0 rfl) ?_
  refine lv_iload_n hx hb dJ6_bitCount_0f7a4_1 rfl (lv_at hl 0 rfl) ?_
  refine lv_iconst (v := 1) hx hb dJ6_bitCount_0f7a4_2 (by decide) ?_
  refine lv_iushr (v := (p0.toUInt32 >>> ((1 : Int32).toUInt32 &&& Int32.toUInt32 31)).toInt32) hx hb dJ6_bitCount_0f7a4_3 rfl ?_
  refine lv_ldcw (v := 1431655765) hx hb hown (hts (.constant RJ6 265 (1431655765)) (List.mem_of_getElem? (i := 1) rfl)) dJ6_bitCount_0f7a4_4 ?_
  refine lv_iand hx hb dJ6_bitCount_0f7a4_7 ?_
  refine lv_isub hx hb dJ6_bitCount_0f7a4_8 ?_
  refine lv_topi (fun y9 ey9 => ?_)
  have he := gv_q ey9 he
  refine lv_istore_n (lv' := [(0, .int y9)]) hx hb dJ6_bitCount_0f7a4_9 rfl hl (by decide) rfl (fun ls hl => ?_)
  refine lv_iload_n hx hb dJ6_bitCount_0f7a4_10 rfl (lv_at hl 0 rfl) ?_
  refine lv_ldcw (v := 858993459) hx hb hown (hts (.constant RJ6 266 (858993459)) (List.mem_of_getElem? (i := 2) rfl)) dJ6_bitCount_0f7a4_11 ?_
  refine lv_iand hx hb dJ6_bitCount_0f7a4_14 ?_
  refine lv_iload_n hx hb dJ6_bitCount_0f7a4_15 rfl (lv_at hl 0 rfl) ?_
  refine lv_iconst (v := 2) hx hb dJ6_bitCount_0f7a4_16 (by decide) ?_
  refine lv_iushr (v := (y9.toUInt32 >>> ((2 : Int32).toUInt32 &&& Int32.toUInt32 31)).toInt32) hx hb dJ6_bitCount_0f7a4_17 rfl ?_
  refine lv_ldcw (v := 858993459) hx hb hown (hts (.constant RJ6 266 (858993459)) (List.mem_of_getElem? (i := 2) rfl)) dJ6_bitCount_0f7a4_18 ?_
  refine lv_iand hx hb dJ6_bitCount_0f7a4_21 ?_
  refine lv_iadd hx hb dJ6_bitCount_0f7a4_22 ?_
  refine lv_topi (fun y23 ey23 => ?_)
  have he := gv_q ey23 he
  refine lv_istore_n (lv' := [(0, .int y23)]) hx hb dJ6_bitCount_0f7a4_23 rfl hl (by decide) rfl (fun ls hl => ?_)
  refine lv_iload_n hx hb dJ6_bitCount_0f7a4_24 rfl (lv_at hl 0 rfl) ?_
  refine lv_iload_n hx hb dJ6_bitCount_0f7a4_25 rfl (lv_at hl 0 rfl) ?_
  refine lv_iconst (v := 4) hx hb dJ6_bitCount_0f7a4_26 (by decide) ?_
  refine lv_iushr (v := (y23.toUInt32 >>> ((4 : Int32).toUInt32 &&& Int32.toUInt32 31)).toInt32) hx hb dJ6_bitCount_0f7a4_27 rfl ?_
  refine lv_iadd hx hb dJ6_bitCount_0f7a4_28 ?_
  refine lv_ldcw (v := 252645135) hx hb hown (hts (.constant RJ6 267 (252645135)) (List.mem_of_getElem? (i := 3) rfl)) dJ6_bitCount_0f7a4_29 ?_
  refine lv_iand hx hb dJ6_bitCount_0f7a4_32 ?_
  refine lv_topi (fun y33 ey33 => ?_)
  have he := gv_q ey33 he
  refine lv_istore_n (lv' := [(0, .int y33)]) hx hb dJ6_bitCount_0f7a4_33 rfl hl (by decide) rfl (fun ls hl => ?_)
  refine lv_iload_n hx hb dJ6_bitCount_0f7a4_34 rfl (lv_at hl 0 rfl) ?_
  refine lv_iload_n hx hb dJ6_bitCount_0f7a4_35 rfl (lv_at hl 0 rfl) ?_
  refine lv_bipush (v := 8) hx hb dJ6_bitCount_0f7a4_36 (by decide) ?_
  refine lv_iushr (v := (y33.toUInt32 >>> ((8 : Int32).toUInt32 &&& Int32.toUInt32 31)).toInt32) hx hb dJ6_bitCount_0f7a4_38 rfl ?_
  refine lv_iadd hx hb dJ6_bitCount_0f7a4_39 ?_
  refine lv_topi (fun y40 ey40 => ?_)
  have he := gv_q ey40 he
  refine lv_istore_n (lv' := [(0, .int y40)]) hx hb dJ6_bitCount_0f7a4_40 rfl hl (by decide) rfl (fun ls hl => ?_)
  refine lv_iload_n hx hb dJ6_bitCount_0f7a4_41 rfl (lv_at hl 0 rfl) ?_
  refine lv_iload_n hx hb dJ6_bitCount_0f7a4_42 rfl (lv_at hl 0 rfl) ?_
  refine lv_bipush (v := 16) hx hb dJ6_bitCount_0f7a4_43 (by decide) ?_
  refine lv_iushr (v := (y40.toUInt32 >>> ((16 : Int32).toUInt32 &&& Int32.toUInt32 31)).toInt32) hx hb dJ6_bitCount_0f7a4_45 rfl ?_
  refine lv_iadd hx hb dJ6_bitCount_0f7a4_46 ?_
  refine lv_topi (fun y47 ey47 => ?_)
  have he := gv_q ey47 he
  refine lv_istore_n (lv' := [(0, .int y47)]) hx hb dJ6_bitCount_0f7a4_47 rfl hl (by decide) rfl (fun ls hl => ?_)
  refine lv_iload_n hx hb dJ6_bitCount_0f7a4_48 rfl (lv_at hl 0 rfl) ?_
  refine lv_bipush (v := 63) hx hb dJ6_bitCount_0f7a4_49 (by decide) ?_
  refine lv_iand hx hb dJ6_bitCount_0f7a4_51 ?_
  exact kr (y47 &&& 63) () _ _ _ _ he hP hS dJ6_bitCount_0f7a4_52
def spX1_isCell (p0 : Int32) (p1 : Int32) : Int32 := (if p0 < 0 then 0 else (if 8 ≤ p0 then 0 else (if p1 < 0 then 0 else (if 12 ≤ p1 then 0 else 1))))
theorem spX1_isCell_e (p0 : Int32) (p1 : Int32) : spX1_isCell p0 p1 = (if p0 < 0 then 0 else (if 8 ≤ p0 then 0 else (if p1 < 0 then 0 else (if 12 ≤ p1 then 0 else 1)))) := rfl
set_option maxHeartbeats 4000000 in
set_option maxRecDepth 100000 in
theorem kX1_isCell (l : Launch) (dC : Nat → ClassId) (dI : Nat → Nat → Nat) (cI cL : ClassId)   (p0 : Int32) (p1 : Int32) : gv_Mi l yX1_isCell wsX1_isCell 0 0 (dC, dI) [(cI, .int), (cL, .long)] [.int p0, .int p1] ([] : va_W) (fun (r : Int32) (_ : Unit) => r = spX1_isCell p0 p1) (fun (_ : Unit) => ([] : va_W)) := by
  refine gv_ofz (cc := cX1_isCell) (maxL := 2) (own := RX1) (ty := .boolean) (by decide) rfl (Nat.le_of_ble_eq_true rfl) rfl ?_
  intro A p e s m args below meth c Q ls H locs hx hb hml hts hown hP hK hD hN hS hl kr
  have hl : lv_has ls 2 [(0, .int p0), (1, .int p1)] := hl
  have he := (spX1_isCell_e p0 p1).symm
  refine lv_iload_n hx hb dX1_isCell_0 rfl (lv_at hl 0 rfl) ?_
  refine lv_if_lt (tgt := 24) hx hb dX1_isCell_1 (by decide) (fun c1 => ?_) (fun c1 => ?_)
  · have he := gv_t c1 he
    refine lv_iconst (v := 0) hx hb dX1_isCell_24 (by decide) ?_
    exact kr 0 () _ _ _ _ rfl he hP hS dX1_isCell_25
  · have he := gv_f c1 he
    refine lv_iload_n hx hb dX1_isCell_4 rfl (lv_at hl 0 rfl) ?_
    refine lv_bipush (v := 8) hx hb dX1_isCell_5 (by decide) ?_
    refine lv_icmp_ge (tgt := 24) hx hb dX1_isCell_7 (by decide) (fun c7 => ?_) (fun c7 => ?_)
    · have he := gv_t c7 he
      refine lv_iconst (v := 0) hx hb dX1_isCell_24 (by decide) ?_
      exact kr 0 () _ _ _ _ rfl he hP hS dX1_isCell_25
    · have he := gv_f c7 he
      refine lv_iload_n hx hb dX1_isCell_10 rfl (lv_at hl 1 rfl) ?_
      refine lv_if_lt (tgt := 24) hx hb dX1_isCell_11 (by decide) (fun c11 => ?_) (fun c11 => ?_)
      · have he := gv_t c11 he
        refine lv_iconst (v := 0) hx hb dX1_isCell_24 (by decide) ?_
        exact kr 0 () _ _ _ _ rfl he hP hS dX1_isCell_25
      · have he := gv_f c11 he
        refine lv_iload_n hx hb dX1_isCell_14 rfl (lv_at hl 1 rfl) ?_
        refine lv_bipush (v := 12) hx hb dX1_isCell_15 (by decide) ?_
        refine lv_icmp_ge (tgt := 24) hx hb dX1_isCell_17 (by decide) (fun c17 => ?_) (fun c17 => ?_)
        · have he := gv_t c17 he
          refine lv_iconst (v := 0) hx hb dX1_isCell_24 (by decide) ?_
          exact kr 0 () _ _ _ _ rfl he hP hS dX1_isCell_25
        · have he := gv_f c17 he
          refine lv_iconst (v := 1) hx hb dX1_isCell_20 (by decide) ?_
          refine lv_goto (tgt := 25) hx hb dX1_isCell_21 (by decide) ?_
          exact kr 1 () _ _ _ _ rfl he hP hS dX1_isCell_25
def spX0_leafRow (f : Nat → Int32) (h : Nat → Int32) (p1 : Int32) : Int32 := (if p1 < 0 then 0 else (if 8 ≤ p1 then 0 else f p1.toNatClampNeg))
theorem spX0_leafRow_e (f : Nat → Int32) (h : Nat → Int32) (p1 : Int32) : spX0_leafRow f h p1 = (if p1 < 0 then 0 else (if 8 ≤ p1 then 0 else f p1.toNatClampNeg)) := rfl
set_option maxHeartbeats 4000000 in
set_option maxRecDepth 100000 in
theorem kX0_leafRow (l : Launch) (dC : Nat → ClassId) (dI : Nat → Nat → Nat) (cI cL : ClassId) (h0 : Nat) (h1 : Nat) (h2 : Nat) (f : Nat → Int32) (h : Nat → Int32) (p1 : Int32) : gv_Mi l yX0_leafRow wsX0_leafRow 0 0 (dC, dI) [(cI, .int), (cL, .long)] [.ref h0, .int p1] (gv_W cI h0 h1 h2 f h) (fun (r : Int32) (_ : Unit) => r = spX0_leafRow f h p1) (fun (_ : Unit) => (gv_W cI h0 h1 h2 f h)) := by
  refine gv_ofi (cc := cX0_leafRow) (maxL := 2) (own := RX0) (by decide) rfl (Nat.le_of_ble_eq_true rfl) rfl ?_
  intro A p e s m args below meth c Q ls H locs hx hb hml hts hown hP hK hD hN hS hl kr
  have inX0 : ∀ w ∈ wsX00, w ∈ wsX0_leafRow := (fun _ h => List.mem_cons_of_mem _ (List.mem_append_right _ h))
  have hl : lv_has ls 2 [(0, .ref h0), (1, .int p1)] := hl
  have he := (spX0_leafRow_e f h p1).symm
  refine lv_iload_n hx hb dX0_leafRow_0 rfl (lv_at hl 1 rfl) ?_
  refine lv_if_lt (tgt := 19) hx hb dX0_leafRow_1 (by decide) (fun c1 => ?_) (fun c1 => ?_)
  · have he := gv_t c1 he
    refine lv_iconst (v := 0) hx hb dX0_leafRow_19 (by decide) ?_
    exact kr 0 () _ _ _ _ he hP hS dX0_leafRow_20
  · have he := gv_f c1 he
    refine lv_iload_n hx hb dX0_leafRow_4 rfl (lv_at hl 1 rfl) ?_
    refine lv_bipush (v := 8) hx hb dX0_leafRow_5 (by decide) ?_
    refine lv_icmp_ge (tgt := 19) hx hb dX0_leafRow_7 (by decide) (fun c7 => ?_) (fun c7 => ?_)
    · have he := gv_t c7 he
      refine lv_iconst (v := 0) hx hb dX0_leafRow_19 (by decide) ?_
      exact kr 0 () _ _ _ _ he hP hS dX0_leafRow_20
    · have he := gv_f c7 he
      refine lv_aload_n hx hb dX0_leafRow_10 rfl (lv_at hl 0 rfl) ?_
      refine va_get (D := (dC, dI)) (ci := 0) (v := .ref h1) (C := RX0) (T := TX0) (N := 2) hx hb hts inX0 hown hK hP 0 rfl rfl 0 (by decide) (hts (.fieldLink RX0 9 "VineWall$Wall" "leafRows" "[I") (List.mem_of_getElem? (i := 1) rfl)) (fun _ h9 => h9) rfl dX0_leafRow_11 ?_
      refine lv_iload_n hx hb dX0_leafRow_14 rfl (lv_at hl 1 rfl) ?_
      refine va_iald (cA := cI) hx hb hK hP 1 0 rfl rfl (gv_in8 c1 (rfl : (8 : Int32) = nI 8) (by decide) c7) dX0_leafRow_15 ?_
      refine lv_goto (tgt := 20) hx hb dX0_leafRow_16 (by decide) ?_
      exact kr (f p1.toNatClampNeg) () _ _ _ _ he hP hS dX0_leafRow_20
def spX0_hasCutAt (f : Nat → Int32) (h : Nat → Int32) (p1 : Int32) (p2 : Int32) : Int32 := (if p1 < 0 then 0 else (if 8 ≤ p1 then 0 else (if (((h p1.toNatClampNeg) >>> (p2 &&& 31)) &&& 1) = 1 then 1 else 0)))
theorem spX0_hasCutAt_e (f : Nat → Int32) (h : Nat → Int32) (p1 : Int32) (p2 : Int32) : spX0_hasCutAt f h p1 p2 = (if p1 < 0 then 0 else (if 8 ≤ p1 then 0 else (if (((h p1.toNatClampNeg) >>> (p2 &&& 31)) &&& 1) = 1 then 1 else 0))) := rfl
set_option maxHeartbeats 4000000 in
set_option maxRecDepth 100000 in
theorem kX0_hasCutAt (l : Launch) (dC : Nat → ClassId) (dI : Nat → Nat → Nat) (cI cL : ClassId) (h0 : Nat) (h1 : Nat) (h2 : Nat) (f : Nat → Int32) (h : Nat → Int32) (p1 : Int32) (p2 : Int32) : gv_Mi l yX0_hasCutAt wsX0_hasCutAt 0 0 (dC, dI) [(cI, .int), (cL, .long)] [.ref h0, .int p1, .int p2] (gv_W cI h0 h1 h2 f h) (fun (r : Int32) (_ : Unit) => r = spX0_hasCutAt f h p1 p2) (fun (_ : Unit) => (gv_W cI h0 h1 h2 f h)) := by
  refine gv_ofz (cc := cX0_hasCutAt) (maxL := 3) (own := RX0) (ty := .boolean) (by decide) rfl (Nat.le_of_ble_eq_true rfl) rfl ?_
  intro A p e s m args below meth c Q ls H locs hx hb hml hts hown hP hK hD hN hS hl kr
  have inX0 : ∀ w ∈ wsX00, w ∈ wsX0_hasCutAt := (fun _ h => List.mem_cons_of_mem _ (List.mem_append_right _ h))
  have hl : lv_has ls 3 [(0, .ref h0), (1, .int p1), (2, .int p2)] := hl
  have he := (spX0_hasCutAt_e f h p1 p2).symm
  refine lv_iload_n hx hb dX0_hasCutAt_0 rfl (lv_at hl 1 rfl) ?_
  refine lv_if_lt (tgt := 28) hx hb dX0_hasCutAt_1 (by decide) (fun c1 => ?_) (fun c1 => ?_)
  · have he := gv_t c1 he
    refine lv_iconst (v := 0) hx hb dX0_hasCutAt_28 (by decide) ?_
    exact kr 0 () _ _ _ _ rfl he hP hS dX0_hasCutAt_29
  · have he := gv_f c1 he
    refine lv_iload_n hx hb dX0_hasCutAt_4 rfl (lv_at hl 1 rfl) ?_
    refine lv_bipush (v := 8) hx hb dX0_hasCutAt_5 (by decide) ?_
    refine lv_icmp_ge (tgt := 28) hx hb dX0_hasCutAt_7 (by decide) (fun c7 => ?_) (fun c7 => ?_)
    · have he := gv_t c7 he
      refine lv_iconst (v := 0) hx hb dX0_hasCutAt_28 (by decide) ?_
      exact kr 0 () _ _ _ _ rfl he hP hS dX0_hasCutAt_29
    · have he := gv_f c7 he
      refine lv_aload_n hx hb dX0_hasCutAt_10 rfl (lv_at hl 0 rfl) ?_
      refine va_get (D := (dC, dI)) (ci := 0) (v := .ref h2) (C := RX0) (T := TX0) (N := 2) hx hb hts inX0 hown hK hP 0 rfl rfl 1 (by decide) (hts (.fieldLink RX0 15 "VineWall$Wall" "cutRows" "[I") (List.mem_of_getElem? (i := 1) rfl)) (fun _ h9 => h9) rfl dX0_hasCutAt_11 ?_
      refine lv_iload_n hx hb dX0_hasCutAt_14 rfl (lv_at hl 1 rfl) ?_
      refine va_iald (cA := cI) hx hb hK hP 2 0 rfl rfl (gv_in8 c1 (rfl : (8 : Int32) = nI 8) (by decide) c7) dX0_hasCutAt_15 ?_
      refine lv_iload_n hx hb dX0_hasCutAt_16 rfl (lv_at hl 2 rfl) ?_
      refine lv_ishr hx hb dX0_hasCutAt_17 ?_
      refine lv_iconst (v := 1) hx hb dX0_hasCutAt_18 (by decide) ?_
      refine lv_iand hx hb dX0_hasCutAt_19 ?_
      refine lv_iconst (v := 1) hx hb dX0_hasCutAt_20 (by decide) ?_
      refine lv_icmp_ne (tgt := 28) hx hb dX0_hasCutAt_21 (by decide) (fun c21 => ?_) (fun c21 => ?_)
      · have he := gv_f c21 he
        refine lv_iconst (v := 0) hx hb dX0_hasCutAt_28 (by decide) ?_
        exact kr 0 () _ _ _ _ rfl he hP hS dX0_hasCutAt_29
      · have he := gv_t c21 he
        refine lv_iconst (v := 1) hx hb dX0_hasCutAt_24 (by decide) ?_
        refine lv_goto (tgt := 29) hx hb dX0_hasCutAt_25 (by decide) ?_
        exact kr 1 () _ _ _ _ rfl he hP hS dX0_hasCutAt_29
def spX0_hasLeafAt (f : Nat → Int32) (h : Nat → Int32) (p1 : Int32) (p2 : Int32) : Int32 := gv_b (spX0_leafRow f h p1) (fun q2 => (if ((q2 >>> (p2 &&& 31)) &&& 1) = 1 then 1 else 0))
theorem spX0_hasLeafAt_e (f : Nat → Int32) (h : Nat → Int32) (p1 : Int32) (p2 : Int32) : spX0_hasLeafAt f h p1 p2 = gv_b (spX0_leafRow f h p1) (fun q2 => (if ((q2 >>> (p2 &&& 31)) &&& 1) = 1 then 1 else 0)) := rfl
set_option maxHeartbeats 4000000 in
set_option maxRecDepth 100000 in
theorem kX0_hasLeafAt (l : Launch) (dC : Nat → ClassId) (dI : Nat → Nat → Nat) (cI cL : ClassId) (h0 : Nat) (h1 : Nat) (h2 : Nat) (f : Nat → Int32) (h : Nat → Int32) (p1 : Int32) (p2 : Int32) : gv_Mi l yX0_hasLeafAt wsX0_hasLeafAt 1 21 (dC, dI) [(cI, .int), (cL, .long)] [.ref h0, .int p1, .int p2] (gv_W cI h0 h1 h2 f h) (fun (r : Int32) (_ : Unit) => r = spX0_hasLeafAt f h p1 p2) (fun (_ : Unit) => (gv_W cI h0 h1 h2 f h)) := by
  refine gv_ofz (cc := cX0_hasLeafAt) (maxL := 3) (own := RX0) (ty := .boolean) (by decide) rfl (Nat.le_of_ble_eq_true rfl) rfl ?_
  intro A p e s m args below meth c Q ls H locs hx hb hml hts hown hP hK hD hN hS hl kr
  have inX0 : ∀ w ∈ wsX00, w ∈ wsX0_hasLeafAt := (fun _ h => List.mem_cons_of_mem _ (List.mem_append_right _ h))
  have hl : lv_has ls 3 [(0, .ref h0), (1, .int p1), (2, .int p2)] := hl
  have he := (spX0_hasLeafAt_e f h p1 p2).symm
  refine lv_aload_n hx hb dX0_hasLeafAt_0 rfl (lv_at hl 0 rfl) ?_
  refine lv_iload_n hx hb dX0_hasLeafAt_1 rfl (lv_at hl 1 rfl) ?_
  have hPc : va_P (dC, dI) vwCl (gv_W cI h0 h1 h2 f h) H := gv_sub [0, 1, 2] hP rfl
  have hDc : va_D (gv_in (gv_W cI h0 h1 h2 f h)) (gv_W cI h0 h1 h2 f h) := gv_D hD [0, 1, 2] (by decide) rfl
  refine gv_ki (wc := (gv_W cI h0 h1 h2 f h)) [0, 1, 2] (fun _ => rfl) hP hD hS rfl rfl (va_runV (As := [.int p1]) (rest := []) ⟨hx, hb, hml, hown, hts⟩ (kX0_leafRow l dC dI cI cL h0 h1 h2 f h p1 (gv_in (gv_W cI h0 h1 h2 f h))) (cwV 1 hts gX0_hasLeafAt_X0_leafRow rfl rfl rfl (by decide +kernel) ⟨Nat.le_of_ble_eq_true rfl, Nat.le_of_ble_eq_true rfl⟩) (gv_preV (ci := 0) hK hPc hDc hN rfl rfl) rfl rfl hl.1 rfl (lv_room (Nat.le_of_ble_eq_true rfl)) dX0_hasLeafAt_2 ⟨Nat.zero_le _, Nat.zero_le _⟩) (fun q2 u H locs hw hP hD hS => ?_)
  have he := gv_q hw he
  have hP : va_P (dC, dI) vwCl (gv_W cI h0 h1 h2 f h) H := hP
  have hD : va_D A (gv_W cI h0 h1 h2 f h) := hD
  refine lv_iload_n hx hb dX0_hasLeafAt_5 rfl (lv_at hl 2 rfl) ?_
  refine lv_ishr hx hb dX0_hasLeafAt_6 ?_
  refine lv_iconst (v := 1) hx hb dX0_hasLeafAt_7 (by decide) ?_
  refine lv_iand hx hb dX0_hasLeafAt_8 ?_
  refine lv_iconst (v := 1) hx hb dX0_hasLeafAt_9 (by decide) ?_
  refine lv_icmp_ne (tgt := 17) hx hb dX0_hasLeafAt_10 (by decide) (fun c10 => ?_) (fun c10 => ?_)
  · have he := gv_f c10 he
    refine lv_iconst (v := 0) hx hb dX0_hasLeafAt_17 (by decide) ?_
    exact kr 0 () _ _ _ _ rfl he hP hS dX0_hasLeafAt_18
  · have he := gv_t c10 he
    refine lv_iconst (v := 1) hx hb dX0_hasLeafAt_13 (by decide) ?_
    refine lv_goto (tgt := 18) hx hb dX0_hasLeafAt_14 (by decide) ?_
    exact kr 1 () _ _ _ _ rfl he hP hS dX0_hasLeafAt_18
def spX0_isBareAt (f : Nat → Int32) (h : Nat → Int32) (p1 : Int32) (p2 : Int32) : Int32 := gv_b (spX0_hasLeafAt f h p1 p2) (fun q3 => (if q3 = 0 then gv_b (spX0_hasCutAt f h p1 p2) (fun q12 => (if q12 = 0 then 1 else 0)) else 0))
theorem spX0_isBareAt_e (f : Nat → Int32) (h : Nat → Int32) (p1 : Int32) (p2 : Int32) : spX0_isBareAt f h p1 p2 = gv_b (spX0_hasLeafAt f h p1 p2) (fun q3 => (if q3 = 0 then gv_b (spX0_hasCutAt f h p1 p2) (fun q12 => (if q12 = 0 then 1 else 0)) else 0)) := rfl
set_option maxHeartbeats 4000000 in
set_option maxRecDepth 100000 in
theorem kX0_isBareAt (l : Launch) (dC : Nat → ClassId) (dI : Nat → Nat → Nat) (cI cL : ClassId) (h0 : Nat) (h1 : Nat) (h2 : Nat) (f : Nat → Int32) (h : Nat → Int32) (p1 : Int32) (p2 : Int32) : gv_Mi l yX0_isBareAt wsX0_isBareAt 2 43 (dC, dI) [(cI, .int), (cL, .long)] [.ref h0, .int p1, .int p2] (gv_W cI h0 h1 h2 f h) (fun (r : Int32) (_ : Unit) => r = spX0_isBareAt f h p1 p2) (fun (_ : Unit) => (gv_W cI h0 h1 h2 f h)) := by
  refine gv_ofz (cc := cX0_isBareAt) (maxL := 3) (own := RX0) (ty := .boolean) (by decide) rfl (Nat.le_of_ble_eq_true rfl) rfl ?_
  intro A p e s m args below meth c Q ls H locs hx hb hml hts hown hP hK hD hN hS hl kr
  have inX0 : ∀ w ∈ wsX00, w ∈ wsX0_isBareAt := (fun _ h => List.mem_cons_of_mem _ (List.mem_append_right _ h))
  have hl : lv_has ls 3 [(0, .ref h0), (1, .int p1), (2, .int p2)] := hl
  have he := (spX0_isBareAt_e f h p1 p2).symm
  refine lv_aload_n hx hb dX0_isBareAt_0 rfl (lv_at hl 0 rfl) ?_
  refine lv_iload_n hx hb dX0_isBareAt_1 rfl (lv_at hl 1 rfl) ?_
  refine lv_iload_n hx hb dX0_isBareAt_2 rfl (lv_at hl 2 rfl) ?_
  have hPc : va_P (dC, dI) vwCl (gv_W cI h0 h1 h2 f h) H := gv_sub [0, 1, 2] hP rfl
  have hDc : va_D (gv_in (gv_W cI h0 h1 h2 f h)) (gv_W cI h0 h1 h2 f h) := gv_D hD [0, 1, 2] (by decide) rfl
  refine gv_ki (wc := (gv_W cI h0 h1 h2 f h)) [0, 1, 2] (fun _ => rfl) hP hD hS rfl rfl (va_runV (As := [.int p1, .int p2]) (rest := []) ⟨hx, hb, hml, hown, hts⟩ (kX0_hasLeafAt l dC dI cI cL h0 h1 h2 f h p1 p2 (gv_in (gv_W cI h0 h1 h2 f h))) (cwV 2 hts gX0_isBareAt_X0_hasLeafAt rfl rfl rfl (by decide +kernel) ⟨Nat.le_of_ble_eq_true rfl, Nat.le_of_ble_eq_true rfl⟩) (gv_preV (ci := 0) hK hPc hDc hN rfl rfl) rfl rfl hl.1 rfl (lv_room (Nat.le_of_ble_eq_true rfl)) dX0_isBareAt_3 ⟨Nat.zero_le _, Nat.zero_le _⟩) (fun q3 u H locs hw hP hD hS => ?_)
  have he := gv_q hw he
  have hP : va_P (dC, dI) vwCl (gv_W cI h0 h1 h2 f h) H := hP
  have hD : va_D A (gv_W cI h0 h1 h2 f h) := hD
  refine lv_if_ne (tgt := 22) hx hb dX0_isBareAt_6 (by decide) (fun c6 => ?_) (fun c6 => ?_)
  · have he := gv_f c6 he
    refine lv_iconst (v := 0) hx hb dX0_isBareAt_22 (by decide) ?_
    exact kr 0 () _ _ _ _ rfl he hP hS dX0_isBareAt_23
  · have he := gv_t c6 he
    refine lv_aload_n hx hb dX0_isBareAt_9 rfl (lv_at hl 0 rfl) ?_
    refine lv_iload_n hx hb dX0_isBareAt_10 rfl (lv_at hl 1 rfl) ?_
    refine lv_iload_n hx hb dX0_isBareAt_11 rfl (lv_at hl 2 rfl) ?_
    have hPc : va_P (dC, dI) vwCl (gv_W cI h0 h1 h2 f h) H := gv_sub [0, 1, 2] hP rfl
    have hDc : va_D (gv_in (gv_W cI h0 h1 h2 f h)) (gv_W cI h0 h1 h2 f h) := gv_D hD [0, 1, 2] (by decide) rfl
    refine gv_ki (wc := (gv_W cI h0 h1 h2 f h)) [0, 1, 2] (fun _ => rfl) hP hD hS rfl rfl (va_runV (As := [.int p1, .int p2]) (rest := []) ⟨hx, hb, hml, hown, hts⟩ (kX0_hasCutAt l dC dI cI cL h0 h1 h2 f h p1 p2 (gv_in (gv_W cI h0 h1 h2 f h))) (cwV 2 hts gX0_isBareAt_X0_hasCutAt rfl rfl rfl (by decide +kernel) ⟨Nat.le_of_ble_eq_true rfl, Nat.le_of_ble_eq_true rfl⟩) (gv_preV (ci := 0) hK hPc hDc hN rfl rfl) rfl rfl hl.1 rfl (lv_room (Nat.le_of_ble_eq_true rfl)) dX0_isBareAt_12 ⟨Nat.zero_le _, Nat.zero_le _⟩) (fun q12 u H locs hw hP hD hS => ?_)
    have he := gv_q hw he
    have hP : va_P (dC, dI) vwCl (gv_W cI h0 h1 h2 f h) H := hP
    have hD : va_D A (gv_W cI h0 h1 h2 f h) := hD
    refine lv_if_ne (tgt := 22) hx hb dX0_isBareAt_15 (by decide) (fun c15 => ?_) (fun c15 => ?_)
    · have he := gv_f c15 he
      refine lv_iconst (v := 0) hx hb dX0_isBareAt_22 (by decide) ?_
      exact kr 0 () _ _ _ _ rfl he hP hS dX0_isBareAt_23
    · have he := gv_t c15 he
      refine lv_iconst (v := 1) hx hb dX0_isBareAt_18 (by decide) ?_
      refine lv_goto (tgt := 23) hx hb dX0_isBareAt_19 (by decide) ?_
      exact kr 1 () _ _ _ _ rfl he hP hS dX0_isBareAt_23
def spX0_countHolders (p0 : Int32) : Int32 := gv_b (spJ6_bitCount_0f7a4 (p0 &&& 7)) (fun q4 => q4)
theorem spX0_countHolders_e (p0 : Int32) : spX0_countHolders p0 = gv_b (spJ6_bitCount_0f7a4 (p0 &&& 7)) (fun q4 => q4) := rfl
set_option maxHeartbeats 4000000 in
set_option maxRecDepth 100000 in
theorem kX0_countHolders (l : Launch) (dC : Nat → ClassId) (dI : Nat → Nat → Nat) (cI cL : ClassId)   (p0 : Int32) : gv_Mi l yX0_countHolders wsX0_countHolders 1 20 (dC, dI) [(cI, .int), (cL, .long)] [.int p0] ([] : va_W) (fun (r : Int32) (_ : Unit) => r = spX0_countHolders p0) (fun (_ : Unit) => ([] : va_W)) := by
  refine gv_ofi (cc := cX0_countHolders) (maxL := 1) (own := RX0) (by decide) rfl (Nat.le_of_ble_eq_true rfl) rfl ?_
  intro A p e s m args below meth c Q ls H locs hx hb hml hts hown hP hK hD hN hS hl kr
  have hl : lv_has ls 1 [(0, .int p0)] := hl
  have he := (spX0_countHolders_e p0).symm
  refine lv_iload_n hx hb dX0_countHolders_0 rfl (lv_at hl 0 rfl) ?_
  refine lv_bipush (v := 7) hx hb dX0_countHolders_1 (by decide) ?_
  refine lv_iand hx hb dX0_countHolders_3 ?_
  have hPc : va_P (dC, dI) vwCl ([] : va_W) H := gv_P0
  have hDc : va_D (gv_in ([] : va_W)) ([] : va_W) := gv_D0
  refine gv_ki (wc := ([] : va_W)) [] (fun _ => rfl) hP hD hS rfl rfl (va_runS (As := [.int (p0 &&& 7)]) (rest := []) ⟨hx, hb, hml, hown, hts⟩ (kJ6_bitCount_0f7a4 l dC dI cI cL (p0 &&& 7) (gv_in ([] : va_W))) (va_cwS 1 hts gX0_countHolders_J6_bitCount_0f7a4 rfl rfl rfl (by decide +kernel) ⟨Nat.le_of_ble_eq_true rfl, Nat.le_of_ble_eq_true rfl⟩) (gv_preS hK hPc hDc hN) rfl rfl hl.1 rfl (lv_room (Nat.le_of_ble_eq_true rfl)) dX0_countHolders_4 ⟨Nat.zero_le _, Nat.zero_le _⟩) (fun q4 u H locs hw hP hD hS => ?_)
  have he := gv_q hw he
  have hP : va_P (dC, dI) vwCl ([] : va_W) H := hP
  have hD : va_D A ([] : va_W) := hD
  exact kr q4 () _ _ _ _ he hP hS dX0_countHolders_7
def spX0_countNeighbours (p0 : Int32) (p1 : Int32) (p2 : Int32) : Int32 := gv_b (spJ6_bitCount_0f7a4 (p0 &&& 7)) (fun q4 => gv_b (spJ6_bitCount_0f7a4 (p1 &&& 5)) (fun q10 => gv_b (spJ6_bitCount_0f7a4 (p2 &&& 7)) (fun q18 => (q4 + q10) + q18)))
theorem spX0_countNeighbours_e (p0 : Int32) (p1 : Int32) (p2 : Int32) : spX0_countNeighbours p0 p1 p2 = gv_b (spJ6_bitCount_0f7a4 (p0 &&& 7)) (fun q4 => gv_b (spJ6_bitCount_0f7a4 (p1 &&& 5)) (fun q10 => gv_b (spJ6_bitCount_0f7a4 (p2 &&& 7)) (fun q18 => (q4 + q10) + q18))) := rfl
set_option maxHeartbeats 4000000 in
set_option maxRecDepth 100000 in
theorem kX0_countNeighbours (l : Launch) (dC : Nat → ClassId) (dI : Nat → Nat → Nat) (cI cL : ClassId)   (p0 : Int32) (p1 : Int32) (p2 : Int32) : gv_Mi l yX0_countNeighbours wsX0_countNeighbours 1 20 (dC, dI) [(cI, .int), (cL, .long)] [.int p0, .int p1, .int p2] ([] : va_W) (fun (r : Int32) (_ : Unit) => r = spX0_countNeighbours p0 p1 p2) (fun (_ : Unit) => ([] : va_W)) := by
  refine gv_ofi (cc := cX0_countNeighbours) (maxL := 3) (own := RX0) (by decide) rfl (Nat.le_of_ble_eq_true rfl) rfl ?_
  intro A p e s m args below meth c Q ls H locs hx hb hml hts hown hP hK hD hN hS hl kr
  have hl : lv_has ls 3 [(0, .int p0), (1, .int p1), (2, .int p2)] := hl
  have he := (spX0_countNeighbours_e p0 p1 p2).symm
  refine lv_iload_n hx hb dX0_countNeighbours_0 rfl (lv_at hl 0 rfl) ?_
  refine lv_bipush (v := 7) hx hb dX0_countNeighbours_1 (by decide) ?_
  refine lv_iand hx hb dX0_countNeighbours_3 ?_
  have hPc : va_P (dC, dI) vwCl ([] : va_W) H := gv_P0
  have hDc : va_D (gv_in ([] : va_W)) ([] : va_W) := gv_D0
  refine gv_ki (wc := ([] : va_W)) [] (fun _ => rfl) hP hD hS rfl rfl (va_runS (As := [.int (p0 &&& 7)]) (rest := []) ⟨hx, hb, hml, hown, hts⟩ (kJ6_bitCount_0f7a4 l dC dI cI cL (p0 &&& 7) (gv_in ([] : va_W))) (va_cwS 1 hts gX0_countNeighbours_J6_bitCount_0f7a4 rfl rfl rfl (by decide +kernel) ⟨Nat.le_of_ble_eq_true rfl, Nat.le_of_ble_eq_true rfl⟩) (gv_preS hK hPc hDc hN) rfl rfl hl.1 rfl (lv_room (Nat.le_of_ble_eq_true rfl)) dX0_countNeighbours_4 ⟨Nat.zero_le _, Nat.zero_le _⟩) (fun q4 u H locs hw hP hD hS => ?_)
  have he := gv_q hw he
  have hP : va_P (dC, dI) vwCl ([] : va_W) H := hP
  have hD : va_D A ([] : va_W) := hD
  refine lv_iload_n hx hb dX0_countNeighbours_7 rfl (lv_at hl 1 rfl) ?_
  refine lv_iconst (v := 5) hx hb dX0_countNeighbours_8 (by decide) ?_
  refine lv_iand hx hb dX0_countNeighbours_9 ?_
  have hPc : va_P (dC, dI) vwCl ([] : va_W) H := gv_P0
  have hDc : va_D (gv_in ([] : va_W)) ([] : va_W) := gv_D0
  refine gv_ki (wc := ([] : va_W)) [] (fun _ => rfl) hP hD hS rfl rfl (va_runS (As := [.int (p1 &&& 5)]) (rest := [.int q4]) ⟨hx, hb, hml, hown, hts⟩ (kJ6_bitCount_0f7a4 l dC dI cI cL (p1 &&& 5) (gv_in ([] : va_W))) (va_cwS 1 hts gX0_countNeighbours_J6_bitCount_0f7a4 rfl rfl rfl (by decide +kernel) ⟨Nat.le_of_ble_eq_true rfl, Nat.le_of_ble_eq_true rfl⟩) (gv_preS hK hPc hDc hN) rfl rfl hl.1 rfl (lv_room (Nat.le_of_ble_eq_true rfl)) dX0_countNeighbours_10 ⟨Nat.zero_le _, Nat.zero_le _⟩) (fun q10 u H locs hw hP hD hS => ?_)
  have he := gv_q hw he
  have hP : va_P (dC, dI) vwCl ([] : va_W) H := hP
  have hD : va_D A ([] : va_W) := hD
  refine lv_iadd hx hb dX0_countNeighbours_13 ?_
  refine lv_iload_n hx hb dX0_countNeighbours_14 rfl (lv_at hl 2 rfl) ?_
  refine lv_bipush (v := 7) hx hb dX0_countNeighbours_15 (by decide) ?_
  refine lv_iand hx hb dX0_countNeighbours_17 ?_
  have hPc : va_P (dC, dI) vwCl ([] : va_W) H := gv_P0
  have hDc : va_D (gv_in ([] : va_W)) ([] : va_W) := gv_D0
  refine gv_ki (wc := ([] : va_W)) [] (fun _ => rfl) hP hD hS rfl rfl (va_runS (As := [.int (p2 &&& 7)]) (rest := [.int (q4 + q10)]) ⟨hx, hb, hml, hown, hts⟩ (kJ6_bitCount_0f7a4 l dC dI cI cL (p2 &&& 7) (gv_in ([] : va_W))) (va_cwS 1 hts gX0_countNeighbours_J6_bitCount_0f7a4 rfl rfl rfl (by decide +kernel) ⟨Nat.le_of_ble_eq_true rfl, Nat.le_of_ble_eq_true rfl⟩) (gv_preS hK hPc hDc hN) rfl rfl hl.1 rfl (lv_room (Nat.le_of_ble_eq_true rfl)) dX0_countNeighbours_18 ⟨Nat.zero_le _, Nat.zero_le _⟩) (fun q18 u H locs hw hP hD hS => ?_)
  have he := gv_q hw he
  have hP : va_P (dC, dI) vwCl ([] : va_W) H := hP
  have hD : va_D A ([] : va_W) := hD
  refine lv_iadd hx hb dX0_countNeighbours_21 ?_
  exact kr ((q4 + q10) + q18) () _ _ _ _ he hP hS dX0_countNeighbours_22
def spX0_leafRowAsSeen (f : Nat → Int32) (h : Nat → Int32) (p1 : Int32) (p2 : Int32) : Int32 := gv_b (spX0_leafRow f h p1) (fun q2 => (if p2 = 1 then gv_b ((q2 <<< ((1 : Int32) &&& 31)) ||| (((q2 >>> ((11 : Int32) &&& 31)) &&& 1) ||| ((q2 &&& 1) <<< ((13 : Int32) &&& 31)))) (fun y40 => y40) else (if p2 = 2 then gv_b ((q2 <<< ((1 : Int32) &&& 31)) ||| ((q2 &&& 1) ||| (((q2 >>> ((11 : Int32) &&& 31)) &&& 1) <<< ((13 : Int32) &&& 31)))) (fun y61 => y61) else q2 <<< ((1 : Int32) &&& 31))))
theorem spX0_leafRowAsSeen_e (f : Nat → Int32) (h : Nat → Int32) (p1 : Int32) (p2 : Int32) : spX0_leafRowAsSeen f h p1 p2 = gv_b (spX0_leafRow f h p1) (fun q2 => (if p2 = 1 then gv_b ((q2 <<< ((1 : Int32) &&& 31)) ||| (((q2 >>> ((11 : Int32) &&& 31)) &&& 1) ||| ((q2 &&& 1) <<< ((13 : Int32) &&& 31)))) (fun y40 => y40) else (if p2 = 2 then gv_b ((q2 <<< ((1 : Int32) &&& 31)) ||| ((q2 &&& 1) ||| (((q2 >>> ((11 : Int32) &&& 31)) &&& 1) <<< ((13 : Int32) &&& 31)))) (fun y61 => y61) else q2 <<< ((1 : Int32) &&& 31)))) := rfl
set_option maxHeartbeats 4000000 in
set_option maxRecDepth 100000 in
theorem kX0_leafRowAsSeen (l : Launch) (dC : Nat → ClassId) (dI : Nat → Nat → Nat) (cI cL : ClassId) (h0 : Nat) (h1 : Nat) (h2 : Nat) (f : Nat → Int32) (h : Nat → Int32) (p1 : Int32) (p2 : Int32) : gv_Mi l yX0_leafRowAsSeen wsX0_leafRowAsSeen 1 21 (dC, dI) [(cI, .int), (cL, .long)] [.ref h0, .int p1, .int p2] (gv_W cI h0 h1 h2 f h) (fun (r : Int32) (_ : Unit) => r = spX0_leafRowAsSeen f h p1 p2) (fun (_ : Unit) => (gv_W cI h0 h1 h2 f h)) := by
  refine gv_ofi (cc := cX0_leafRowAsSeen) (maxL := 7) (own := RX0) (by decide) rfl (Nat.le_of_ble_eq_true rfl) rfl ?_
  intro A p e s m args below meth c Q ls H locs hx hb hml hts hown hP hK hD hN hS hl kr
  have inX0 : ∀ w ∈ wsX00, w ∈ wsX0_leafRowAsSeen := (fun _ h => List.mem_cons_of_mem _ (List.mem_append_right _ h))
  have hl : lv_has ls 7 [(0, .ref h0), (1, .int p1), (2, .int p2)] := hl
  have he := (spX0_leafRowAsSeen_e f h p1 p2).symm
  refine lv_aload_n hx hb dX0_leafRowAsSeen_0 rfl (lv_at hl 0 rfl) ?_
  refine lv_iload_n hx hb dX0_leafRowAsSeen_1 rfl (lv_at hl 1 rfl) ?_
  have hPc : va_P (dC, dI) vwCl (gv_W cI h0 h1 h2 f h) H := gv_sub [0, 1, 2] hP rfl
  have hDc : va_D (gv_in (gv_W cI h0 h1 h2 f h)) (gv_W cI h0 h1 h2 f h) := gv_D hD [0, 1, 2] (by decide) rfl
  refine gv_ki (wc := (gv_W cI h0 h1 h2 f h)) [0, 1, 2] (fun _ => rfl) hP hD hS rfl rfl (va_runV (As := [.int p1]) (rest := []) ⟨hx, hb, hml, hown, hts⟩ (kX0_leafRow l dC dI cI cL h0 h1 h2 f h p1 (gv_in (gv_W cI h0 h1 h2 f h))) (cwV 1 hts gX0_leafRowAsSeen_X0_leafRow rfl rfl rfl (by decide +kernel) ⟨Nat.le_of_ble_eq_true rfl, Nat.le_of_ble_eq_true rfl⟩) (gv_preV (ci := 0) hK hPc hDc hN rfl rfl) rfl rfl hl.1 rfl (lv_room (Nat.le_of_ble_eq_true rfl)) dX0_leafRowAsSeen_2 ⟨Nat.zero_le _, Nat.zero_le _⟩) (fun q2 u H locs hw hP hD hS => ?_)
  have he := gv_q hw he
  have hP : va_P (dC, dI) vwCl (gv_W cI h0 h1 h2 f h) H := hP
  have hD : va_D A (gv_W cI h0 h1 h2 f h) := hD
  refine lv_istore_n (lv' := [(3, .int q2), (0, .ref h0), (1, .int p1), (2, .int p2)]) hx hb dX0_leafRowAsSeen_5 rfl hl (by decide) rfl (fun ls hl => ?_)
  refine lv_iload_n hx hb dX0_leafRowAsSeen_6 rfl (lv_at hl 0 rfl) ?_
  refine lv_iconst (v := 1) hx hb dX0_leafRowAsSeen_7 (by decide) ?_
  refine lv_iand hx hb dX0_leafRowAsSeen_8 ?_
  refine lv_istore (lv' := [(4, .int (q2 &&& 1)), (3, .int q2), (0, .ref h0), (1, .int p1), (2, .int p2)]) hx hb dX0_leafRowAsSeen_9 hl (by decide) rfl (fun ls hl => ?_)
  refine lv_iload_n hx hb dX0_leafRowAsSeen_11 rfl (lv_at hl 1 rfl) ?_
  refine lv_bipush (v := 11) hx hb dX0_leafRowAsSeen_12 (by decide) ?_
  refine lv_ishr hx hb dX0_leafRowAsSeen_14 ?_
  refine lv_iconst (v := 1) hx hb dX0_leafRowAsSeen_15 (by decide) ?_
  refine lv_iand hx hb dX0_leafRowAsSeen_16 ?_
  refine lv_istore (lv' := [(5, .int ((q2 >>> ((11 : Int32) &&& 31)) &&& 1)), (4, .int (q2 &&& 1)), (3, .int q2), (0, .ref h0), (1, .int p1), (2, .int p2)]) hx hb dX0_leafRowAsSeen_17 hl (by decide) rfl (fun ls hl => ?_)
  refine lv_iload_n hx hb dX0_leafRowAsSeen_19 rfl (lv_at hl 2 rfl) ?_
  refine lv_iconst (v := 1) hx hb dX0_leafRowAsSeen_20 (by decide) ?_
  refine lv_ishl hx hb dX0_leafRowAsSeen_21 ?_
  refine lv_istore (lv' := [(6, .int (q2 <<< ((1 : Int32) &&& 31))), (5, .int ((q2 >>> ((11 : Int32) &&& 31)) &&& 1)), (4, .int (q2 &&& 1)), (3, .int q2), (0, .ref h0), (1, .int p1), (2, .int p2)]) hx hb dX0_leafRowAsSeen_22 hl (by decide) rfl (fun ls hl => ?_)
  refine lv_iload_n hx hb dX0_leafRowAsSeen_24 rfl (lv_at hl 6 rfl) ?_
  refine lv_iconst (v := 1) hx hb dX0_leafRowAsSeen_25 (by decide) ?_
  refine lv_icmp_ne (tgt := 45) hx hb dX0_leafRowAsSeen_26 (by decide) (fun c26 => ?_) (fun c26 => ?_)
  · have he := gv_f c26 he
    refine lv_iload_n hx hb dX0_leafRowAsSeen_45 rfl (lv_at hl 6 rfl) ?_
    refine lv_iconst (v := 2) hx hb dX0_leafRowAsSeen_46 (by decide) ?_
    refine lv_icmp_ne (tgt := 63) hx hb dX0_leafRowAsSeen_47 (by decide) (fun c47 => ?_) (fun c47 => ?_)
    · have he := gv_f c47 he
      refine lv_iload hx hb dX0_leafRowAsSeen_63 (lv_at hl 0 rfl) ?_
      exact kr (q2 <<< ((1 : Int32) &&& 31)) () _ _ _ _ he hP hS dX0_leafRowAsSeen_65
    · have he := gv_t c47 he
      refine lv_iload hx hb dX0_leafRowAsSeen_50 (lv_at hl 0 rfl) ?_
      refine lv_iload hx hb dX0_leafRowAsSeen_52 (lv_at hl 2 rfl) ?_
      refine lv_iload hx hb dX0_leafRowAsSeen_54 (lv_at hl 1 rfl) ?_
      refine lv_bipush (v := 13) hx hb dX0_leafRowAsSeen_56 (by decide) ?_
      refine lv_ishl hx hb dX0_leafRowAsSeen_58 ?_
      refine lv_ior hx hb dX0_leafRowAsSeen_59 ?_
      refine lv_ior hx hb dX0_leafRowAsSeen_60 ?_
      refine lv_topi (fun y61 ey61 => ?_)
      have he := gv_q ey61 he
      refine lv_istore (lv' := [(6, .int y61), (5, .int ((q2 >>> ((11 : Int32) &&& 31)) &&& 1)), (4, .int (q2 &&& 1)), (3, .int q2), (0, .ref h0), (1, .int p1), (2, .int p2)]) hx hb dX0_leafRowAsSeen_61 hl (by decide) rfl (fun ls hl => ?_)
      refine lv_iload hx hb dX0_leafRowAsSeen_63 (lv_at hl 0 rfl) ?_
      exact kr y61 () _ _ _ _ he hP hS dX0_leafRowAsSeen_65
  · have he := gv_t c26 he
    refine lv_iload hx hb dX0_leafRowAsSeen_29 (lv_at hl 0 rfl) ?_
    refine lv_iload hx hb dX0_leafRowAsSeen_31 (lv_at hl 1 rfl) ?_
    refine lv_iload hx hb dX0_leafRowAsSeen_33 (lv_at hl 2 rfl) ?_
    refine lv_bipush (v := 13) hx hb dX0_leafRowAsSeen_35 (by decide) ?_
    refine lv_ishl hx hb dX0_leafRowAsSeen_37 ?_
    refine lv_ior hx hb dX0_leafRowAsSeen_38 ?_
    refine lv_ior hx hb dX0_leafRowAsSeen_39 ?_
    refine lv_topi (fun y40 ey40 => ?_)
    have he := gv_q ey40 he
    refine lv_istore (lv' := [(6, .int y40), (5, .int ((q2 >>> ((11 : Int32) &&& 31)) &&& 1)), (4, .int (q2 &&& 1)), (3, .int q2), (0, .ref h0), (1, .int p1), (2, .int p2)]) hx hb dX0_leafRowAsSeen_40 hl (by decide) rfl (fun ls hl => ?_)
    refine lv_goto (tgt := 63) hx hb dX0_leafRowAsSeen_42 (by decide) ?_
    refine lv_iload hx hb dX0_leafRowAsSeen_63 (lv_at hl 0 rfl) ?_
    exact kr y40 () _ _ _ _ he hP hS dX0_leafRowAsSeen_65
def spX0_holdersAt (f : Nat → Int32) (h : Nat → Int32) (p1 : Int32) (p2 : Int32) (p3 : Int32) : Int32 := gv_b (spX0_leafRowAsSeen f h (p1 - 1) p3) (fun q5 => gv_b (spX0_countHolders (q5 >>> (p2 &&& 31))) (fun q10 => q10))
theorem spX0_holdersAt_e (f : Nat → Int32) (h : Nat → Int32) (p1 : Int32) (p2 : Int32) (p3 : Int32) : spX0_holdersAt f h p1 p2 p3 = gv_b (spX0_leafRowAsSeen f h (p1 - 1) p3) (fun q5 => gv_b (spX0_countHolders (q5 >>> (p2 &&& 31))) (fun q10 => q10)) := rfl
set_option maxHeartbeats 4000000 in
set_option maxRecDepth 100000 in
theorem kX0_holdersAt (l : Launch) (dC : Nat → ClassId) (dI : Nat → Nat → Nat) (cI cL : ClassId) (h0 : Nat) (h1 : Nat) (h2 : Nat) (f : Nat → Int32) (h : Nat → Int32) (p1 : Int32) (p2 : Int32) (p3 : Int32) : gv_Mi l yX0_holdersAt wsX0_holdersAt 2 47 (dC, dI) [(cI, .int), (cL, .long)] [.ref h0, .int p1, .int p2, .int p3] (gv_W cI h0 h1 h2 f h) (fun (r : Int32) (_ : Unit) => r = spX0_holdersAt f h p1 p2 p3) (fun (_ : Unit) => (gv_W cI h0 h1 h2 f h)) := by
  refine gv_ofi (cc := cX0_holdersAt) (maxL := 4) (own := RX0) (by decide) rfl (Nat.le_of_ble_eq_true rfl) rfl ?_
  intro A p e s m args below meth c Q ls H locs hx hb hml hts hown hP hK hD hN hS hl kr
  have inX0 : ∀ w ∈ wsX00, w ∈ wsX0_holdersAt := (fun _ h => List.mem_cons_of_mem _ (List.mem_append_right _ h))
  have hl : lv_has ls 4 [(0, .ref h0), (1, .int p1), (2, .int p2), (3, .int p3)] := hl
  have he := (spX0_holdersAt_e f h p1 p2 p3).symm
  refine lv_aload_n hx hb dX0_holdersAt_0 rfl (lv_at hl 0 rfl) ?_
  refine lv_iload_n hx hb dX0_holdersAt_1 rfl (lv_at hl 1 rfl) ?_
  refine lv_iconst (v := 1) hx hb dX0_holdersAt_2 (by decide) ?_
  refine lv_isub hx hb dX0_holdersAt_3 ?_
  refine lv_iload_n hx hb dX0_holdersAt_4 rfl (lv_at hl 3 rfl) ?_
  have hPc : va_P (dC, dI) vwCl (gv_W cI h0 h1 h2 f h) H := gv_sub [0, 1, 2] hP rfl
  have hDc : va_D (gv_in (gv_W cI h0 h1 h2 f h)) (gv_W cI h0 h1 h2 f h) := gv_D hD [0, 1, 2] (by decide) rfl
  refine gv_ki (wc := (gv_W cI h0 h1 h2 f h)) [0, 1, 2] (fun _ => rfl) hP hD hS rfl rfl (va_runV (As := [.int (p1 - 1), .int p3]) (rest := []) ⟨hx, hb, hml, hown, hts⟩ (kX0_leafRowAsSeen l dC dI cI cL h0 h1 h2 f h (p1 - 1) p3 (gv_in (gv_W cI h0 h1 h2 f h))) (cwV 2 hts gX0_holdersAt_X0_leafRowAsSeen rfl rfl rfl (by decide +kernel) ⟨Nat.le_of_ble_eq_true rfl, Nat.le_of_ble_eq_true rfl⟩) (gv_preV (ci := 0) hK hPc hDc hN rfl rfl) rfl rfl hl.1 rfl (lv_room (Nat.le_of_ble_eq_true rfl)) dX0_holdersAt_5 ⟨Nat.zero_le _, Nat.zero_le _⟩) (fun q5 u H locs hw hP hD hS => ?_)
  have he := gv_q hw he
  have hP : va_P (dC, dI) vwCl (gv_W cI h0 h1 h2 f h) H := hP
  have hD : va_D A (gv_W cI h0 h1 h2 f h) := hD
  refine lv_iload_n hx hb dX0_holdersAt_8 rfl (lv_at hl 2 rfl) ?_
  refine lv_ishr hx hb dX0_holdersAt_9 ?_
  have hPc : va_P (dC, dI) vwCl ([] : va_W) H := gv_P0
  have hDc : va_D (gv_in ([] : va_W)) ([] : va_W) := gv_D0
  refine gv_ki (wc := ([] : va_W)) [] (fun _ => rfl) hP hD hS rfl rfl (va_runS (As := [.int (q5 >>> (p2 &&& 31))]) (rest := []) ⟨hx, hb, hml, hown, hts⟩ (kX0_countHolders l dC dI cI cL (q5 >>> (p2 &&& 31)) (gv_in ([] : va_W))) (va_cwS 1 hts gX0_holdersAt_X0_countHolders rfl rfl rfl (by decide +kernel) ⟨Nat.le_of_ble_eq_true rfl, Nat.le_of_ble_eq_true rfl⟩) (gv_preS hK hPc hDc hN) rfl rfl hl.1 rfl (lv_room (Nat.le_of_ble_eq_true rfl)) dX0_holdersAt_10 ⟨Nat.zero_le _, Nat.zero_le _⟩) (fun q10 u H locs hw hP hD hS => ?_)
  have he := gv_q hw he
  have hP : va_P (dC, dI) vwCl (gv_W cI h0 h1 h2 f h) H := hP
  have hD : va_D A (gv_W cI h0 h1 h2 f h) := hD
  exact kr q10 () _ _ _ _ he hP hS dX0_holdersAt_13
def spX0_neighboursAt (f : Nat → Int32) (h : Nat → Int32) (p1 : Int32) (p2 : Int32) (p3 : Int32) : Int32 := gv_b (spX0_leafRowAsSeen f h (p1 - 1) p3) (fun q5 => gv_b (spX0_leafRowAsSeen f h p1 p3) (fun q13 => gv_b (spX0_leafRowAsSeen f h (p1 + 1) p3) (fun q23 => gv_b (spX0_countNeighbours (q5 >>> (p2 &&& 31)) (q13 >>> (p2 &&& 31)) (q23 >>> (p2 &&& 31))) (fun q28 => q28))))
theorem spX0_neighboursAt_e (f : Nat → Int32) (h : Nat → Int32) (p1 : Int32) (p2 : Int32) (p3 : Int32) : spX0_neighboursAt f h p1 p2 p3 = gv_b (spX0_leafRowAsSeen f h (p1 - 1) p3) (fun q5 => gv_b (spX0_leafRowAsSeen f h p1 p3) (fun q13 => gv_b (spX0_leafRowAsSeen f h (p1 + 1) p3) (fun q23 => gv_b (spX0_countNeighbours (q5 >>> (p2 &&& 31)) (q13 >>> (p2 &&& 31)) (q23 >>> (p2 &&& 31))) (fun q28 => q28)))) := rfl
set_option maxHeartbeats 4000000 in
set_option maxRecDepth 100000 in
theorem kX0_neighboursAt (l : Launch) (dC : Nat → ClassId) (dI : Nat → Nat → Nat) (cI cL : ClassId) (h0 : Nat) (h1 : Nat) (h2 : Nat) (f : Nat → Int32) (h : Nat → Int32) (p1 : Int32) (p2 : Int32) (p3 : Int32) : gv_Mi l yX0_neighboursAt wsX0_neighboursAt 2 47 (dC, dI) [(cI, .int), (cL, .long)] [.ref h0, .int p1, .int p2, .int p3] (gv_W cI h0 h1 h2 f h) (fun (r : Int32) (_ : Unit) => r = spX0_neighboursAt f h p1 p2 p3) (fun (_ : Unit) => (gv_W cI h0 h1 h2 f h)) := by
  refine gv_ofi (cc := cX0_neighboursAt) (maxL := 4) (own := RX0) (by decide) rfl (Nat.le_of_ble_eq_true rfl) rfl ?_
  intro A p e s m args below meth c Q ls H locs hx hb hml hts hown hP hK hD hN hS hl kr
  have inX0 : ∀ w ∈ wsX00, w ∈ wsX0_neighboursAt := (fun _ h => List.mem_cons_of_mem _ (List.mem_append_right _ h))
  have hl : lv_has ls 4 [(0, .ref h0), (1, .int p1), (2, .int p2), (3, .int p3)] := hl
  have he := (spX0_neighboursAt_e f h p1 p2 p3).symm
  refine lv_aload_n hx hb dX0_neighboursAt_0 rfl (lv_at hl 0 rfl) ?_
  refine lv_iload_n hx hb dX0_neighboursAt_1 rfl (lv_at hl 1 rfl) ?_
  refine lv_iconst (v := 1) hx hb dX0_neighboursAt_2 (by decide) ?_
  refine lv_isub hx hb dX0_neighboursAt_3 ?_
  refine lv_iload_n hx hb dX0_neighboursAt_4 rfl (lv_at hl 3 rfl) ?_
  have hPc : va_P (dC, dI) vwCl (gv_W cI h0 h1 h2 f h) H := gv_sub [0, 1, 2] hP rfl
  have hDc : va_D (gv_in (gv_W cI h0 h1 h2 f h)) (gv_W cI h0 h1 h2 f h) := gv_D hD [0, 1, 2] (by decide) rfl
  refine gv_ki (wc := (gv_W cI h0 h1 h2 f h)) [0, 1, 2] (fun _ => rfl) hP hD hS rfl rfl (va_runV (As := [.int (p1 - 1), .int p3]) (rest := []) ⟨hx, hb, hml, hown, hts⟩ (kX0_leafRowAsSeen l dC dI cI cL h0 h1 h2 f h (p1 - 1) p3 (gv_in (gv_W cI h0 h1 h2 f h))) (cwV 2 hts gX0_neighboursAt_X0_leafRowAsSeen rfl rfl rfl (by decide +kernel) ⟨Nat.le_of_ble_eq_true rfl, Nat.le_of_ble_eq_true rfl⟩) (gv_preV (ci := 0) hK hPc hDc hN rfl rfl) rfl rfl hl.1 rfl (lv_room (Nat.le_of_ble_eq_true rfl)) dX0_neighboursAt_5 ⟨Nat.zero_le _, Nat.zero_le _⟩) (fun q5 u H locs hw hP hD hS => ?_)
  have he := gv_q hw he
  have hP : va_P (dC, dI) vwCl (gv_W cI h0 h1 h2 f h) H := hP
  have hD : va_D A (gv_W cI h0 h1 h2 f h) := hD
  refine lv_iload_n hx hb dX0_neighboursAt_8 rfl (lv_at hl 2 rfl) ?_
  refine lv_ishr hx hb dX0_neighboursAt_9 ?_
  refine lv_aload_n hx hb dX0_neighboursAt_10 rfl (lv_at hl 0 rfl) ?_
  refine lv_iload_n hx hb dX0_neighboursAt_11 rfl (lv_at hl 1 rfl) ?_
  refine lv_iload_n hx hb dX0_neighboursAt_12 rfl (lv_at hl 3 rfl) ?_
  have hPc : va_P (dC, dI) vwCl (gv_W cI h0 h1 h2 f h) H := gv_sub [0, 1, 2] hP rfl
  have hDc : va_D (gv_in (gv_W cI h0 h1 h2 f h)) (gv_W cI h0 h1 h2 f h) := gv_D hD [0, 1, 2] (by decide) rfl
  refine gv_ki (wc := (gv_W cI h0 h1 h2 f h)) [0, 1, 2] (fun _ => rfl) hP hD hS rfl rfl (va_runV (As := [.int p1, .int p3]) (rest := [.int (q5 >>> (p2 &&& 31))]) ⟨hx, hb, hml, hown, hts⟩ (kX0_leafRowAsSeen l dC dI cI cL h0 h1 h2 f h p1 p3 (gv_in (gv_W cI h0 h1 h2 f h))) (cwV 2 hts gX0_neighboursAt_X0_leafRowAsSeen rfl rfl rfl (by decide +kernel) ⟨Nat.le_of_ble_eq_true rfl, Nat.le_of_ble_eq_true rfl⟩) (gv_preV (ci := 0) hK hPc hDc hN rfl rfl) rfl rfl hl.1 rfl (lv_room (Nat.le_of_ble_eq_true rfl)) dX0_neighboursAt_13 ⟨Nat.zero_le _, Nat.zero_le _⟩) (fun q13 u H locs hw hP hD hS => ?_)
  have he := gv_q hw he
  have hP : va_P (dC, dI) vwCl (gv_W cI h0 h1 h2 f h) H := hP
  have hD : va_D A (gv_W cI h0 h1 h2 f h) := hD
  refine lv_iload_n hx hb dX0_neighboursAt_16 rfl (lv_at hl 2 rfl) ?_
  refine lv_ishr hx hb dX0_neighboursAt_17 ?_
  refine lv_aload_n hx hb dX0_neighboursAt_18 rfl (lv_at hl 0 rfl) ?_
  refine lv_iload_n hx hb dX0_neighboursAt_19 rfl (lv_at hl 1 rfl) ?_
  refine lv_iconst (v := 1) hx hb dX0_neighboursAt_20 (by decide) ?_
  refine lv_iadd hx hb dX0_neighboursAt_21 ?_
  refine lv_iload_n hx hb dX0_neighboursAt_22 rfl (lv_at hl 3 rfl) ?_
  have hPc : va_P (dC, dI) vwCl (gv_W cI h0 h1 h2 f h) H := gv_sub [0, 1, 2] hP rfl
  have hDc : va_D (gv_in (gv_W cI h0 h1 h2 f h)) (gv_W cI h0 h1 h2 f h) := gv_D hD [0, 1, 2] (by decide) rfl
  refine gv_ki (wc := (gv_W cI h0 h1 h2 f h)) [0, 1, 2] (fun _ => rfl) hP hD hS rfl rfl (va_runV (As := [.int (p1 + 1), .int p3]) (rest := [.int (q13 >>> (p2 &&& 31)), .int (q5 >>> (p2 &&& 31))]) ⟨hx, hb, hml, hown, hts⟩ (kX0_leafRowAsSeen l dC dI cI cL h0 h1 h2 f h (p1 + 1) p3 (gv_in (gv_W cI h0 h1 h2 f h))) (cwV 2 hts gX0_neighboursAt_X0_leafRowAsSeen rfl rfl rfl (by decide +kernel) ⟨Nat.le_of_ble_eq_true rfl, Nat.le_of_ble_eq_true rfl⟩) (gv_preV (ci := 0) hK hPc hDc hN rfl rfl) rfl rfl hl.1 rfl (lv_room (Nat.le_of_ble_eq_true rfl)) dX0_neighboursAt_23 ⟨Nat.zero_le _, Nat.zero_le _⟩) (fun q23 u H locs hw hP hD hS => ?_)
  have he := gv_q hw he
  have hP : va_P (dC, dI) vwCl (gv_W cI h0 h1 h2 f h) H := hP
  have hD : va_D A (gv_W cI h0 h1 h2 f h) := hD
  refine lv_iload_n hx hb dX0_neighboursAt_26 rfl (lv_at hl 2 rfl) ?_
  refine lv_ishr hx hb dX0_neighboursAt_27 ?_
  have hPc : va_P (dC, dI) vwCl ([] : va_W) H := gv_P0
  have hDc : va_D (gv_in ([] : va_W)) ([] : va_W) := gv_D0
  refine gv_ki (wc := ([] : va_W)) [] (fun _ => rfl) hP hD hS rfl rfl (va_runS (As := [.int (q5 >>> (p2 &&& 31)), .int (q13 >>> (p2 &&& 31)), .int (q23 >>> (p2 &&& 31))]) (rest := []) ⟨hx, hb, hml, hown, hts⟩ (kX0_countNeighbours l dC dI cI cL (q5 >>> (p2 &&& 31)) (q13 >>> (p2 &&& 31)) (q23 >>> (p2 &&& 31)) (gv_in ([] : va_W))) (va_cwS 3 hts gX0_neighboursAt_X0_countNeighbours rfl rfl rfl (by decide +kernel) ⟨Nat.le_of_ble_eq_true rfl, Nat.le_of_ble_eq_true rfl⟩) (gv_preS hK hPc hDc hN) rfl rfl hl.1 rfl (lv_room (Nat.le_of_ble_eq_true rfl)) dX0_neighboursAt_28 ⟨Nat.zero_le _, Nat.zero_le _⟩) (fun q28 u H locs hw hP hD hS => ?_)
  have he := gv_q hw he
  have hP : va_P (dC, dI) vwCl (gv_W cI h0 h1 h2 f h) H := hP
  have hD : va_D A (gv_W cI h0 h1 h2 f h) := hD
  exact kr q28 () _ _ _ _ he hP hS dX0_neighboursAt_31
end
