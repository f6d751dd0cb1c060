/-! Base: a standard contract, and the calls of it. -/
-- the residual of a specification: branches, results of calls
theorem gv_t {c : Prop} [hd : Decidable c] {α : Type} {a b r : α} (h : c) (e : (if c then a else b) = r) : a = r := (if_pos h).symm.trans e
theorem gv_f {c : Prop} [hd : Decidable c] {α : Type} {a b r : α} (h : ¬ c) (e : (if c then a else b) = r) : b = r := (if_neg h).symm.trans e
def gv_b {α β : Type} (a : α) (k : α → β) : β := k a
def gv_b2 {α γ β : Type} (a : α × γ) (k : α → γ → β) : β := k a.1 a.2
def gv_b3 {α γ δ β : Type} (a : α × γ × δ) (k : α → γ → δ → β) : β := k a.1 a.2.1 a.2.2
def gv_b4 {α γ δ ε β : Type} (a : α × γ × δ × ε) (k : α → γ → δ → ε → β) : β := k a.1 a.2.1 a.2.2.1 a.2.2.2
theorem gv_q {α β : Type} {u a : α} {k : α → β} {r : β} (h : u = a) (e : gv_b a k = r) : k u = r := by subst h; exact e
theorem gv_q2 {α γ β : Type} {u : α} {v : γ} {a : α × γ} {k : α → γ → β} {r : β} (h : (u, v) = a) (e : gv_b2 a k = r) : k u v = r := by subst h; exact e
theorem gv_q3 {α γ δ β : Type} {u : α} {v : γ} {w : δ} {a : α × γ × δ} {k : α → γ → δ → β} {r : β} (h : (u, v, w) = a) (e : gv_b3 a k = r) : k u v w = r := by subst h; exact e
theorem gv_q4 {α γ δ ε β : Type} {u : α} {v : γ} {w : δ} {x : ε} {a : α × γ × δ × ε} {k : α → γ → δ → ε → β} {r : β} (h : (u, v, w, x) = a) (e : gv_b4 a k = r) : k u v w x = r := by subst h; exact e
def gv_b5 {α0 α1 α2 α3 α4 β : Type} (a : α0 × α1 × α2 × α3 × α4) (k : α0 → α1 → α2 → α3 → α4 → β) : β := k a.1 a.2.1 a.2.2.1 a.2.2.2.1 a.2.2.2.2
theorem gv_q5 {α0 α1 α2 α3 α4 β : Type} {u0 : α0} {u1 : α1} {u2 : α2} {u3 : α3} {u4 : α4} {a : α0 × α1 × α2 × α3 × α4} {k : α0 → α1 → α2 → α3 → α4 → β} {r : β} (h : (u0, u1, u2, u3, u4) = a) (e : gv_b5 a k = r) : k u0 u1 u2 u3 u4 = r := by subst h; exact e
def gv_b6 {α0 α1 α2 α3 α4 α5 β : Type} (a : α0 × α1 × α2 × α3 × α4 × α5) (k : α0 → α1 → α2 → α3 → α4 → α5 → β) : β := k a.1 a.2.1 a.2.2.1 a.2.2.2.1 a.2.2.2.2.1 a.2.2.2.2.2
theorem gv_q6 {α0 α1 α2 α3 α4 α5 β : Type} {u0 : α0} {u1 : α1} {u2 : α2} {u3 : α3} {u4 : α4} {u5 : α5} {a : α0 × α1 × α2 × α3 × α4 × α5} {k : α0 → α1 → α2 → α3 → α4 → α5 → β} {r : β} (h : (u0, u1, u2, u3, u4, u5) = a) (e : gv_b6 a k = r) : k u0 u1 u2 u3 u4 u5 = r := by subst h; exact e
def gv_b7 {α0 α1 α2 α3 α4 α5 α6 β : Type} (a : α0 × α1 × α2 × α3 × α4 × α5 × α6) (k : α0 → α1 → α2 → α3 → α4 → α5 → α6 → β) : β := k a.1 a.2.1 a.2.2.1 a.2.2.2.1 a.2.2.2.2.1 a.2.2.2.2.2.1 a.2.2.2.2.2.2
theorem gv_q7 {α0 α1 α2 α3 α4 α5 α6 β : Type} {u0 : α0} {u1 : α1} {u2 : α2} {u3 : α3} {u4 : α4} {u5 : α5} {u6 : α6} {a : α0 × α1 × α2 × α3 × α4 × α5 × α6} {k : α0 → α1 → α2 → α3 → α4 → α5 → α6 → β} {r : β} (h : (u0, u1, u2, u3, u4, u5, u6) = a) (e : gv_b7 a k = r) : k u0 u1 u2 u3 u4 u5 u6 = r := by subst h; exact e
theorem gv_k1 {α β : Type} {K F : α → β} {a : α} {r : β} (h : K = F) (e : K a = r) : F a = r := by subst h; exact e
theorem gv_k2 {α γ β : Type} {K F : α → γ → β} {a : α} {b : γ} {r : β} (h : K = F) (e : K a b = r) : F a b = r := by subst h; exact e
-- loop tests
theorem gv_ge {x y : Int32} {i N : Nat} (hx : x = nI i) (hy : y = nI N) (hN : N < 2 ^ 31) (h : i = N) : ¬ ¬ y ≤ x := by
  subst hx; subst hy; subst h
  exact fun q => q (nI_le (Nat.le_refl _) hN)
theorem gv_lt {x y : Int32} {i N : Nat} (hx : x = nI i) (hy : y = nI N) (hN : N < 2 ^ 31) (h : i < N) : ¬ y ≤ x := by
  subst hx; subst hy
  exact nI_ge h hN
theorem gv_gt {x y : Int32} {i N : Nat} (hx : x = nI i) (hy : y = nI N) (hi : i < 2 ^ 31) (h : N < i) : ¬ ¬ y < x := by
  subst hx; subst hy
  exact fun q => q (nI_lt h hi)
theorem gv_ngt {x y : Int32} {i N : Nat} (hx : x = nI i) (hy : y = nI N) (hN : N < 2 ^ 31) (h : i ≤ N) : ¬ y < x := by
  subst hx; subst hy
  exact nI_nlt h hN
theorem gv_in8 {x : Int32} {n : Nat} (h1 : ¬ x < 0) {y : Int32} (hy : y = nI n) (hn : n < 2 ^ 31) (h2 : ¬ y ≤ x) : vp_in x n := by
  subst hy
  rw [vp_in_iff]
  rw [Int32.lt_iff_toInt_lt] at h1
  rw [Int32.le_iff_toInt_le, nI_toInt hn] at h2
  have : (0 : Int32).toInt = 0 := rfl
  omega
theorem gv_inN {x : Int32} {i n : Nat} (hx : x = nI i) (h : i < n) (hn : n < 2 ^ 31) : vp_in x n := by
  subst hx
  exact vp_in_nI h hn
-- the two links to members of the nest
def gv_N (U : State) : Prop := va_Nw (.methodLinkNest RX0 29 yX1_isCell RX1) U ∧ va_Nw (.methodLinkNest RX1 9 yX0_init RX1) U
theorem gv_N.warm {s U : State} (hW : s.WarmedH U.vm) (h : gv_N s) : gv_N U := ⟨va_Nw.warmM hW h.1, va_Nw.warmM hW h.2⟩
theorem gv_N.same {u U : State} (h : u.vm = U.vm) (hN : gv_N u) : gv_N U := ⟨va_Nw.same rfl h hN.1, va_Nw.same rfl h hN.2⟩
-- the cells of a world by their addresses
def gv_in (ws : va_W) : Nat → Prop := fun q => q ∈ ws.map Prod.fst
def gv_Pc (D : va_G) (tys : List (ClassId × FieldType)) (A : Nat → Prop) (av : List Value) (ws : va_W) : Array Value → State → Prop := va_Pc av (fun U => va_P D vwCl ws U.heap ∧ va_K D vwCl tys U ∧ va_D A ws ∧ gv_N U)
theorem gv_blind {D : va_G} {tys : List (ClassId × FieldType)} {A : Nat → Prop} {av : List Value} {ws : va_W} : FrameBlind (gv_Pc D tys A av ws) := by
  intro a U g mk q
  obtain ⟨q0, q1, q2, q3, q4⟩ := q
  exact ⟨q0, q1, va_K.moved (u := U) (U := U.calling g mk a) (Vm.Alike.refl U.vm) q2, q3, gv_N.same (u := U) (U := U.calling g mk a) rfl q4⟩
theorem gv_preS {s : State} {H : Heap} {D : va_G} {tys : List (ClassId × FieldType)} {A : Nat → Prop} {As : List Value} {ws : va_W} (hK : va_K D vwCl tys s) (hP : va_P D vwCl ws H) (hD : va_D A ws) (hN : gv_N s) : PreS s H (gv_Pc D tys A As ws) As :=
  ⟨gv_blind, fun U hU hW => ⟨rfl, by rw [hU]; exact hP, va_K.moved hW.alike hK, hD, gv_N.warm hW hN⟩⟩
theorem gv_preV {s : State} {H : Heap} {D : va_G} {tys : List (ClassId × FieldType)} {A : Nat → Prop} {As : List Value} {ws : va_W} {b ci : Nat} {q : vw_C} {fs : List Value} (hK : va_K D vwCl tys s) (hP : va_P D vwCl ws H) (hD : va_D A ws) (hN : gv_N s) (hc : vwCl[ci]? = some q) (he : ws[0]? = some (b, .inr (ci, fs))) : PreV s H q.1 b (gv_Pc D tys A (.ref b :: As) ws) As :=
  ⟨gv_blind, va_recv hK hP hc he, fun U hU hW => ⟨rfl, by rw [hU]; exact hP, va_K.moved hW.alike hK, hD, gv_N.warm hW hN⟩⟩
-- contracts: an int, a long, nothing comes back; no cell is made; what changes is told by wf
def gv_Mi (l : Launch) (y : MethodName) (wsy : List Cond) (fr lo : Nat) (D : va_G) (tys : List (ClassId × FieldType)) (av : List Value) (wc : va_W) {S : Type} (post : Int32 → S → Prop) (wf : S → va_W) : Prop :=
  ∀ A : Nat → Prop, Met l y wsy { frames := fr, cells := 0, slots := 0, locals := lo } (gv_Pc D tys A av wc) (va_Qi post (fun u t => va_P D vwCl (wf u) t.heap) A) 0 0 A
def gv_Ml (l : Launch) (y : MethodName) (wsy : List Cond) (fr lo : Nat) (D : va_G) (tys : List (ClassId × FieldType)) (av : List Value) (wc : va_W) {S : Type} (post : Int64 → S → Prop) (wf : S → va_W) : Prop :=
  ∀ A : Nat → Prop, Met l y wsy { frames := fr, cells := 0, slots := 0, locals := lo } (gv_Pc D tys A av wc) (va_Ql post (fun u t => va_P D vwCl (wf u) t.heap) A) 0 0 A
def gv_Mv (l : Launch) (y : MethodName) (wsy : List Cond) (fr lo : Nat) (D : va_G) (tys : List (ClassId × FieldType)) (av : List Value) (wc : va_W) {S : Type} (post : S → Prop) (wf : S → va_W) : Prop :=
  ∀ A : Nat → Prop, Met l y wsy { frames := fr, cells := 0, slots := 0, locals := lo } (gv_Pc D tys A av wc) (va_Qv post (fun u t => va_P D vwCl (wf u) t.heap) A) 0 0 A
-- a world with some of its cells anew
def gv_put : va_W → List Nat → va_W → va_W
  | ws, i :: is, e :: w1 => gv_put (ws.set i e) is w1
  | ws, _, _ => ws
theorem gv_set_fst (ws : va_W) (i : Nat) (e : Nat × va_E) (h : (ws[i]?).map Prod.fst = some e.1) (j : Nat) : ((ws.set i e)[j]?).map Prod.fst = (ws[j]?).map Prod.fst := by
  by_cases hij : i = j
  · subst hij
    have hi : i < ws.length := by
      cases hw : ws[i]? with
      | none => rw [hw] at h; cases h
      | some q => exact (List.getElem?_eq_some_iff.mp hw).1
    rw [List.getElem?_set_self hi, h]
    rfl
  · rw [List.getElem?_set_ne hij]
theorem gv_put_fst : ∀ (is : List Nat) (w1 ws : va_W), is.map (fun i => (ws[i]?).map Prod.fst) = w1.map (fun e => some e.1) → ∀ k : Nat, ((gv_put ws is w1)[k]?).map Prod.fst = (ws[k]?).map Prod.fst
  | [], _, _, _, _ => by simp [gv_put]
  | _ :: _, [], _, h, _ => by simp at h
  | i :: is, e :: w1, ws, h, k => by
    simp only [List.map_cons, List.cons.injEq] at h
    have h2 : is.map (fun j => ((ws.set i e)[j]?).map Prod.fst) = w1.map (fun e => some e.1) := by
      rw [← h.2]
      exact List.map_congr_left (fun j _ => gv_set_fst ws i e h.1 j)
    rw [gv_put, gv_put_fst is w1 (ws.set i e) h2 k, gv_set_fst ws i e h.1 k]
theorem gv_put_get : ∀ (is : List Nat) (w1 ws : va_W), is.length = w1.length → ∀ (k : Nat) (q : Nat × va_E), (gv_put ws is w1)[k]? = some q → q ∈ w1 ∨ (ws[k]? = some q ∧ k ∉ is)
  | [], _, _, _, _, _, h => Or.inr ⟨by simpa [gv_put] using h, by simp⟩
  | _ :: _, [], _, hl, _, _, _ => by simp at hl
  | i :: is, e :: w1, ws, hl, k, q, h => by
    rw [gv_put] at h
    rcases gv_put_get is w1 (ws.set i e) (by simpa using hl) k q h with h1 | ⟨h1, h2⟩
    · exact Or.inl (List.mem_cons_of_mem _ h1)
    · by_cases hik : i = k
      · subst hik
        have hi : i < (ws.set i e).length := (List.getElem?_eq_some_iff.mp h1).1
        rw [List.getElem?_set_self (by simpa using hi)] at h1
        cases h1
        exact Or.inl List.mem_cons_self
      · rw [List.getElem?_set_ne hik] at h1
        exact Or.inr ⟨h1, fun hm => (List.mem_cons.mp hm).elim (fun h3 => hik h3.symm) h2⟩
theorem gv_join {D : va_G} {cl : List vw_C} {ws wc w1 : va_W} {A0 : Nat → Prop} {H H1 : Heap} (is : List Nat) (hP : va_P D cl ws H) (hD : va_D A0 ws) (his : is.map (fun i => ws[i]?) = wc.map some) (hw1 : w1.map Prod.fst = wc.map Prod.fst)
    (hk : ∀ q : Nat, q < H.size → ¬ gv_in wc q → H1[q]? = H[q]?) (hP1 : va_P D cl w1 H1) : va_P D cl (gv_put ws is w1) H1 ∧ va_D A0 (gv_put ws is w1) := by
  have hf : is.map (fun i => (ws[i]?).map Prod.fst) = w1.map (fun e => some e.1) := by
    have h1 : is.map (fun i => (ws[i]?).map Prod.fst) = (is.map (fun i => ws[i]?)).map (Option.map Prod.fst) := by rw [List.map_map]; rfl
    rw [h1, his, List.map_map]
    have h2 : w1.map (fun e => some e.1) = (w1.map Prod.fst).map some := by rw [List.map_map]; rfl
    rw [h2, hw1, List.map_map]
    rfl
  have hlen : is.length = w1.length := by
    have := congrArg List.length hf
    simpa using this
  have hfst := gv_put_fst is w1 ws hf
  constructor
  · intro k q hq
    rcases gv_put_get is w1 ws hlen k q hq with h | ⟨h, hn⟩
    · obtain ⟨j, hj⟩ := List.getElem?_of_mem h
      exact hP1 j q hj
    · refine (hP k q h).kept (hk q.1 (hP k q h).lt fun hin => ?_)
      unfold gv_in at hin
      obtain ⟨e, he, hee⟩ := List.mem_map.mp hin
      obtain ⟨j, hj⟩ := List.getElem?_of_mem he
      have h3 : (is.map (fun i => ws[i]?))[j]? = some (some e) := by rw [his, List.getElem?_map, hj]; rfl
      rw [List.getElem?_map] at h3
      cases hi : is[j]? with
      | none => rw [hi] at h3; cases h3
      | some i =>
        rw [hi] at h3
        have h4 : ws[i]? = some e := Option.some.inj h3
        have h5 := hD.1 k i q e h h4 hee.symm
        subst h5
        exact hn (List.mem_of_getElem? hi)
  · have back : ∀ (k : Nat) (q : Nat × va_E), (gv_put ws is w1)[k]? = some q → ∃ q', ws[k]? = some q' ∧ q'.1 = q.1 := by
      intro k q hq
      have h := hfst k
      rw [hq] at h
      cases hw : ws[k]? with
      | none => rw [hw] at h; cases h
      | some q' => rw [hw] at h; exact ⟨q', rfl, (Option.some.inj h).symm⟩
    constructor
    · intro i j x y hx hy hxy
      obtain ⟨x', hx', ex⟩ := back i x hx
      obtain ⟨y', hy', ey⟩ := back j y hy
      exact hD.1 i j x' y' hx' hy' (by rw [ex, ey]; exact hxy)
    · intro k q hq
      obtain ⟨q', hq', eq⟩ := back k q hq
      rw [← eq]
      exact hD.2 k q' hq'
theorem gv_D {A0 : Nat → Prop} {ws wc : va_W} (hD : va_D A0 ws) (is : List Nat) (hnd : va_nd is = true) (his : is.map (fun i => ws[i]?) = wc.map some) : va_D (gv_in wc) wc :=
  ⟨(hD.sub is hnd his).1, fun k q hq => List.mem_map.mpr ⟨q, List.mem_of_getElem? hq, rfl⟩⟩
theorem gv_sub {D : va_G} {cl : List vw_C} {ws wc : va_W} {H : Heap} (is : List Nat) (hP : va_P D cl ws H) (his : is.map (fun i => ws[i]?) = wc.map some) : va_P D cl wc H := by
  intro k q hq
  have h1 : (is.map (fun i => ws[i]?))[k]? = some (some q) := by rw [his, List.getElem?_map, hq]; rfl
  rw [List.getElem?_map] at h1
  cases hi : is[k]? with
  | none => rw [hi] at h1; cases h1
  | some i => rw [hi] at h1; exact hP i q (Option.some.inj h1)
theorem gv_inA {A0 : Nat → Prop} {ws wc : va_W} (hD : va_D A0 ws) (is : List Nat) (his : is.map (fun i => ws[i]?) = wc.map some) : ∀ q, gv_in wc q → A0 q := by
  intro q h
  obtain ⟨e, he, hee⟩ := List.mem_map.mp h
  obtain ⟨j, hj⟩ := List.getElem?_of_mem he
  have h3 : (is.map (fun i => ws[i]?))[j]? = some (some e) := by rw [his, List.getElem?_map, hj]; rfl
  rw [List.getElem?_map] at h3
  cases hi : is[j]? with
  | none => rw [hi] at h3; cases h3
  | some i =>
    rw [hi] at h3
    rw [← hee]
    exact hD.2 i e (Option.some.inj h3)
section GVC
variable {p : Program} {l : Launch} {e : Env} {R : Room} {s : State} {m : MethodId} {args : Array Value} {below : List Frame} {meth : Method} {c : Code} {H H0 : Heap} {locs : List Loc} {cells slots : Nat} {Q : State → Prop}
variable {pc : Nat} {ls : Array Slot} {rest st0 : List Value} {a : Array Value} {A0 : Nat → Prop} {D : va_G} {ws wc : va_W}
theorem gv_ki {S : Type} {post : Int32 → S → Prop} {wf : S → va_W} (is : List Nat) (hwf : ∀ u, (wf u).map Prod.fst = wc.map Prod.fst) (hP : va_P D vwCl ws H) (hD : va_D A0 ws) (hS : va_S A0 H0 H locs) (hnd : va_nd is = true) (his : is.map (fun i => ws[i]?) = wc.map some)
    (hr : va_Run p l e R s m args below meth c H locs cells slots 0 0 (F0 m pc ls st0) rest (va_Qi post (fun u t => va_P D vwCl (wf u) t.heap) (gv_in wc) a) (gv_in wc))
    (kk : ∀ (r : Int32) (u : S) (H1 : Heap) (locs1 : List Loc), post r u → va_P D vwCl (gv_put ws is (wf u)) H1 → va_D A0 (gv_put ws is (wf u)) → va_S A0 H0 H1 locs1 → W p l e R s m args below meth c H1 locs1 cells slots Q (F0 m (pc + 3) ls (.int r :: rest))) : W p l e R s m args below meth c H locs cells slots Q (F0 m pc ls st0) := by
  refine va_calli hr hS (fun q _ h => gv_inA hD is his q h) (gv_inA hD is his) (fun r u t H1 locs1 ht hvm hw hB hz hk hS1 => ?_)
  rw [ht] at hB
  obtain ⟨h1, h2⟩ := gv_join is hP hD his (hwf u) hk hB
  exact kk r u H1 locs1 hw h1 h2 hS1
theorem gv_kl {S : Type} {post : Int64 → S → Prop} {wf : S → va_W} (is : List Nat) (hwf : ∀ u, (wf u).map Prod.fst = wc.map Prod.fst) (hP : va_P D vwCl ws H) (hD : va_D A0 ws) (hS : va_S A0 H0 H locs) (hnd : va_nd is = true) (his : is.map (fun i => ws[i]?) = wc.map some)
    (hr : va_Run p l e R s m args below meth c H locs cells slots 0 0 (F0 m pc ls st0) rest (va_Ql post (fun u t => va_P D vwCl (wf u) t.heap) (gv_in wc) a) (gv_in wc))
    (kk : ∀ (r : Int64) (u : S) (H1 : Heap) (locs1 : List Loc), post r u → va_P D vwCl (gv_put ws is (wf u)) H1 → va_D A0 (gv_put ws is (wf u)) → va_S A0 H0 H1 locs1 → W p l e R s m args below meth c H1 locs1 cells slots Q (F0 m (pc + 3) ls (.long r :: rest))) : W p l e R s m args below meth c H locs cells slots Q (F0 m pc ls st0) := by
  refine va_calll hr hS (fun q _ h => gv_inA hD is his q h) (gv_inA hD is his) (fun r u t H1 locs1 ht hvm hw hB hz hk hS1 => ?_)
  rw [ht] at hB
  obtain ⟨h1, h2⟩ := gv_join is hP hD his (hwf u) hk hB
  exact kk r u H1 locs1 hw h1 h2 hS1
theorem gv_kv {S : Type} {post : S → Prop} {wf : S → va_W} (is : List Nat) (hwf : ∀ u, (wf u).map Prod.fst = wc.map Prod.fst) (hP : va_P D vwCl ws H) (hD : va_D A0 ws) (hS : va_S A0 H0 H locs) (hnd : va_nd is = true) (his : is.map (fun i => ws[i]?) = wc.map some)
    (hr : va_Run p l e R s m args below meth c H locs cells slots 0 0 (F0 m pc ls st0) rest (va_Qv post (fun u t => va_P D vwCl (wf u) t.heap) (gv_in wc) a) (gv_in wc))
    (kk : ∀ (u : S) (H1 : Heap) (locs1 : List Loc), post u → va_P D vwCl (gv_put ws is (wf u)) H1 → va_D A0 (gv_put ws is (wf u)) → va_S A0 H0 H1 locs1 → W p l e R s m args below meth c H1 locs1 cells slots Q (F0 m (pc + 3) ls rest)) : W p l e R s m args below meth c H locs cells slots Q (F0 m pc ls st0) := by
  refine va_callv hr hS (fun q _ h => gv_inA hD is his q h) (gv_inA hD is his) (fun u t H1 locs1 ht hvm hw hB hz hk hS1 => ?_)
  rw [ht] at hB
  obtain ⟨h1, h2⟩ := gv_join is hP hD his (hwf u) hk hB
  exact kk u H1 locs1 hw h1 h2 hS1
end GVC
-- worlds: a wall; the class; the reference
abbrev gv_W (cI : ClassId) (h0 h1 h2 : Nat) (f h : Nat → Int32) : va_W := [(h0, .inr (0, [.ref h1, .ref h2])), (h1, .inl (cI, 8, .inl f)), (h2, .inl (cI, 8, .inl h))]
abbrev gv_WW (cI : ClassId) (h0 h1 h2 k0 k1 k2 : Nat) (f h f1 g1 : Nat → Int32) : va_W := [(h0, .inr (0, [.ref h1, .ref h2])), (h1, .inl (cI, 8, .inl f)), (h2, .inl (cI, 8, .inl h)), (k0, .inr (0, [.ref k1, .ref k2])), (k1, .inl (cI, 8, .inl f1)), (k2, .inl (cI, 8, .inl g1))]
abbrev gv_WWA (cI : ClassId) (h0 h1 h2 k0 k1 k2 b0 : Nat) (f h f1 g1 be : Nat → Int32) : va_W := [(h0, .inr (0, [.ref h1, .ref h2])), (h1, .inl (cI, 8, .inl f)), (h2, .inl (cI, 8, .inl h)), (k0, .inr (0, [.ref k1, .ref k2])), (k1, .inl (cI, 8, .inl f1)), (k2, .inl (cI, 8, .inl g1)), (b0, .inl (cI, 12, .inl be))]
abbrev gv_V (cI cL : ClassId) (ad : Nat → Nat) (f0 c0 f1 c1 f2 c2 : Nat → Int32) (lo up : Nat → Int64) (be : Nat → Int32) (si pl cu ge fa : Int32) : va_W := [(ad 0, .inr (1, [.ref (ad 1), .ref (ad 4), .ref (ad 7), .ref (ad 10), .ref (ad 11), .ref (ad 12), .int si, .int pl, .int cu, .int ge, .int fa])), (ad 1, .inr (0, [.ref (ad 2), .ref (ad 3)])), (ad 2, .inl (cI, 8, .inl f0)), (ad 3, .inl (cI, 8, .inl c0)), (ad 4, .inr (0, [.ref (ad 5), .ref (ad 6)])), (ad 5, .inl (cI, 8, .inl f1)), (ad 6, .inl (cI, 8, .inl c1)), (ad 7, .inr (0, [.ref (ad 8), .ref (ad 9)])), (ad 8, .inl (cI, 8, .inl f2)), (ad 9, .inl (cI, 8, .inl c2)), (ad 10, .inl (cL, 61, .inr (.inl lo))), (ad 11, .inl (cL, 61, .inr (.inl up))), (ad 12, .inl (cI, 12, .inl be))]
theorem gv_P0 {D : va_G} {cl : List vw_C} {H : Heap} : va_P D cl [] H := fun k q h => by simp at h
theorem gv_D0 {A : Nat → Prop} : va_D A [] := ⟨fun i j p q h => by simp at h, fun k q h => by simp at h⟩
abbrev gv_R (fr lo : Nat) : Room := { frames := fr, cells := 0, slots := 0, locals := lo }
-- natural numbers behind ints
theorem gn_add {x y : Int32} {a b : Nat} (hx : x = nI a) (hy : y = nI b) : x + y = nI (a + b) := by subst hx; subst hy; exact nI_add a b
theorem gn_mul {x y : Int32} {a b : Nat} (hx : x = nI a) (hy : y = nI b) : x * y = nI (a * b) := by subst hx; subst hy; exact pk_mul a b
theorem gn_sub {x y : Int32} {a b : Nat} (hx : x = nI a) (hy : y = nI b) (h : b ≤ a) : x - y = nI (a - b) := by subst hx; subst hy; exact pk_sub h
theorem gn_div {x y : Int32} {a b : Nat} (hx : x = nI a) (hy : y = nI b) (ha : a < 2 ^ 31) (h0 : 0 < b) (hb : b < 2 ^ 31) : x / y = nI (a / b) := by subst hx; subst hy; exact pk_div ha h0 hb
theorem gn_rem {x y : Int32} {a b : Nat} (hx : x = nI a) (hy : y = nI b) (ha : a < 2 ^ 31) (h0 : 0 < b) (hb : b < 2 ^ 31) : x - x / y * y = nI (a % b) := by subst hx; subst hy; exact pk_rem ha h0 hb
theorem gv_dec (x : Int32) : x + Int32.ofInt (-1) = x - 1 := by rw [Int32.sub_eq_add_neg]; rfl
section GVA
variable {p : Program} {l : Launch} {e : Env} {R : Room} {s : State} {m : MethodId} {args : Array Value} {below : List Frame} {meth : Method} {c : Code} {H H0 : Heap} {locs : List Loc} {cells slots : Nat} {Q : State → Prop}
variable {cc : ByteArray} {pc : Nat} {ls : Array Slot} {rest : List Value} {D : va_G} {cl : List vw_C} {A : Nat → Prop} {a : Nat} {tys : List (ClassId × FieldType)} {ws : va_W}
theorem gv_iald (hexec : p.tables.exec = Jvm.exec) (hb : c.code = cc) (hK : va_K D cl tys s) (hP : va_P D cl ws H) (q0 t0 : Nat) {cA : ClassId} {n k : Nat} {f : Nat → Int32} (ha : ws[q0]? = some (a, .inl (cA, n, .inl f))) (ht : tys[t0]? = some (cA, .int)) {i : Int32} (hi : i = nI k) (hk : k < n) (hn : n < 2 ^ 31) (hdg : decode cc pc = .ok (.iaload, 1))
    (kk : W p l e R s m args below meth c H locs cells slots Q (F0 m (pc + 1) ls (.int (f k) :: rest))) : W p l e R s m args below meth c H locs cells slots Q (F0 m pc ls (.int i :: .ref a :: rest)) := by
  refine va_iald hexec hb hK hP q0 t0 ha ht (gv_inN hi hk hn) hdg ?_
  rw [hi, nI_clamp (Nat.lt_trans hk hn)]
  exact kk
theorem gv_lald (hexec : p.tables.exec = Jvm.exec) (hb : c.code = cc) (hK : va_K D cl tys s) (hP : va_P D cl ws H) (q0 t0 : Nat) {cA : ClassId} {n k : Nat} {f : Nat → Int64} (ha : ws[q0]? = some (a, .inl (cA, n, .inr (.inl f)))) (ht : tys[t0]? = some (cA, .long)) {i : Int32} (hi : i = nI k) (hk : k < n) (hn : n < 2 ^ 31) (hdg : decode cc pc = .ok (.laload, 1))
    (kk : W p l e R s m args below meth c H locs cells slots Q (F0 m (pc + 1) ls (.long (f k) :: rest))) : W p l e R s m args below meth c H locs cells slots Q (F0 m pc ls (.int i :: .ref a :: rest)) := by
  refine va_lald hexec hb hK hP q0 t0 ha ht (gv_inN hi hk hn) hdg ?_
  rw [hi, nI_clamp (Nat.lt_trans hk hn)]
  exact kk
theorem gv_iast (hexec : p.tables.exec = Jvm.exec) (hb : c.code = cc) (hK : va_K D cl tys s) (hP : va_P D cl ws H) (hD : va_D A ws) (hS : va_S A H0 H locs) (q0 t0 : Nat) {cA : ClassId} {n k : Nat} {f : Nat → Int32} (ha : ws[q0]? = some (a, .inl (cA, n, .inl f))) (ht : tys[t0]? = some (cA, .int)) {i : Int32} {x : Int32} (hi : i = nI k) (hk : k < n) (hn : n < 2 ^ 31) (hdg : decode cc pc = .ok (.iastore, 1))
    (kk : ∀ (H1 : Heap) (locs1 : List Loc), va_P D cl (ws.set q0 (a, .inl (cA, n, .inl (upd f k x)))) H1 → va_D A (ws.set q0 (a, .inl (cA, n, .inl (upd f k x)))) → va_S A H0 H1 locs1 → W p l e R s m args below meth c H1 locs1 cells slots Q (F0 m (pc + 1) ls rest)) : W p l e R s m args below meth c H locs cells slots Q (F0 m pc ls (.int x :: .int i :: .ref a :: rest)) := by
  refine va_iast hexec hb hK hP hD hS q0 t0 ha ht (gv_inN hi hk hn) hdg ?_
  rw [hi, nI_clamp (Nat.lt_trans hk hn)]
  exact kk
theorem gv_last (hexec : p.tables.exec = Jvm.exec) (hb : c.code = cc) (hK : va_K D cl tys s) (hP : va_P D cl ws H) (hD : va_D A ws) (hS : va_S A H0 H locs) (q0 t0 : Nat) {cA : ClassId} {n k : Nat} {f : Nat → Int64} (ha : ws[q0]? = some (a, .inl (cA, n, .inr (.inl f)))) (ht : tys[t0]? = some (cA, .long)) {i : Int32} {x : Int64} (hi : i = nI k) (hk : k < n) (hn : n < 2 ^ 31) (hdg : decode cc pc = .ok (.lastore, 1))
    (kk : ∀ (H1 : Heap) (locs1 : List Loc), va_P D cl (ws.set q0 (a, .inl (cA, n, .inr (.inl (vp_updL f k x))))) H1 → va_D A (ws.set q0 (a, .inl (cA, n, .inr (.inl (vp_updL f k x))))) → va_S A H0 H1 locs1 → W p l e R s m args below meth c H1 locs1 cells slots Q (F0 m (pc + 1) ls rest)) : W p l e R s m args below meth c H locs cells slots Q (F0 m pc ls (.long x :: .int i :: .ref a :: rest)) := by
  refine va_last hexec hb hK hP hD hS q0 t0 ha ht (gv_inN hi hk hn) hdg ?_
  rw [hi, nI_clamp (Nat.lt_trans hk hn)]
  exact kk
end GVA
-- a contract out of its walk
theorem gv_ofi {l : Launch} {y : MethodName} {wsy ws' : List Cond} {fr lo : Nat} {D : va_G} {tys : List (ClassId × FieldType)} {av : List Value} {wc : va_W} {S : Type} {post : Int32 → S → Prop} {wf : S → va_W} {cc : ByteArray} {maxL : Nat} {own : String}
    (hy : plainName y.cls = true) (hw : wsy = Cond.code y cc maxL (some .int) :: ws') (hav : (lg_sl av).length ≤ maxL) (ho : y.cls = own)
    (body : ∀ (A : Nat → Prop) p e s m args below meth c Q (ls : Array Slot) (H : Heap) (locs : List Loc), p.tables.exec = Jvm.exec → c.code = cc → c.maxLocals = maxL → (∀ w ∈ wsy, w.before args s = true) → s.vm.findClass own = some m.cls → va_P D vwCl wc H → va_K D vwCl tys s → va_D A wc → gv_N s → va_S A s.heap H locs → lv_has ls maxL (lv_args 0 av) →
      (∀ (v : Int32) (u : S) H locs pc ls, post v u → va_P D vwCl (wf u) H → va_S A s.heap H locs → decode cc pc = .ok (.ireturn, 1) → W p l e (gv_R fr lo) s m args below meth c H locs 0 0 Q (F0 m pc ls [.int v])) →
      W p l e (gv_R fr lo) s m args below meth c H locs 0 0 Q (F0 m 0 ls [])) : gv_Mi l y wsy fr lo D tys av wc post wf := by
  intro A
  refine Met.ofW (cc := cc) (maxL := maxL) (ret := some .int) hy hw ?_
  intro p e s m args below meth c s₁ B hml hv
  obtain ⟨rfl, hP, hK, hD, hN⟩ := hv
  have hlocks := B.notSynchronized
  have hl := lv_entry av (n := maxL) hav
  rw [lg_entry_eq]
  exact body A p e s m _ below meth c _ _ _ _ B.exec B.bytes hml (atoms_spec (ws := wsy) B.pre) (ho ▸ findClass_of_methodNamed B.named) hP hK hD hN va_S.rf hl (fun v u H locs pc ls hq hP hS hdg => W.iret (v := v) B.exec B.bytes B.returns (fun t ht hW => ⟨⟨v, u, rfl, hq, by show va_P D vwCl (wf u) t.heap; rw [ht]; exact hP⟩, hS.F ht⟩) hS.2.2 hdg)
theorem gv_ofz {l : Launch} {y : MethodName} {wsy ws' : List Cond} {fr lo : Nat} {D : va_G} {tys : List (ClassId × FieldType)} {av : List Value} {wc : va_W} {S : Type} {post : Int32 → S → Prop} {wf : S → va_W} {cc : ByteArray} {maxL : Nat} {own : String} {ty : FieldType}
    (hy : plainName y.cls = true) (hw : wsy = Cond.code y cc maxL (some ty) :: ws') (hav : (lg_sl av).length ≤ maxL) (ho : y.cls = own)
    (body : ∀ (A : Nat → Prop) p e s m args below meth c Q (ls : Array Slot) (H : Heap) (locs : List Loc), p.tables.exec = Jvm.exec → c.code = cc → c.maxLocals = maxL → (∀ w ∈ wsy, w.before args s = true) → s.vm.findClass own = some m.cls → va_P D vwCl wc H → va_K D vwCl tys s → va_D A wc → gv_N s → va_S A s.heap H locs → lv_has ls maxL (lv_args 0 av) →
      (∀ (v : Int32) (u : S) H locs pc ls, narrow ty (.int v) = .int v → post v u → va_P D vwCl (wf u) H → va_S A s.heap H locs → decode cc pc = .ok (.ireturn, 1) → W p l e (gv_R fr lo) s m args below meth c H locs 0 0 Q (F0 m pc ls [.int v])) →
      W p l e (gv_R fr lo) s m args below meth c H locs 0 0 Q (F0 m 0 ls [])) : gv_Mi l y wsy fr lo D tys av wc post wf := by
  intro A
  refine Met.ofW (cc := cc) (maxL := maxL) (ret := some ty) hy hw ?_
  intro p e s m args below meth c s₁ B hml hv
  obtain ⟨rfl, hP, hK, hD, hN⟩ := hv
  have hlocks := B.notSynchronized
  have hl := lv_entry av (n := maxL) hav
  rw [lg_entry_eq]
  exact body A p e s m _ below meth c _ _ _ _ B.exec B.bytes hml (atoms_spec (ws := wsy) B.pre) (ho ▸ findClass_of_methodNamed B.named) hP hK hD hN va_S.rf hl (fun v u H locs pc ls hn hq hP hS hdg => W.zret (v := v) B.exec B.bytes B.returns hn (fun t ht hW => ⟨⟨v, u, rfl, hq, by show va_P D vwCl (wf u) t.heap; rw [ht]; exact hP⟩, hS.F ht⟩) hS.2.2 hdg)
theorem gv_ofl {l : Launch} {y : MethodName} {wsy ws' : List Cond} {fr lo : Nat} {D : va_G} {tys : List (ClassId × FieldType)} {av : List Value} {wc : va_W} {S : Type} {post : Int64 → S → Prop} {wf : S → va_W} {cc : ByteArray} {maxL : Nat} {own : String}
    (hy : plainName y.cls = true) (hw : wsy = Cond.code y cc maxL (some .long) :: ws') (hav : (lg_sl av).length ≤ maxL) (ho : y.cls = own)
    (body : ∀ (A : Nat → Prop) p e s m args below meth c Q (ls : Array Slot) (H : Heap) (locs : List Loc), p.tables.exec = Jvm.exec → c.code = cc → c.maxLocals = maxL → (∀ w ∈ wsy, w.before args s = true) → s.vm.findClass own = some m.cls → va_P D vwCl wc H → va_K D vwCl tys s → va_D A wc → gv_N s → va_S A s.heap H locs → lv_has ls maxL (lv_args 0 av) →
      (∀ (v : Int64) (u : S) H locs pc ls, post v u → va_P D vwCl (wf u) H → va_S A s.heap H locs → decode cc pc = .ok (.lreturn, 1) → W p l e (gv_R fr lo) s m args below meth c H locs 0 0 Q (F0 m pc ls [.long v])) →
      W p l e (gv_R fr lo) s m args below meth c H locs 0 0 Q (F0 m 0 ls [])) : gv_Ml l y wsy fr lo D tys av wc post wf := by
  intro A
  refine Met.ofW (cc := cc) (maxL := maxL) (ret := some .long) hy hw ?_
  intro p e s m args below meth c s₁ B hml hv
  obtain ⟨rfl, hP, hK, hD, hN⟩ := hv
  have hlocks := B.notSynchronized
  have hl := lv_entry av (n := maxL) hav
  rw [lg_entry_eq]
  exact body A p e s m _ below meth c _ _ _ _ B.exec B.bytes hml (atoms_spec (ws := wsy) B.pre) (ho ▸ findClass_of_methodNamed B.named) hP hK hD hN va_S.rf hl (fun v u H locs pc ls hq hP hS hdg => W.lret (v := v) B.exec B.bytes B.returns (fun t ht hW => ⟨⟨v, u, rfl, hq, by show va_P D vwCl (wf u) t.heap; rw [ht]; exact hP⟩, hS.F ht⟩) hS.2.2 hdg)
theorem gv_ofv {l : Launch} {y : MethodName} {wsy ws' : List Cond} {fr lo : Nat} {D : va_G} {tys : List (ClassId × FieldType)} {av : List Value} {wc : va_W} {S : Type} {post : S → Prop} {wf : S → va_W} {cc : ByteArray} {maxL : Nat} {own : String}
    (hy : plainName y.cls = true) (hw : wsy = Cond.code y cc maxL none :: ws') (hav : (lg_sl av).length ≤ maxL) (ho : y.cls = own)
    (body : ∀ (A : Nat → Prop) p e s m args below meth c Q (ls : Array Slot) (H : Heap) (locs : List Loc), p.tables.exec = Jvm.exec → c.code = cc → c.maxLocals = maxL → (∀ w ∈ wsy, w.before args s = true) → s.vm.findClass own = some m.cls → va_P D vwCl wc H → va_K D vwCl tys s → va_D A wc → gv_N s → va_S A s.heap H locs → lv_has ls maxL (lv_args 0 av) →
      (∀ (u : S) H locs pc ls, post u → va_P D vwCl (wf u) H → va_S A s.heap H locs → decode cc pc = .ok (.return_, 1) → W p l e (gv_R fr lo) s m args below meth c H locs 0 0 Q (F0 m pc ls [])) →
      W p l e (gv_R fr lo) s m args below meth c H locs 0 0 Q (F0 m 0 ls [])) : gv_Mv l y wsy fr lo D tys av wc post wf := by
  intro A
  refine Met.ofW (cc := cc) (maxL := maxL) (ret := none) hy hw ?_
  intro p e s m args below meth c s₁ B hml hv
  obtain ⟨rfl, hP, hK, hD, hN⟩ := hv
  have hlocks := B.notSynchronized
  have hl := lv_entry av (n := maxL) hav
  rw [lg_entry_eq]
  exact body A p e s m _ below meth c _ _ _ _ B.exec B.bytes hml (atoms_spec (ws := wsy) B.pre) (ho ▸ findClass_of_methodNamed B.named) hP hK hD hN va_S.rf hl (fun u H locs pc ls hq hP hS hdg => W.vret B.exec B.bytes B.returns (fun t ht hW => ⟨⟨u, rfl, hq, by show va_P D vwCl (wf u) t.heap; rw [ht]; exact hP⟩, hS.F ht⟩) hS.2.2 hdg)
