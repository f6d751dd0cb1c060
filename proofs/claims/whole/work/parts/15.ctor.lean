/-! Constructors. -/
def gz_Pc (D : va_G) (tys : List (ClassId × FieldType)) (av : List Value) (ws : va_W) (sz : Nat) : Array Value → State → Prop := va_Pc av (fun U => U.heap.size = sz ∧ va_P D vwCl ws U.heap ∧ va_K D vwCl tys U ∧ va_D (fun _ => True) ws ∧ gv_N U)
theorem gz_pre {s : State} {H : Heap} {D : va_G} {tys : List (ClassId × FieldType)} {A : Nat → Prop} {As : List Value} {ws : va_W} (hK : va_K D vwCl tys s) (hP : va_P D vwCl ws H) (hD : va_D A ws) (hN : gv_N s) : PreS s H (gz_Pc D tys As ws H.size) As :=
  ⟨fun a U g mk q => by
    obtain ⟨q0, q1, q2, q3, q4, q5⟩ := q
    exact ⟨q0, q1, q2, va_K.moved (u := U) (U := U.calling g mk a) (Vm.Alike.refl U.vm) q3, q4, gv_N.same (u := U) (U := U.calling g mk a) rfl q5⟩,
  fun U hU hW => ⟨rfl, by rw [hU], by rw [hU]; exact hP, va_K.moved hW.alike hK, hD.weaken (fun _ _ _ _ => trivial), gv_N.warm hW hN⟩⟩
section GZN
variable {p : Program} {l : Launch} {e : Env} {R : Room} {s : State} {m : MethodId} {args : Array Value} {below : List Frame} {meth : Method} {c : Code} {H H0 : Heap} {locs : List Loc} {cells slots : Nat} {Q : State → Prop}
variable {cc : ByteArray} {pc : Nat} {ls : Array Slot} {rest : List Value} {D : va_G} {cl : List vw_C} {A : Nat → Prop} {tys : List (ClassId × FieldType)} {ws : va_W}
theorem gz_newi (hexec : p.tables.exec = Jvm.exec) (hb : c.code = cc) (harr : (Cond.arrayClass .int).before args s = true) (t0 : Nat) {cI : ClassId} (ht : tys[t0]? = some (cI, .int)) (hK : va_K D cl tys s) (hP : va_P D cl ws H) (hD : va_D A ws) (hS : va_S A H0 H locs) (hA : ∀ q, H0.size ≤ q → A q)
    {n : Int32} (N : Nat) (hn : n = nI N) (hN : N ≤ 100000) (hcells : cells + 1 ≤ R.cells) (hslots : slots + N ≤ R.slots) (hdg : decode cc pc = .ok (.newarray .int, 2))
    (kk : ∀ (q : Nat) (H1 : Heap), va_P D cl (ws ++ [(q, .inl (cI, N, .inl (fun _ => 0)))]) H1 → va_D A (ws ++ [(q, .inl (cI, N, .inl (fun _ => 0)))]) → va_S A H0 H1 locs →
      W p l e R s m args below meth c H1 locs (cells + 1) (slots + N) Q (F0 m (pc + 2) ls (.ref q :: rest))) : W p l e R s m args below meth c H locs cells slots Q (F0 m pc ls (.int n :: rest)) := by
  subst hn
  refine va_newa (atype := .int) (ty := .int) (a0 := (N, .inl (fun _ => 0))) (N' := N) hexec hb harr rfl hK hP hD hS hA (fun cA => rfl) (nI_pos (by omega)) (nI_clamp (by omega)) (show N * 4 ≤ 536870912 by omega) hcells hslots hdg (fun q cA H1 hK1 hP1 hD1 hS1 => ?_)
  have h1 : s.vm.findClass ("[" ++ FieldType.int.toString) = some cA := (hK1.2 tys.length (cA, .int) (by rw [List.getElem?_append_right (Nat.le_refl _), Nat.sub_self]; rfl)).2
  have h2 : s.vm.findClass ("[" ++ FieldType.int.toString) = some cI := (hK.2 t0 _ ht).2
  rw [h1] at h2
  cases h2
  exact kk q H1 hP1 hD1 hS1
theorem gz_newl (hexec : p.tables.exec = Jvm.exec) (hb : c.code = cc) (harr : (Cond.arrayClass .long).before args s = true) (t0 : Nat) {cL : ClassId} (ht : tys[t0]? = some (cL, .long)) (hK : va_K D cl tys s) (hP : va_P D cl ws H) (hD : va_D A ws) (hS : va_S A H0 H locs) (hA : ∀ q, H0.size ≤ q → A q)
    {n : Int32} (N : Nat) (hn : n = nI N) (hN : N ≤ 100000) (hcells : cells + 1 ≤ R.cells) (hslots : slots + N ≤ R.slots) (hdg : decode cc pc = .ok (.newarray .long, 2))
    (kk : ∀ (q : Nat) (H1 : Heap), va_P D cl (ws ++ [(q, .inl (cL, N, .inr (.inl (fun _ => 0))))]) H1 → va_D A (ws ++ [(q, .inl (cL, N, .inr (.inl (fun _ => 0))))]) → va_S A H0 H1 locs →
      W p l e R s m args below meth c H1 locs (cells + 1) (slots + N) Q (F0 m (pc + 2) ls (.ref q :: rest))) : W p l e R s m args below meth c H locs cells slots Q (F0 m pc ls (.int n :: rest)) := by
  subst hn
  refine va_newa (atype := .long) (ty := .long) (a0 := (N, .inr (.inl (fun _ => 0)))) (N' := N) hexec hb harr rfl hK hP hD hS hA (fun cA => rfl) (nI_pos (by omega)) (nI_clamp (by omega)) (show N * 8 ≤ 536870912 by omega) hcells hslots hdg (fun q cA H1 hK1 hP1 hD1 hS1 => ?_)
  have h1 : s.vm.findClass ("[" ++ FieldType.long.toString) = some cA := (hK1.2 tys.length (cA, .long) (by rw [List.getElem?_append_right (Nat.le_refl _), Nat.sub_self]; rfl)).2
  have h2 : s.vm.findClass ("[" ++ FieldType.long.toString) = some cL := (hK.2 t0 _ ht).2
  rw [h1] at h2
  cases h2
  exact kk q H1 hP1 hD1 hS1
end GZN

theorem gz_fill {be : Nat → Int32} {i : Nat} (h : ∀ k, k < i → be k = 5) {k : Nat} (hk : k < i + 1) : upd be i 5 k = 5 := by
  unfold upd
  by_cases e : k = i
  · rw [if_pos e]
  · rw [if_neg e]; exact h k (by omega)

set_option maxHeartbeats 4000000 in
set_option maxRecDepth 100000 in
theorem kX0_init (l : Launch) (dC : Nat → ClassId) (dI : Nat → Nat → Nat) (cI cL : ClassId) (h0 sz : Nat) : Met l yX0_init wsX0_init { frames := 1, cells := 2, slots := 16, locals := 12 } (gz_Pc (dC, dI) [(cI, .int), (cL, .long)] [.ref h0] [(h0, .inr (0, [.null, .null]))] sz) (va_Qv (fun (u : Nat × Nat) => True) (fun u t => va_P (dC, dI) vwCl (gv_W cI h0 u.1 u.2 (fun _ => 0) (fun _ => 0)) t.heap ∧ va_D (va_A [(h0, .inr (0, [.null, .null]))] sz) (gv_W cI h0 u.1 u.2 (fun _ => 0) (fun _ => 0))) (va_A [(h0, .inr (0, [.null, .null]))] sz)) 2 16 (va_A [(h0, .inr (0, [.null, .null]))] sz) := by
  refine Met.ofW (cc := cX0_init) (maxL := 1) (ret := none) (by decide) rfl ?_
  intro p e s m args below meth c s₁ B hml hv
  obtain ⟨rfl, hsz, hP, hK, hD0, hN⟩ := hv
  have hx := B.exec
  have hb := B.bytes
  have hr := B.returns
  have hts := atoms_spec (ws := wsX0_init) B.pre
  have hown : s.vm.findClass RX0 = some m.cls := findClass_of_methodNamed B.named
  have hlocks := B.notSynchronized
  have hin : meth.name = "<init>" := (name_of_methodNamed B.named B.method).1
  subst hsz
  have hD := hD0.self (sz := s.heap.size)
  generalize hAe : va_A [(h0, .inr (0, [.null, .null]))] s.heap.size = A at hD ⊢
  have hA : ∀ q : Nat, s.heap.size ≤ q → A q := fun q h => by rw [← hAe]; exact Or.inr h
  have hS : va_S A s.heap s.heap [] := va_S.rf
  have hl := lv_entry ([.ref h0]) (n := 1) (Nat.le_of_ble_eq_true rfl)
  rw [lg_entry_eq]
  generalize (lg_sl ([.ref h0]) ++ List.replicate (1 - (lg_sl ([.ref h0])).length) Slot.unset).toArray = ls at hl ⊢
  have hl : lv_has ls 1 [(0, .ref h0)] := hl
  have inX0 : ∀ w ∈ wsX00, w ∈ wsX0_init := (fun _ h => List.mem_cons_of_mem _ (List.mem_append_right _ h))
  have hP : va_P (dC, dI) vwCl ([(h0, .inr (0, [.null, .null]))]) s.heap := hP
  refine lv_aload_n hx hb dX0_init_0 rfl (lv_at hl 0 rfl) ?_
  refine W.objInit hx hb hown (hts (.methodLink RX0 3 objectInit) (List.mem_of_getElem? (i := 1) rfl)) (hts (.instanceMethod objectInit) (List.mem_of_getElem? (i := 2) rfl)) (hts _ (List.mem_of_getElem? (i := 3) rfl)) rfl (by rw [hml]; exact hl.1) rfl dX0_init_1 (Nat.le_of_ble_eq_true rfl) (Nat.le_of_ble_eq_true rfl) ?_
  refine W.eq (g2 := F0 m 4 ls []) rfl ?_
  refine lv_aload_n hx hb dX0_init_4 rfl (lv_at hl 0 rfl) ?_
  refine lv_bipush (v := 8) hx hb dX0_init_5 (by decide) ?_
  refine gz_newi hx hb (hts (.arrayClass .int) (List.mem_of_getElem? (i := 4) rfl)) 0 rfl hK hP hD hS hA 8 rfl (by decide) (Nat.le_of_ble_eq_true rfl) (Nat.le_of_ble_eq_true rfl) dX0_init_7 (fun q1 H hP hD hS => ?_)
  have hP : va_P (dC, dI) vwCl ([(h0, .inr (0, [.null, .null])), (q1, (.inl (cI, 8, .inl (fun _ => 0))))]) H := hP
  have hD : va_D A ([(h0, .inr (0, [.null, .null])), (q1, (.inl (cI, 8, .inl (fun _ => 0))))]) := hD
  refine va_putF (D := (dC, dI)) (ci := 0) (v := .ref q1) (ty := .array .int) (C := RX0) (T := TX0) (N := 2) hx hb hts inX0 tyX0 tyX0_ok nmX0 hown hK hP hD hS 0 rfl rfl 0 (by decide) (hts (.fieldLink RX0 9 "VineWall$Wall" "leafRows" "[I") (List.mem_of_getElem? (i := 5) rfl)) (fun _ h9 => h9) rfl hin rfl (by decide +kernel) rfl rfl (Nat.le_of_ble_eq_true rfl) dX0_init_9 (fun H locs hP hD hS => ?_)
  have hP : va_P (dC, dI) vwCl ([(h0, .inr (0, [.ref q1, .null])), (q1, (.inl (cI, 8, .inl (fun _ => 0))))]) H := hP
  have hD : va_D A ([(h0, .inr (0, [.ref q1, .null])), (q1, (.inl (cI, 8, .inl (fun _ => 0))))]) := hD
  refine lv_aload_n hx hb dX0_init_12 rfl (lv_at hl 0 rfl) ?_
  refine lv_bipush (v := 8) hx hb dX0_init_13 (by decide) ?_
  refine gz_newi hx hb (hts (.arrayClass .int) (List.mem_of_getElem? (i := 4) rfl)) 0 rfl hK hP hD hS hA 8 rfl (by decide) (Nat.le_of_ble_eq_true rfl) (Nat.le_of_ble_eq_true rfl) dX0_init_15 (fun q2 H hP hD hS => ?_)
  have hP : va_P (dC, dI) vwCl ([(h0, .inr (0, [.ref q1, .null])), (q1, (.inl (cI, 8, .inl (fun _ => 0)))), (q2, (.inl (cI, 8, .inl (fun _ => 0))))]) H := hP
  have hD : va_D A ([(h0, .inr (0, [.ref q1, .null])), (q1, (.inl (cI, 8, .inl (fun _ => 0)))), (q2, (.inl (cI, 8, .inl (fun _ => 0))))]) := hD
  refine va_putF (D := (dC, dI)) (ci := 0) (v := .ref q2) (ty := .array .int) (C := RX0) (T := TX0) (N := 2) hx hb hts inX0 tyX0 tyX0_ok nmX0 hown hK hP hD hS 0 rfl rfl 1 (by decide) (hts (.fieldLink RX0 15 "VineWall$Wall" "cutRows" "[I") (List.mem_of_getElem? (i := 6) rfl)) (fun _ h9 => h9) rfl hin rfl (by decide +kernel) rfl rfl (Nat.le_of_ble_eq_true rfl) dX0_init_17 (fun H locs hP hD hS => ?_)
  have hP : va_P (dC, dI) vwCl ([(h0, .inr (0, [.ref q1, .ref q2])), (q1, (.inl (cI, 8, .inl (fun _ => 0)))), (q2, (.inl (cI, 8, .inl (fun _ => 0))))]) H := hP
  have hD : va_D A ([(h0, .inr (0, [.ref q1, .ref q2])), (q1, (.inl (cI, 8, .inl (fun _ => 0)))), (q2, (.inl (cI, 8, .inl (fun _ => 0))))]) := hD
  refine W.widen (k := 2) (n := 16) (Nat.le_of_ble_eq_true rfl) (Nat.le_of_ble_eq_true rfl) ?_
  exact W.vret hx hb hr (fun t ht hW => ⟨⟨(q1, q2), rfl, trivial, ⟨by show va_P (dC, dI) vwCl _ t.heap; rw [ht]; exact hP, hD⟩⟩, hS.F ht⟩) hS.2.2 dX0_init_20
set_option maxHeartbeats 4000000 in
set_option maxRecDepth 100000 in
theorem kX1_init (l : Launch) (dC : Nat → ClassId) (dI : Nat → Nat → Nat) (cI cL : ClassId) (h0 sz : Nat) : Met l yX1_init wsX1_init { frames := 2, cells := 12, slots := 188, locals := 32 } (gz_Pc (dC, dI) [(cI, .int), (cL, .long)] [.ref h0] [(h0, .inr (1, [.null, .null, .null, .null, .null, .null, .int 0, .int 0, .int 0, .int 0, .int 0]))] sz) (va_Qv (fun (u : (Nat → Nat) × (Nat → Int32)) => u.1 0 = h0 ∧ ∀ k, k < 12 → u.2 k = 5) (fun u t => va_P (dC, dI) vwCl (gv_V cI cL u.1 (fun _ => 0) (fun _ => 0) (fun _ => 0) (fun _ => 0) (fun _ => 0) (fun _ => 0) (fun _ => 0) (fun _ => 0) u.2 0 0 0 0 0) t.heap ∧ va_D (va_A [(h0, .inr (1, [.null, .null, .null, .null, .null, .null, .int 0, .int 0, .int 0, .int 0, .int 0]))] sz) (gv_V cI cL u.1 (fun _ => 0) (fun _ => 0) (fun _ => 0) (fun _ => 0) (fun _ => 0) (fun _ => 0) (fun _ => 0) (fun _ => 0) u.2 0 0 0 0 0)) (va_A [(h0, .inr (1, [.null, .null, .null, .null, .null, .null, .int 0, .int 0, .int 0, .int 0, .int 0]))] sz)) 12 188 (va_A [(h0, .inr (1, [.null, .null, .null, .null, .null, .null, .int 0, .int 0, .int 0, .int 0, .int 0]))] sz) := by
  refine Met.ofW (cc := cX1_init) (maxL := 2) (ret := none) (by decide) rfl ?_
  intro p e s m args below meth c s₁ B hml hv
  obtain ⟨rfl, hsz, hP, hK, hD0, hN⟩ := hv
  have hx := B.exec
  have hb := B.bytes
  have hr := B.returns
  have hts := atoms_spec (ws := wsX1_init) B.pre
  have hown : s.vm.findClass RX1 = some m.cls := findClass_of_methodNamed B.named
  have hlocks := B.notSynchronized
  have hin : meth.name = "<init>" := (name_of_methodNamed B.named B.method).1
  subst hsz
  have hD := hD0.self (sz := s.heap.size)
  generalize hAe : va_A [(h0, .inr (1, [.null, .null, .null, .null, .null, .null, .int 0, .int 0, .int 0, .int 0, .int 0]))] s.heap.size = A at hD ⊢
  have hA : ∀ q : Nat, s.heap.size ≤ q → A q := fun q h => by rw [← hAe]; exact Or.inr h
  have hS : va_S A s.heap s.heap [] := va_S.rf
  have hl := lv_entry ([.ref h0]) (n := 2) (Nat.le_of_ble_eq_true rfl)
  rw [lg_entry_eq]
  generalize (lg_sl ([.ref h0]) ++ List.replicate (2 - (lg_sl ([.ref h0])).length) Slot.unset).toArray = ls at hl ⊢
  have hl : lv_has ls 2 [(0, .ref h0)] := hl
  have inX0 : ∀ w ∈ wsX00, w ∈ wsX1_init := (fun _ h => List.mem_cons_of_mem _ (List.mem_append_left _ (List.mem_append_right _ h)))
  have inX1 : ∀ w ∈ wsX10, w ∈ wsX1_init := (fun _ h => List.mem_cons_of_mem _ (List.mem_append_right _ h))
  have hP : va_P (dC, dI) vwCl ([(h0, .inr (1, [.null, .null, .null, .null, .null, .null, .int 0, .int 0, .int 0, .int 0, .int 0]))]) s.heap := hP
  refine lv_aload_n hx hb dX1_init_0 rfl (lv_at hl 0 rfl) ?_
  refine W.objInit hx hb hown (hts (.methodLink RX1 1 objectInit) (List.mem_of_getElem? (i := 1) rfl)) (hts (.instanceMethod objectInit) (List.mem_of_getElem? (i := 2) rfl)) (hts _ (List.mem_of_getElem? (i := 3) rfl)) rfl (by rw [hml]; exact hl.1) rfl dX1_init_1 (Nat.le_of_ble_eq_true rfl) (Nat.le_of_ble_eq_true rfl) ?_
  refine W.eq (g2 := F0 m 4 ls []) rfl ?_
  refine lv_aload_n hx hb dX1_init_4 rfl (lv_at hl 0 rfl) ?_
  refine va_new (ci := 0) (fs := [.null, .null]) (C := RX0) (T := TX0) (N := 2) hx hb hts inX0 tyX0 tyX0_ok hown (hts (.classLink RX1 7 RX0) (List.mem_of_getElem? (i := 4) rfl)) (hts (.instantiable RX0 2) (List.mem_of_getElem? (i := 5) rfl)) (hts (.initialized RX0) (List.mem_of_getElem? (i := 6) rfl)) hK hP hD hS hA rfl (fun j hj => by rcases (show j = 0 ∨ j = 1 by omega) with rfl | rfl <;> rfl) (Nat.le_of_ble_eq_true rfl) (Nat.le_of_ble_eq_true rfl) dX1_init_5 (fun q4 H hP hD hS => ?_)
  have hP : va_P (dC, dI) vwCl ([(h0, .inr (1, [.null, .null, .null, .null, .null, .null, .int 0, .int 0, .int 0, .int 0, .int 0])), (q4, .inr (0, [.null, .null]))]) H := hP
  have hD : va_D A ([(h0, .inr (1, [.null, .null, .null, .null, .null, .null, .int 0, .int 0, .int 0, .int 0, .int 0])), (q4, .inr (0, [.null, .null]))]) := hD
  refine lv_dup hx hb dX1_init_8 rfl ?_
  have hPc := hP.sub (ws' := [(q4, .inr (0, [.null, .null]))]) [1] rfl
  have hDc := hD.sub (ws' := [(q4, .inr (0, [.null, .null]))]) [1] (by decide) rfl
  have hFc := va_free (wc := [(q4, .inr (0, [.null, .null]))]) hD hS hA [1] rfl
  refine va_callv (va_runIN (As := []) (rest := [.ref q4, .ref h0]) ⟨hx, hb, hml, hown, hts⟩ (kX0_init l dC dI cI cL q4 H.size) ⟨va_cnB (rm := { frames := 1, cells := 2, slots := 16, locals := 12 }) 0 hts gX1_init_X0_init_n9 rfl rfl rfl hN.2 (hts (.initialized RX0) (List.mem_of_getElem? (i := 6) rfl)) (by decide +kernel) ⟨(Nat.le_of_ble_eq_true rfl), (Nat.le_of_ble_eq_true rfl)⟩, rfl, hts (.instanceMethod yX0_init) (List.mem_of_getElem? (i := 20) rfl)⟩ (gz_pre hK hPc hDc hN) rfl rfl hl.1 rfl (lv_room (Nat.le_of_ble_eq_true rfl)) dX1_init_9 ⟨(Nat.le_of_ble_eq_true rfl), (Nat.le_of_ble_eq_true rfl)⟩) hS (fun q _ h => hFc q h) hFc (fun u t H1 locs ht hvm hw hB hz1 hk1 hS => ?_)
  obtain ⟨a4, b4⟩ := u
  obtain ⟨hP1, hD1⟩ := hB
  rw [ht] at hP1
  obtain ⟨hP, hD⟩ := va_join (wr := [(h0, .inr (1, [.null, .null, .null, .null, .null, .null, .int 0, .int 0, .int 0, .int 0, .int 0]))]) (w1 := (gv_W cI q4 a4 b4 (fun _ => 0) (fun _ => 0))) hP hD [1] [0] rfl rfl (by decide) (by decide) hk1 hFc hP1 hD1
  generalize H1 = H at hP hS ⊢
  have hP : va_P (dC, dI) vwCl ([(h0, .inr (1, [.null, .null, .null, .null, .null, .null, .int 0, .int 0, .int 0, .int 0, .int 0])), (q4, .inr (0, [.ref a4, .ref b4])), (a4, (.inl (cI, 8, .inl (fun _ => 0)))), (b4, (.inl (cI, 8, .inl (fun _ => 0))))]) H := hP
  have hD : va_D A ([(h0, .inr (1, [.null, .null, .null, .null, .null, .null, .int 0, .int 0, .int 0, .int 0, .int 0])), (q4, .inr (0, [.ref a4, .ref b4])), (a4, (.inl (cI, 8, .inl (fun _ => 0)))), (b4, (.inl (cI, 8, .inl (fun _ => 0))))]) := hD
  refine va_putF (D := (dC, dI)) (ci := 1) (v := .ref q4) (ty := .object "VineWall$Wall") (C := RX1) (T := TX1) (N := 11) hx hb hts inX1 tyX1 tyX1_ok nmX1 hown hK hP hD hS 0 rfl rfl 0 (by decide) (hts (.fieldLink RX1 10 "VineWall" "wall" "LVineWall$Wall;") (List.mem_of_getElem? (i := 7) rfl)) (fun _ h9 => h9) rfl hin rfl (by decide +kernel) rfl rfl (Nat.le_of_ble_eq_true rfl) dX1_init_12 (fun H locs hP hD hS => ?_)
  have hP : va_P (dC, dI) vwCl ([(h0, .inr (1, [.ref q4, .null, .null, .null, .null, .null, .int 0, .int 0, .int 0, .int 0, .int 0])), (q4, .inr (0, [.ref a4, .ref b4])), (a4, (.inl (cI, 8, .inl (fun _ => 0)))), (b4, (.inl (cI, 8, .inl (fun _ => 0))))]) H := hP
  have hD : va_D A ([(h0, .inr (1, [.ref q4, .null, .null, .null, .null, .null, .int 0, .int 0, .int 0, .int 0, .int 0])), (q4, .inr (0, [.ref a4, .ref b4])), (a4, (.inl (cI, 8, .inl (fun _ => 0)))), (b4, (.inl (cI, 8, .inl (fun _ => 0))))]) := hD
  refine lv_aload_n hx hb dX1_init_15 rfl (lv_at hl 0 rfl) ?_
  refine va_new (ci := 0) (fs := [.null, .null]) (C := RX0) (T := TX0) (N := 2) hx hb hts inX0 tyX0 tyX0_ok hown (hts (.classLink RX1 7 RX0) (List.mem_of_getElem? (i := 4) rfl)) (hts (.instantiable RX0 2) (List.mem_of_getElem? (i := 5) rfl)) (hts (.initialized RX0) (List.mem_of_getElem? (i := 6) rfl)) hK hP hD hS hA rfl (fun j hj => by rcases (show j = 0 ∨ j = 1 by omega) with rfl | rfl <;> rfl) (Nat.le_of_ble_eq_true rfl) (Nat.le_of_ble_eq_true rfl) dX1_init_16 (fun q15 H hP hD hS => ?_)
  have hP : va_P (dC, dI) vwCl ([(h0, .inr (1, [.ref q4, .null, .null, .null, .null, .null, .int 0, .int 0, .int 0, .int 0, .int 0])), (q4, .inr (0, [.ref a4, .ref b4])), (a4, (.inl (cI, 8, .inl (fun _ => 0)))), (b4, (.inl (cI, 8, .inl (fun _ => 0)))), (q15, .inr (0, [.null, .null]))]) H := hP
  have hD : va_D A ([(h0, .inr (1, [.ref q4, .null, .null, .null, .null, .null, .int 0, .int 0, .int 0, .int 0, .int 0])), (q4, .inr (0, [.ref a4, .ref b4])), (a4, (.inl (cI, 8, .inl (fun _ => 0)))), (b4, (.inl (cI, 8, .inl (fun _ => 0)))), (q15, .inr (0, [.null, .null]))]) := hD
  refine lv_dup hx hb dX1_init_19 rfl ?_
  have hPc := hP.sub (ws' := [(q15, .inr (0, [.null, .null]))]) [4] rfl
  have hDc := hD.sub (ws' := [(q15, .inr (0, [.null, .null]))]) [4] (by decide) rfl
  have hFc := va_free (wc := [(q15, .inr (0, [.null, .null]))]) hD hS hA [4] rfl
  refine va_callv (va_runIN (As := []) (rest := [.ref q15, .ref h0]) ⟨hx, hb, hml, hown, hts⟩ (kX0_init l dC dI cI cL q15 H.size) ⟨va_cnB (rm := { frames := 1, cells := 2, slots := 16, locals := 12 }) 0 hts gX1_init_X0_init_n9 rfl rfl rfl hN.2 (hts (.initialized RX0) (List.mem_of_getElem? (i := 6) rfl)) (by decide +kernel) ⟨(Nat.le_of_ble_eq_true rfl), (Nat.le_of_ble_eq_true rfl)⟩, rfl, hts (.instanceMethod yX0_init) (List.mem_of_getElem? (i := 20) rfl)⟩ (gz_pre hK hPc hDc hN) rfl rfl hl.1 rfl (lv_room (Nat.le_of_ble_eq_true rfl)) dX1_init_20 ⟨(Nat.le_of_ble_eq_true rfl), (Nat.le_of_ble_eq_true rfl)⟩) hS (fun q _ h => hFc q h) hFc (fun u t H1 locs ht hvm hw hB hz1 hk1 hS => ?_)
  obtain ⟨a15, b15⟩ := u
  obtain ⟨hP1, hD1⟩ := hB
  rw [ht] at hP1
  obtain ⟨hP, hD⟩ := va_join (wr := [(h0, .inr (1, [.ref q4, .null, .null, .null, .null, .null, .int 0, .int 0, .int 0, .int 0, .int 0])), (q4, .inr (0, [.ref a4, .ref b4])), (a4, (.inl (cI, 8, .inl (fun _ => 0)))), (b4, (.inl (cI, 8, .inl (fun _ => 0))))]) (w1 := (gv_W cI q15 a15 b15 (fun _ => 0) (fun _ => 0))) hP hD [4] [0, 1, 2, 3] rfl rfl (by decide) (by decide) hk1 hFc hP1 hD1
  generalize H1 = H at hP hS ⊢
  have hP : va_P (dC, dI) vwCl ([(h0, .inr (1, [.ref q4, .null, .null, .null, .null, .null, .int 0, .int 0, .int 0, .int 0, .int 0])), (q4, .inr (0, [.ref a4, .ref b4])), (a4, (.inl (cI, 8, .inl (fun _ => 0)))), (b4, (.inl (cI, 8, .inl (fun _ => 0)))), (q15, .inr (0, [.ref a15, .ref b15])), (a15, (.inl (cI, 8, .inl (fun _ => 0)))), (b15, (.inl (cI, 8, .inl (fun _ => 0))))]) H := hP
  have hD : va_D A ([(h0, .inr (1, [.ref q4, .null, .null, .null, .null, .null, .int 0, .int 0, .int 0, .int 0, .int 0])), (q4, .inr (0, [.ref a4, .ref b4])), (a4, (.inl (cI, 8, .inl (fun _ => 0)))), (b4, (.inl (cI, 8, .inl (fun _ => 0)))), (q15, .inr (0, [.ref a15, .ref b15])), (a15, (.inl (cI, 8, .inl (fun _ => 0)))), (b15, (.inl (cI, 8, .inl (fun _ => 0))))]) := hD
  refine va_putF (D := (dC, dI)) (ci := 1) (v := .ref q15) (ty := .object "VineWall$Wall") (C := RX1) (T := TX1) (N := 11) hx hb hts inX1 tyX1 tyX1_ok nmX1 hown hK hP hD hS 0 rfl rfl 1 (by decide) (hts (.fieldLink RX1 16 "VineWall" "trial" "LVineWall$Wall;") (List.mem_of_getElem? (i := 8) rfl)) (fun _ h9 => h9) rfl hin rfl (by decide +kernel) rfl rfl (Nat.le_of_ble_eq_true rfl) dX1_init_23 (fun H locs hP hD hS => ?_)
  have hP : va_P (dC, dI) vwCl ([(h0, .inr (1, [.ref q4, .ref q15, .null, .null, .null, .null, .int 0, .int 0, .int 0, .int 0, .int 0])), (q4, .inr (0, [.ref a4, .ref b4])), (a4, (.inl (cI, 8, .inl (fun _ => 0)))), (b4, (.inl (cI, 8, .inl (fun _ => 0)))), (q15, .inr (0, [.ref a15, .ref b15])), (a15, (.inl (cI, 8, .inl (fun _ => 0)))), (b15, (.inl (cI, 8, .inl (fun _ => 0))))]) H := hP
  have hD : va_D A ([(h0, .inr (1, [.ref q4, .ref q15, .null, .null, .null, .null, .int 0, .int 0, .int 0, .int 0, .int 0])), (q4, .inr (0, [.ref a4, .ref b4])), (a4, (.inl (cI, 8, .inl (fun _ => 0)))), (b4, (.inl (cI, 8, .inl (fun _ => 0)))), (q15, .inr (0, [.ref a15, .ref b15])), (a15, (.inl (cI, 8, .inl (fun _ => 0)))), (b15, (.inl (cI, 8, .inl (fun _ => 0))))]) := hD
  refine lv_aload_n hx hb dX1_init_26 rfl (lv_at hl 0 rfl) ?_
  refine va_new (ci := 0) (fs := [.null, .null]) (C := RX0) (T := TX0) (N := 2) hx hb hts inX0 tyX0 tyX0_ok hown (hts (.classLink RX1 7 RX0) (List.mem_of_getElem? (i := 4) rfl)) (hts (.instantiable RX0 2) (List.mem_of_getElem? (i := 5) rfl)) (hts (.initialized RX0) (List.mem_of_getElem? (i := 6) rfl)) hK hP hD hS hA rfl (fun j hj => by rcases (show j = 0 ∨ j = 1 by omega) with rfl | rfl <;> rfl) (Nat.le_of_ble_eq_true rfl) (Nat.le_of_ble_eq_true rfl) dX1_init_27 (fun q26 H hP hD hS => ?_)
  have hP : va_P (dC, dI) vwCl ([(h0, .inr (1, [.ref q4, .ref q15, .null, .null, .null, .null, .int 0, .int 0, .int 0, .int 0, .int 0])), (q4, .inr (0, [.ref a4, .ref b4])), (a4, (.inl (cI, 8, .inl (fun _ => 0)))), (b4, (.inl (cI, 8, .inl (fun _ => 0)))), (q15, .inr (0, [.ref a15, .ref b15])), (a15, (.inl (cI, 8, .inl (fun _ => 0)))), (b15, (.inl (cI, 8, .inl (fun _ => 0)))), (q26, .inr (0, [.null, .null]))]) H := hP
  have hD : va_D A ([(h0, .inr (1, [.ref q4, .ref q15, .null, .null, .null, .null, .int 0, .int 0, .int 0, .int 0, .int 0])), (q4, .inr (0, [.ref a4, .ref b4])), (a4, (.inl (cI, 8, .inl (fun _ => 0)))), (b4, (.inl (cI, 8, .inl (fun _ => 0)))), (q15, .inr (0, [.ref a15, .ref b15])), (a15, (.inl (cI, 8, .inl (fun _ => 0)))), (b15, (.inl (cI, 8, .inl (fun _ => 0)))), (q26, .inr (0, [.null, .null]))]) := hD
  refine lv_dup hx hb dX1_init_30 rfl ?_
  have hPc := hP.sub (ws' := [(q26, .inr (0, [.null, .null]))]) [7] rfl
  have hDc := hD.sub (ws' := [(q26, .inr (0, [.null, .null]))]) [7] (by decide) rfl
  have hFc := va_free (wc := [(q26, .inr (0, [.null, .null]))]) hD hS hA [7] rfl
  refine va_callv (va_runIN (As := []) (rest := [.ref q26, .ref h0]) ⟨hx, hb, hml, hown, hts⟩ (kX0_init l dC dI cI cL q26 H.size) ⟨va_cnB (rm := { frames := 1, cells := 2, slots := 16, locals := 12 }) 0 hts gX1_init_X0_init_n9 rfl rfl rfl hN.2 (hts (.initialized RX0) (List.mem_of_getElem? (i := 6) rfl)) (by decide +kernel) ⟨(Nat.le_of_ble_eq_true rfl), (Nat.le_of_ble_eq_true rfl)⟩, rfl, hts (.instanceMethod yX0_init) (List.mem_of_getElem? (i := 20) rfl)⟩ (gz_pre hK hPc hDc hN) rfl rfl hl.1 rfl (lv_room (Nat.le_of_ble_eq_true rfl)) dX1_init_31 ⟨(Nat.le_of_ble_eq_true rfl), (Nat.le_of_ble_eq_true rfl)⟩) hS (fun q _ h => hFc q h) hFc (fun u t H1 locs ht hvm hw hB hz1 hk1 hS => ?_)
  obtain ⟨a26, b26⟩ := u
  obtain ⟨hP1, hD1⟩ := hB
  rw [ht] at hP1
  obtain ⟨hP, hD⟩ := va_join (wr := [(h0, .inr (1, [.ref q4, .ref q15, .null, .null, .null, .null, .int 0, .int 0, .int 0, .int 0, .int 0])), (q4, .inr (0, [.ref a4, .ref b4])), (a4, (.inl (cI, 8, .inl (fun _ => 0)))), (b4, (.inl (cI, 8, .inl (fun _ => 0)))), (q15, .inr (0, [.ref a15, .ref b15])), (a15, (.inl (cI, 8, .inl (fun _ => 0)))), (b15, (.inl (cI, 8, .inl (fun _ => 0))))]) (w1 := (gv_W cI q26 a26 b26 (fun _ => 0) (fun _ => 0))) hP hD [7] [0, 1, 2, 3, 4, 5, 6] rfl rfl (by decide) (by decide) hk1 hFc hP1 hD1
  generalize H1 = H at hP hS ⊢
  have hP : va_P (dC, dI) vwCl ([(h0, .inr (1, [.ref q4, .ref q15, .null, .null, .null, .null, .int 0, .int 0, .int 0, .int 0, .int 0])), (q4, .inr (0, [.ref a4, .ref b4])), (a4, (.inl (cI, 8, .inl (fun _ => 0)))), (b4, (.inl (cI, 8, .inl (fun _ => 0)))), (q15, .inr (0, [.ref a15, .ref b15])), (a15, (.inl (cI, 8, .inl (fun _ => 0)))), (b15, (.inl (cI, 8, .inl (fun _ => 0)))), (q26, .inr (0, [.ref a26, .ref b26])), (a26, (.inl (cI, 8, .inl (fun _ => 0)))), (b26, (.inl (cI, 8, .inl (fun _ => 0))))]) H := hP
  have hD : va_D A ([(h0, .inr (1, [.ref q4, .ref q15, .null, .null, .null, .null, .int 0, .int 0, .int 0, .int 0, .int 0])), (q4, .inr (0, [.ref a4, .ref b4])), (a4, (.inl (cI, 8, .inl (fun _ => 0)))), (b4, (.inl (cI, 8, .inl (fun _ => 0)))), (q15, .inr (0, [.ref a15, .ref b15])), (a15, (.inl (cI, 8, .inl (fun _ => 0)))), (b15, (.inl (cI, 8, .inl (fun _ => 0)))), (q26, .inr (0, [.ref a26, .ref b26])), (a26, (.inl (cI, 8, .inl (fun _ => 0)))), (b26, (.inl (cI, 8, .inl (fun _ => 0))))]) := hD
  refine va_putF (D := (dC, dI)) (ci := 1) (v := .ref q26) (ty := .object "VineWall$Wall") (C := RX1) (T := TX1) (N := 11) hx hb hts inX1 tyX1 tyX1_ok nmX1 hown hK hP hD hS 0 rfl rfl 2 (by decide) (hts (.fieldLink RX1 19 "VineWall" "behind" "LVineWall$Wall;") (List.mem_of_getElem? (i := 9) rfl)) (fun _ h9 => h9) rfl hin rfl (by decide +kernel) rfl rfl (Nat.le_of_ble_eq_true rfl) dX1_init_34 (fun H locs hP hD hS => ?_)
  have hP : va_P (dC, dI) vwCl ([(h0, .inr (1, [.ref q4, .ref q15, .ref q26, .null, .null, .null, .int 0, .int 0, .int 0, .int 0, .int 0])), (q4, .inr (0, [.ref a4, .ref b4])), (a4, (.inl (cI, 8, .inl (fun _ => 0)))), (b4, (.inl (cI, 8, .inl (fun _ => 0)))), (q15, .inr (0, [.ref a15, .ref b15])), (a15, (.inl (cI, 8, .inl (fun _ => 0)))), (b15, (.inl (cI, 8, .inl (fun _ => 0)))), (q26, .inr (0, [.ref a26, .ref b26])), (a26, (.inl (cI, 8, .inl (fun _ => 0)))), (b26, (.inl (cI, 8, .inl (fun _ => 0))))]) H := hP
  have hD : va_D A ([(h0, .inr (1, [.ref q4, .ref q15, .ref q26, .null, .null, .null, .int 0, .int 0, .int 0, .int 0, .int 0])), (q4, .inr (0, [.ref a4, .ref b4])), (a4, (.inl (cI, 8, .inl (fun _ => 0)))), (b4, (.inl (cI, 8, .inl (fun _ => 0)))), (q15, .inr (0, [.ref a15, .ref b15])), (a15, (.inl (cI, 8, .inl (fun _ => 0)))), (b15, (.inl (cI, 8, .inl (fun _ => 0)))), (q26, .inr (0, [.ref a26, .ref b26])), (a26, (.inl (cI, 8, .inl (fun _ => 0)))), (b26, (.inl (cI, 8, .inl (fun _ => 0))))]) := hD
  refine lv_aload_n hx hb dX1_init_37 rfl (lv_at hl 0 rfl) ?_
  refine lv_bipush (v := 61) hx hb dX1_init_38 (by decide) ?_
  refine gz_newl hx hb (hts (.arrayClass .long) (List.mem_of_getElem? (i := 10) rfl)) 1 rfl hK hP hD hS hA 61 rfl (by decide) (Nat.le_of_ble_eq_true rfl) (Nat.le_of_ble_eq_true rfl) dX1_init_40 (fun q37 H hP hD hS => ?_)
  have hP : va_P (dC, dI) vwCl ([(h0, .inr (1, [.ref q4, .ref q15, .ref q26, .null, .null, .null, .int 0, .int 0, .int 0, .int 0, .int 0])), (q4, .inr (0, [.ref a4, .ref b4])), (a4, (.inl (cI, 8, .inl (fun _ => 0)))), (b4, (.inl (cI, 8, .inl (fun _ => 0)))), (q15, .inr (0, [.ref a15, .ref b15])), (a15, (.inl (cI, 8, .inl (fun _ => 0)))), (b15, (.inl (cI, 8, .inl (fun _ => 0)))), (q26, .inr (0, [.ref a26, .ref b26])), (a26, (.inl (cI, 8, .inl (fun _ => 0)))), (b26, (.inl (cI, 8, .inl (fun _ => 0)))), (q37, .inl (cL, 61, .inr (.inl (fun _ => 0))))]) H := hP
  have hD : va_D A ([(h0, .inr (1, [.ref q4, .ref q15, .ref q26, .null, .null, .null, .int 0, .int 0, .int 0, .int 0, .int 0])), (q4, .inr (0, [.ref a4, .ref b4])), (a4, (.inl (cI, 8, .inl (fun _ => 0)))), (b4, (.inl (cI, 8, .inl (fun _ => 0)))), (q15, .inr (0, [.ref a15, .ref b15])), (a15, (.inl (cI, 8, .inl (fun _ => 0)))), (b15, (.inl (cI, 8, .inl (fun _ => 0)))), (q26, .inr (0, [.ref a26, .ref b26])), (a26, (.inl (cI, 8, .inl (fun _ => 0)))), (b26, (.inl (cI, 8, .inl (fun _ => 0)))), (q37, .inl (cL, 61, .inr (.inl (fun _ => 0))))]) := hD
  refine va_putF (D := (dC, dI)) (ci := 1) (v := .ref q37) (ty := .array .long) (C := RX1) (T := TX1) (N := 11) hx hb hts inX1 tyX1 tyX1_ok nmX1 hown hK hP hD hS 0 rfl rfl 3 (by decide) (hts (.fieldLink RX1 22 "VineWall" "lowerHalves" "[J") (List.mem_of_getElem? (i := 11) rfl)) (fun _ h9 => h9) rfl hin rfl (by decide +kernel) rfl rfl (Nat.le_of_ble_eq_true rfl) dX1_init_42 (fun H locs hP hD hS => ?_)
  have hP : va_P (dC, dI) vwCl ([(h0, .inr (1, [.ref q4, .ref q15, .ref q26, .ref q37, .null, .null, .int 0, .int 0, .int 0, .int 0, .int 0])), (q4, .inr (0, [.ref a4, .ref b4])), (a4, (.inl (cI, 8, .inl (fun _ => 0)))), (b4, (.inl (cI, 8, .inl (fun _ => 0)))), (q15, .inr (0, [.ref a15, .ref b15])), (a15, (.inl (cI, 8, .inl (fun _ => 0)))), (b15, (.inl (cI, 8, .inl (fun _ => 0)))), (q26, .inr (0, [.ref a26, .ref b26])), (a26, (.inl (cI, 8, .inl (fun _ => 0)))), (b26, (.inl (cI, 8, .inl (fun _ => 0)))), (q37, .inl (cL, 61, .inr (.inl (fun _ => 0))))]) H := hP
  have hD : va_D A ([(h0, .inr (1, [.ref q4, .ref q15, .ref q26, .ref q37, .null, .null, .int 0, .int 0, .int 0, .int 0, .int 0])), (q4, .inr (0, [.ref a4, .ref b4])), (a4, (.inl (cI, 8, .inl (fun _ => 0)))), (b4, (.inl (cI, 8, .inl (fun _ => 0)))), (q15, .inr (0, [.ref a15, .ref b15])), (a15, (.inl (cI, 8, .inl (fun _ => 0)))), (b15, (.inl (cI, 8, .inl (fun _ => 0)))), (q26, .inr (0, [.ref a26, .ref b26])), (a26, (.inl (cI, 8, .inl (fun _ => 0)))), (b26, (.inl (cI, 8, .inl (fun _ => 0)))), (q37, .inl (cL, 61, .inr (.inl (fun _ => 0))))]) := hD
  refine lv_aload_n hx hb dX1_init_45 rfl (lv_at hl 0 rfl) ?_
  refine lv_bipush (v := 61) hx hb dX1_init_46 (by decide) ?_
  refine gz_newl hx hb (hts (.arrayClass .long) (List.mem_of_getElem? (i := 10) rfl)) 1 rfl hK hP hD hS hA 61 rfl (by decide) (Nat.le_of_ble_eq_true rfl) (Nat.le_of_ble_eq_true rfl) dX1_init_48 (fun q45 H hP hD hS => ?_)
  have hP : va_P (dC, dI) vwCl ([(h0, .inr (1, [.ref q4, .ref q15, .ref q26, .ref q37, .null, .null, .int 0, .int 0, .int 0, .int 0, .int 0])), (q4, .inr (0, [.ref a4, .ref b4])), (a4, (.inl (cI, 8, .inl (fun _ => 0)))), (b4, (.inl (cI, 8, .inl (fun _ => 0)))), (q15, .inr (0, [.ref a15, .ref b15])), (a15, (.inl (cI, 8, .inl (fun _ => 0)))), (b15, (.inl (cI, 8, .inl (fun _ => 0)))), (q26, .inr (0, [.ref a26, .ref b26])), (a26, (.inl (cI, 8, .inl (fun _ => 0)))), (b26, (.inl (cI, 8, .inl (fun _ => 0)))), (q37, .inl (cL, 61, .inr (.inl (fun _ => 0)))), (q45, .inl (cL, 61, .inr (.inl (fun _ => 0))))]) H := hP
  have hD : va_D A ([(h0, .inr (1, [.ref q4, .ref q15, .ref q26, .ref q37, .null, .null, .int 0, .int 0, .int 0, .int 0, .int 0])), (q4, .inr (0, [.ref a4, .ref b4])), (a4, (.inl (cI, 8, .inl (fun _ => 0)))), (b4, (.inl (cI, 8, .inl (fun _ => 0)))), (q15, .inr (0, [.ref a15, .ref b15])), (a15, (.inl (cI, 8, .inl (fun _ => 0)))), (b15, (.inl (cI, 8, .inl (fun _ => 0)))), (q26, .inr (0, [.ref a26, .ref b26])), (a26, (.inl (cI, 8, .inl (fun _ => 0)))), (b26, (.inl (cI, 8, .inl (fun _ => 0)))), (q37, .inl (cL, 61, .inr (.inl (fun _ => 0)))), (q45, .inl (cL, 61, .inr (.inl (fun _ => 0))))]) := hD
  refine va_putF (D := (dC, dI)) (ci := 1) (v := .ref q45) (ty := .array .long) (C := RX1) (T := TX1) (N := 11) hx hb hts inX1 tyX1 tyX1_ok nmX1 hown hK hP hD hS 0 rfl rfl 4 (by decide) (hts (.fieldLink RX1 26 "VineWall" "upperHalves" "[J") (List.mem_of_getElem? (i := 12) rfl)) (fun _ h9 => h9) rfl hin rfl (by decide +kernel) rfl rfl (Nat.le_of_ble_eq_true rfl) dX1_init_50 (fun H locs hP hD hS => ?_)
  have hP : va_P (dC, dI) vwCl ([(h0, .inr (1, [.ref q4, .ref q15, .ref q26, .ref q37, .ref q45, .null, .int 0, .int 0, .int 0, .int 0, .int 0])), (q4, .inr (0, [.ref a4, .ref b4])), (a4, (.inl (cI, 8, .inl (fun _ => 0)))), (b4, (.inl (cI, 8, .inl (fun _ => 0)))), (q15, .inr (0, [.ref a15, .ref b15])), (a15, (.inl (cI, 8, .inl (fun _ => 0)))), (b15, (.inl (cI, 8, .inl (fun _ => 0)))), (q26, .inr (0, [.ref a26, .ref b26])), (a26, (.inl (cI, 8, .inl (fun _ => 0)))), (b26, (.inl (cI, 8, .inl (fun _ => 0)))), (q37, .inl (cL, 61, .inr (.inl (fun _ => 0)))), (q45, .inl (cL, 61, .inr (.inl (fun _ => 0))))]) H := hP
  have hD : va_D A ([(h0, .inr (1, [.ref q4, .ref q15, .ref q26, .ref q37, .ref q45, .null, .int 0, .int 0, .int 0, .int 0, .int 0])), (q4, .inr (0, [.ref a4, .ref b4])), (a4, (.inl (cI, 8, .inl (fun _ => 0)))), (b4, (.inl (cI, 8, .inl (fun _ => 0)))), (q15, .inr (0, [.ref a15, .ref b15])), (a15, (.inl (cI, 8, .inl (fun _ => 0)))), (b15, (.inl (cI, 8, .inl (fun _ => 0)))), (q26, .inr (0, [.ref a26, .ref b26])), (a26, (.inl (cI, 8, .inl (fun _ => 0)))), (b26, (.inl (cI, 8, .inl (fun _ => 0)))), (q37, .inl (cL, 61, .inr (.inl (fun _ => 0)))), (q45, .inl (cL, 61, .inr (.inl (fun _ => 0))))]) := hD
  refine lv_aload_n hx hb dX1_init_53 rfl (lv_at hl 0 rfl) ?_
  refine lv_bipush (v := 12) hx hb dX1_init_54 (by decide) ?_
  refine gz_newi hx hb (hts (.arrayClass .int) (List.mem_of_getElem? (i := 13) rfl)) 0 rfl hK hP hD hS hA 12 rfl (by decide) (Nat.le_of_ble_eq_true rfl) (Nat.le_of_ble_eq_true rfl) dX1_init_56 (fun q53 H hP hD hS => ?_)
  have hP : va_P (dC, dI) vwCl ([(h0, .inr (1, [.ref q4, .ref q15, .ref q26, .ref q37, .ref q45, .null, .int 0, .int 0, .int 0, .int 0, .int 0])), (q4, .inr (0, [.ref a4, .ref b4])), (a4, (.inl (cI, 8, .inl (fun _ => 0)))), (b4, (.inl (cI, 8, .inl (fun _ => 0)))), (q15, .inr (0, [.ref a15, .ref b15])), (a15, (.inl (cI, 8, .inl (fun _ => 0)))), (b15, (.inl (cI, 8, .inl (fun _ => 0)))), (q26, .inr (0, [.ref a26, .ref b26])), (a26, (.inl (cI, 8, .inl (fun _ => 0)))), (b26, (.inl (cI, 8, .inl (fun _ => 0)))), (q37, .inl (cL, 61, .inr (.inl (fun _ => 0)))), (q45, .inl (cL, 61, .inr (.inl (fun _ => 0)))), (q53, .inl (cI, 12, .inl (fun _ => 0)))]) H := hP
  have hD : va_D A ([(h0, .inr (1, [.ref q4, .ref q15, .ref q26, .ref q37, .ref q45, .null, .int 0, .int 0, .int 0, .int 0, .int 0])), (q4, .inr (0, [.ref a4, .ref b4])), (a4, (.inl (cI, 8, .inl (fun _ => 0)))), (b4, (.inl (cI, 8, .inl (fun _ => 0)))), (q15, .inr (0, [.ref a15, .ref b15])), (a15, (.inl (cI, 8, .inl (fun _ => 0)))), (b15, (.inl (cI, 8, .inl (fun _ => 0)))), (q26, .inr (0, [.ref a26, .ref b26])), (a26, (.inl (cI, 8, .inl (fun _ => 0)))), (b26, (.inl (cI, 8, .inl (fun _ => 0)))), (q37, .inl (cL, 61, .inr (.inl (fun _ => 0)))), (q45, .inl (cL, 61, .inr (.inl (fun _ => 0)))), (q53, .inl (cI, 12, .inl (fun _ => 0)))]) := hD
  refine va_putF (D := (dC, dI)) (ci := 1) (v := .ref q53) (ty := .array .int) (C := RX1) (T := TX1) (N := 11) hx hb hts inX1 tyX1 tyX1_ok nmX1 hown hK hP hD hS 0 rfl rfl 5 (by decide) (hts (.fieldLink RX1 29 "VineWall" "bearings" "[I") (List.mem_of_getElem? (i := 14) rfl)) (fun _ h9 => h9) rfl hin rfl (by decide +kernel) rfl rfl (Nat.le_of_ble_eq_true rfl) dX1_init_58 (fun H locs hP hD hS => ?_)
  have hP : va_P (dC, dI) vwCl ([(h0, .inr (1, [.ref q4, .ref q15, .ref q26, .ref q37, .ref q45, .ref q53, .int 0, .int 0, .int 0, .int 0, .int 0])), (q4, .inr (0, [.ref a4, .ref b4])), (a4, (.inl (cI, 8, .inl (fun _ => 0)))), (b4, (.inl (cI, 8, .inl (fun _ => 0)))), (q15, .inr (0, [.ref a15, .ref b15])), (a15, (.inl (cI, 8, .inl (fun _ => 0)))), (b15, (.inl (cI, 8, .inl (fun _ => 0)))), (q26, .inr (0, [.ref a26, .ref b26])), (a26, (.inl (cI, 8, .inl (fun _ => 0)))), (b26, (.inl (cI, 8, .inl (fun _ => 0)))), (q37, .inl (cL, 61, .inr (.inl (fun _ => 0)))), (q45, .inl (cL, 61, .inr (.inl (fun _ => 0)))), (q53, .inl (cI, 12, .inl (fun _ => 0)))]) H := hP
  have hD : va_D A ([(h0, .inr (1, [.ref q4, .ref q15, .ref q26, .ref q37, .ref q45, .ref q53, .int 0, .int 0, .int 0, .int 0, .int 0])), (q4, .inr (0, [.ref a4, .ref b4])), (a4, (.inl (cI, 8, .inl (fun _ => 0)))), (b4, (.inl (cI, 8, .inl (fun _ => 0)))), (q15, .inr (0, [.ref a15, .ref b15])), (a15, (.inl (cI, 8, .inl (fun _ => 0)))), (b15, (.inl (cI, 8, .inl (fun _ => 0)))), (q26, .inr (0, [.ref a26, .ref b26])), (a26, (.inl (cI, 8, .inl (fun _ => 0)))), (b26, (.inl (cI, 8, .inl (fun _ => 0)))), (q37, .inl (cL, 61, .inr (.inl (fun _ => 0)))), (q45, .inl (cL, 61, .inr (.inl (fun _ => 0)))), (q53, .inl (cI, 12, .inl (fun _ => 0)))]) := hD
  refine lv_aload_n hx hb dX1_init_61 rfl (lv_at hl 0 rfl) ?_
  refine lv_iconst (v := 0) hx hb dX1_init_62 (by decide) ?_
  refine va_put (D := (dC, dI)) (ci := 1) (v := .int 0) (ty := .int) (C := RX1) (T := TX1) (N := 11) hx hb hts inX1 tyX1 tyX1_ok nmX1 hown hK hP hD hS 0 rfl rfl 6 (by decide) (hts (.fieldLink RX1 33 "VineWall" "beyond" "I") (List.mem_of_getElem? (i := 15) rfl)) (fun _ h9 => h9) rfl (by decide +kernel) rfl rfl (Nat.le_of_ble_eq_true rfl) dX1_init_63 (fun H locs hP hD hS => ?_)
  have hP : va_P (dC, dI) vwCl ([(h0, .inr (1, [.ref q4, .ref q15, .ref q26, .ref q37, .ref q45, .ref q53, .int 0, .int 0, .int 0, .int 0, .int 0])), (q4, .inr (0, [.ref a4, .ref b4])), (a4, (.inl (cI, 8, .inl (fun _ => 0)))), (b4, (.inl (cI, 8, .inl (fun _ => 0)))), (q15, .inr (0, [.ref a15, .ref b15])), (a15, (.inl (cI, 8, .inl (fun _ => 0)))), (b15, (.inl (cI, 8, .inl (fun _ => 0)))), (q26, .inr (0, [.ref a26, .ref b26])), (a26, (.inl (cI, 8, .inl (fun _ => 0)))), (b26, (.inl (cI, 8, .inl (fun _ => 0)))), (q37, .inl (cL, 61, .inr (.inl (fun _ => 0)))), (q45, .inl (cL, 61, .inr (.inl (fun _ => 0)))), (q53, .inl (cI, 12, .inl (fun _ => 0)))]) H := hP
  have hD : va_D A ([(h0, .inr (1, [.ref q4, .ref q15, .ref q26, .ref q37, .ref q45, .ref q53, .int 0, .int 0, .int 0, .int 0, .int 0])), (q4, .inr (0, [.ref a4, .ref b4])), (a4, (.inl (cI, 8, .inl (fun _ => 0)))), (b4, (.inl (cI, 8, .inl (fun _ => 0)))), (q15, .inr (0, [.ref a15, .ref b15])), (a15, (.inl (cI, 8, .inl (fun _ => 0)))), (b15, (.inl (cI, 8, .inl (fun _ => 0)))), (q26, .inr (0, [.ref a26, .ref b26])), (a26, (.inl (cI, 8, .inl (fun _ => 0)))), (b26, (.inl (cI, 8, .inl (fun _ => 0)))), (q37, .inl (cL, 61, .inr (.inl (fun _ => 0)))), (q45, .inl (cL, 61, .inr (.inl (fun _ => 0)))), (q53, .inl (cI, 12, .inl (fun _ => 0)))]) := hD
  refine lv_aload_n hx hb dX1_init_66 rfl (lv_at hl 0 rfl) ?_
  refine lv_iconst (v := 0) hx hb dX1_init_67 (by decide) ?_
  refine va_put (D := (dC, dI)) (ci := 1) (v := .int 0) (ty := .int) (C := RX1) (T := TX1) (N := 11) hx hb hts inX1 tyX1 tyX1_ok nmX1 hown hK hP hD hS 0 rfl rfl 7 (by decide) (hts (.fieldLink RX1 37 "VineWall" "planted" "I") (List.mem_of_getElem? (i := 16) rfl)) (fun _ h9 => h9) rfl (by decide +kernel) rfl rfl (Nat.le_of_ble_eq_true rfl) dX1_init_68 (fun H locs hP hD hS => ?_)
  have hP : va_P (dC, dI) vwCl ([(h0, .inr (1, [.ref q4, .ref q15, .ref q26, .ref q37, .ref q45, .ref q53, .int 0, .int 0, .int 0, .int 0, .int 0])), (q4, .inr (0, [.ref a4, .ref b4])), (a4, (.inl (cI, 8, .inl (fun _ => 0)))), (b4, (.inl (cI, 8, .inl (fun _ => 0)))), (q15, .inr (0, [.ref a15, .ref b15])), (a15, (.inl (cI, 8, .inl (fun _ => 0)))), (b15, (.inl (cI, 8, .inl (fun _ => 0)))), (q26, .inr (0, [.ref a26, .ref b26])), (a26, (.inl (cI, 8, .inl (fun _ => 0)))), (b26, (.inl (cI, 8, .inl (fun _ => 0)))), (q37, .inl (cL, 61, .inr (.inl (fun _ => 0)))), (q45, .inl (cL, 61, .inr (.inl (fun _ => 0)))), (q53, .inl (cI, 12, .inl (fun _ => 0)))]) H := hP
  have hD : va_D A ([(h0, .inr (1, [.ref q4, .ref q15, .ref q26, .ref q37, .ref q45, .ref q53, .int 0, .int 0, .int 0, .int 0, .int 0])), (q4, .inr (0, [.ref a4, .ref b4])), (a4, (.inl (cI, 8, .inl (fun _ => 0)))), (b4, (.inl (cI, 8, .inl (fun _ => 0)))), (q15, .inr (0, [.ref a15, .ref b15])), (a15, (.inl (cI, 8, .inl (fun _ => 0)))), (b15, (.inl (cI, 8, .inl (fun _ => 0)))), (q26, .inr (0, [.ref a26, .ref b26])), (a26, (.inl (cI, 8, .inl (fun _ => 0)))), (b26, (.inl (cI, 8, .inl (fun _ => 0)))), (q37, .inl (cL, 61, .inr (.inl (fun _ => 0)))), (q45, .inl (cL, 61, .inr (.inl (fun _ => 0)))), (q53, .inl (cI, 12, .inl (fun _ => 0)))]) := hD
  refine lv_aload_n hx hb dX1_init_71 rfl (lv_at hl 0 rfl) ?_
  refine lv_iconst (v := 0) hx hb dX1_init_72 (by decide) ?_
  refine va_put (D := (dC, dI)) (ci := 1) (v := .int 0) (ty := .int) (C := RX1) (T := TX1) (N := 11) hx hb hts inX1 tyX1 tyX1_ok nmX1 hown hK hP hD hS 0 rfl rfl 8 (by decide) (hts (.fieldLink RX1 40 "VineWall" "cutsDone" "I") (List.mem_of_getElem? (i := 17) rfl)) (fun _ h9 => h9) rfl (by decide +kernel) rfl rfl (Nat.le_of_ble_eq_true rfl) dX1_init_73 (fun H locs hP hD hS => ?_)
  have hP : va_P (dC, dI) vwCl ([(h0, .inr (1, [.ref q4, .ref q15, .ref q26, .ref q37, .ref q45, .ref q53, .int 0, .int 0, .int 0, .int 0, .int 0])), (q4, .inr (0, [.ref a4, .ref b4])), (a4, (.inl (cI, 8, .inl (fun _ => 0)))), (b4, (.inl (cI, 8, .inl (fun _ => 0)))), (q15, .inr (0, [.ref a15, .ref b15])), (a15, (.inl (cI, 8, .inl (fun _ => 0)))), (b15, (.inl (cI, 8, .inl (fun _ => 0)))), (q26, .inr (0, [.ref a26, .ref b26])), (a26, (.inl (cI, 8, .inl (fun _ => 0)))), (b26, (.inl (cI, 8, .inl (fun _ => 0)))), (q37, .inl (cL, 61, .inr (.inl (fun _ => 0)))), (q45, .inl (cL, 61, .inr (.inl (fun _ => 0)))), (q53, .inl (cI, 12, .inl (fun _ => 0)))]) H := hP
  have hD : va_D A ([(h0, .inr (1, [.ref q4, .ref q15, .ref q26, .ref q37, .ref q45, .ref q53, .int 0, .int 0, .int 0, .int 0, .int 0])), (q4, .inr (0, [.ref a4, .ref b4])), (a4, (.inl (cI, 8, .inl (fun _ => 0)))), (b4, (.inl (cI, 8, .inl (fun _ => 0)))), (q15, .inr (0, [.ref a15, .ref b15])), (a15, (.inl (cI, 8, .inl (fun _ => 0)))), (b15, (.inl (cI, 8, .inl (fun _ => 0)))), (q26, .inr (0, [.ref a26, .ref b26])), (a26, (.inl (cI, 8, .inl (fun _ => 0)))), (b26, (.inl (cI, 8, .inl (fun _ => 0)))), (q37, .inl (cL, 61, .inr (.inl (fun _ => 0)))), (q45, .inl (cL, 61, .inr (.inl (fun _ => 0)))), (q53, .inl (cI, 12, .inl (fun _ => 0)))]) := hD
  refine lv_aload_n hx hb dX1_init_76 rfl (lv_at hl 0 rfl) ?_
  refine lv_iconst (v := 0) hx hb dX1_init_77 (by decide) ?_
  refine va_put (D := (dC, dI)) (ci := 1) (v := .int 0) (ty := .int) (C := RX1) (T := TX1) (N := 11) hx hb hts inX1 tyX1 tyX1_ok nmX1 hown hK hP hD hS 0 rfl rfl 9 (by decide) (hts (.fieldLink RX1 43 "VineWall" "generationsGone" "I") (List.mem_of_getElem? (i := 18) rfl)) (fun _ h9 => h9) rfl (by decide +kernel) rfl rfl (Nat.le_of_ble_eq_true rfl) dX1_init_78 (fun H locs hP hD hS => ?_)
  have hP : va_P (dC, dI) vwCl ([(h0, .inr (1, [.ref q4, .ref q15, .ref q26, .ref q37, .ref q45, .ref q53, .int 0, .int 0, .int 0, .int 0, .int 0])), (q4, .inr (0, [.ref a4, .ref b4])), (a4, (.inl (cI, 8, .inl (fun _ => 0)))), (b4, (.inl (cI, 8, .inl (fun _ => 0)))), (q15, .inr (0, [.ref a15, .ref b15])), (a15, (.inl (cI, 8, .inl (fun _ => 0)))), (b15, (.inl (cI, 8, .inl (fun _ => 0)))), (q26, .inr (0, [.ref a26, .ref b26])), (a26, (.inl (cI, 8, .inl (fun _ => 0)))), (b26, (.inl (cI, 8, .inl (fun _ => 0)))), (q37, .inl (cL, 61, .inr (.inl (fun _ => 0)))), (q45, .inl (cL, 61, .inr (.inl (fun _ => 0)))), (q53, .inl (cI, 12, .inl (fun _ => 0)))]) H := hP
  have hD : va_D A ([(h0, .inr (1, [.ref q4, .ref q15, .ref q26, .ref q37, .ref q45, .ref q53, .int 0, .int 0, .int 0, .int 0, .int 0])), (q4, .inr (0, [.ref a4, .ref b4])), (a4, (.inl (cI, 8, .inl (fun _ => 0)))), (b4, (.inl (cI, 8, .inl (fun _ => 0)))), (q15, .inr (0, [.ref a15, .ref b15])), (a15, (.inl (cI, 8, .inl (fun _ => 0)))), (b15, (.inl (cI, 8, .inl (fun _ => 0)))), (q26, .inr (0, [.ref a26, .ref b26])), (a26, (.inl (cI, 8, .inl (fun _ => 0)))), (b26, (.inl (cI, 8, .inl (fun _ => 0)))), (q37, .inl (cL, 61, .inr (.inl (fun _ => 0)))), (q45, .inl (cL, 61, .inr (.inl (fun _ => 0)))), (q53, .inl (cI, 12, .inl (fun _ => 0)))]) := hD
  refine lv_aload_n hx hb dX1_init_81 rfl (lv_at hl 0 rfl) ?_
  refine lv_iconst (v := 0) hx hb dX1_init_82 (by decide) ?_
  refine va_put (D := (dC, dI)) (ci := 1) (v := .int 0) (ty := .int) (C := RX1) (T := TX1) (N := 11) hx hb hts inX1 tyX1 tyX1_ok nmX1 hown hK hP hD hS 0 rfl rfl 10 (by decide) (hts (.fieldLink RX1 46 "VineWall" "fallen" "I") (List.mem_of_getElem? (i := 19) rfl)) (fun _ h9 => h9) rfl (by decide +kernel) rfl rfl (Nat.le_of_ble_eq_true rfl) dX1_init_83 (fun H locs hP hD hS => ?_)
  have hP : va_P (dC, dI) vwCl ([(h0, .inr (1, [.ref q4, .ref q15, .ref q26, .ref q37, .ref q45, .ref q53, .int 0, .int 0, .int 0, .int 0, .int 0])), (q4, .inr (0, [.ref a4, .ref b4])), (a4, (.inl (cI, 8, .inl (fun _ => 0)))), (b4, (.inl (cI, 8, .inl (fun _ => 0)))), (q15, .inr (0, [.ref a15, .ref b15])), (a15, (.inl (cI, 8, .inl (fun _ => 0)))), (b15, (.inl (cI, 8, .inl (fun _ => 0)))), (q26, .inr (0, [.ref a26, .ref b26])), (a26, (.inl (cI, 8, .inl (fun _ => 0)))), (b26, (.inl (cI, 8, .inl (fun _ => 0)))), (q37, .inl (cL, 61, .inr (.inl (fun _ => 0)))), (q45, .inl (cL, 61, .inr (.inl (fun _ => 0)))), (q53, .inl (cI, 12, .inl (fun _ => 0)))]) H := hP
  have hD : va_D A ([(h0, .inr (1, [.ref q4, .ref q15, .ref q26, .ref q37, .ref q45, .ref q53, .int 0, .int 0, .int 0, .int 0, .int 0])), (q4, .inr (0, [.ref a4, .ref b4])), (a4, (.inl (cI, 8, .inl (fun _ => 0)))), (b4, (.inl (cI, 8, .inl (fun _ => 0)))), (q15, .inr (0, [.ref a15, .ref b15])), (a15, (.inl (cI, 8, .inl (fun _ => 0)))), (b15, (.inl (cI, 8, .inl (fun _ => 0)))), (q26, .inr (0, [.ref a26, .ref b26])), (a26, (.inl (cI, 8, .inl (fun _ => 0)))), (b26, (.inl (cI, 8, .inl (fun _ => 0)))), (q37, .inl (cL, 61, .inr (.inl (fun _ => 0)))), (q45, .inl (cL, 61, .inr (.inl (fun _ => 0)))), (q53, .inl (cI, 12, .inl (fun _ => 0)))]) := hD
  refine lv_iconst (v := 0) hx hb dX1_init_86 (by decide) ?_
  refine lv_istore_n (lv' := [(1, .int 0), (0, .ref h0)]) hx hb dX1_init_87 rfl hl (by decide) rfl (fun ls hl => ?_)
  refine W.widen (k := 12) (n := 188) (Nat.le_of_ble_eq_true rfl) (Nat.le_of_ble_eq_true rfl) ?_
  have L : ∀ (n i : Nat) (be : Nat → Int32) (H : Heap) (locs : List Loc) (ls : Array Slot), i + n = 12 → (∀ k, k < i → be k = 5) → va_P (dC, dI) vwCl ([(h0, .inr (1, [.ref q4, .ref q15, .ref q26, .ref q37, .ref q45, .ref q53, .int 0, .int 0, .int 0, .int 0, .int 0])), (q4, .inr (0, [.ref a4, .ref b4])), (a4, (.inl (cI, 8, .inl (fun _ => 0)))), (b4, (.inl (cI, 8, .inl (fun _ => 0)))), (q15, .inr (0, [.ref a15, .ref b15])), (a15, (.inl (cI, 8, .inl (fun _ => 0)))), (b15, (.inl (cI, 8, .inl (fun _ => 0)))), (q26, .inr (0, [.ref a26, .ref b26])), (a26, (.inl (cI, 8, .inl (fun _ => 0)))), (b26, (.inl (cI, 8, .inl (fun _ => 0)))), (q37, .inl (cL, 61, .inr (.inl (fun _ => 0)))), (q45, .inl (cL, 61, .inr (.inl (fun _ => 0)))), (q53, .inl (cI, 12, .inl be))]) H → va_D A ([(h0, .inr (1, [.ref q4, .ref q15, .ref q26, .ref q37, .ref q45, .ref q53, .int 0, .int 0, .int 0, .int 0, .int 0])), (q4, .inr (0, [.ref a4, .ref b4])), (a4, (.inl (cI, 8, .inl (fun _ => 0)))), (b4, (.inl (cI, 8, .inl (fun _ => 0)))), (q15, .inr (0, [.ref a15, .ref b15])), (a15, (.inl (cI, 8, .inl (fun _ => 0)))), (b15, (.inl (cI, 8, .inl (fun _ => 0)))), (q26, .inr (0, [.ref a26, .ref b26])), (a26, (.inl (cI, 8, .inl (fun _ => 0)))), (b26, (.inl (cI, 8, .inl (fun _ => 0)))), (q37, .inl (cL, 61, .inr (.inl (fun _ => 0)))), (q45, .inl (cL, 61, .inr (.inl (fun _ => 0)))), (q53, .inl (cI, 12, .inl be))]) → va_S A s.heap H locs → lv_has ls 2 [(0, .ref h0), (1, .int (nI i))] → W p l e { frames := 2, cells := 12, slots := 188, locals := 32 } s m #[.ref h0] below meth c H locs 12 188 (MQ below (va_Qv (fun (u : (Nat → Nat) × (Nat → Int32)) => u.1 0 = h0 ∧ ∀ k, k < 12 → u.2 k = 5) (fun u t => va_P (dC, dI) vwCl (gv_V cI cL u.1 (fun _ => 0) (fun _ => 0) (fun _ => 0) (fun _ => 0) (fun _ => 0) (fun _ => 0) (fun _ => 0) (fun _ => 0) u.2 0 0 0 0 0) t.heap ∧ va_D A (gv_V cI cL u.1 (fun _ => 0) (fun _ => 0) (fun _ => 0) (fun _ => 0) (fun _ => 0) (fun _ => 0) (fun _ => 0) (fun _ => 0) u.2 0 0 0 0 0)) A) #[.ref h0] s 12 188 A) (F0 m 88 ls []) := by
    intro n
    induction n with
    | zero =>
      intro i be H locs ls hi hbe hP hD hS hl
      refine lv_iload_n hx hb dX1_init_88 rfl (lv_at hl 1 rfl) ?_
      refine lv_bipush (v := 12) hx hb dX1_init_89 (by decide) ?_
      refine lv_icmp_ge (tgt := 107) hx hb dX1_init_91 (by decide) (fun _ => ?_) (fun c => absurd c (gv_ge (N := 12) rfl rfl (by omega) (by omega)))
      exact W.vret hx hb hr (fun t ht hW => ⟨⟨((fun k => match k with | 0 => h0 | 1 => q4 | 2 => a4 | 3 => b4 | 4 => q15 | 5 => a15 | 6 => b15 | 7 => q26 | 8 => a26 | 9 => b26 | 10 => q37 | 11 => q45 | _ => q53), be), rfl, ⟨rfl, fun k hk => hbe k (by omega)⟩, ⟨by show va_P (dC, dI) vwCl _ t.heap; rw [ht]; exact hP, hD⟩⟩, hS.F ht⟩) hS.2.2 dX1_init_107
    | succ n ih =>
      intro i be H locs ls hi hbe hP hD hS hl
      refine lv_iload_n hx hb dX1_init_88 rfl (lv_at hl 1 rfl) ?_
      refine lv_bipush (v := 12) hx hb dX1_init_89 (by decide) ?_
      refine lv_icmp_ge (tgt := 107) hx hb dX1_init_91 (by decide) (fun c => absurd c (gv_lt (N := 12) rfl rfl (by omega) (by omega))) (fun _ => ?_)
      refine lv_aload_n hx hb dX1_init_94 rfl (lv_at hl 0 rfl) ?_
      refine va_get (D := (dC, dI)) (ci := 1) (v := .ref q53) (C := RX1) (T := TX1) (N := 11) hx hb hts inX1 hown hK hP 0 rfl rfl 5 (by decide) (hts (.fieldLink RX1 29 "VineWall" "bearings" "[I") (List.mem_of_getElem? (i := 14) rfl)) (fun _ h9 => h9) rfl dX1_init_95 ?_
      refine lv_iload_n hx hb dX1_init_98 rfl (lv_at hl 1 rfl) ?_
      refine lv_iconst (v := 5) hx hb dX1_init_99 (by decide) ?_
      refine gv_iast (cA := cI) (k := i) hx hb hK hP hD hS 12 0 rfl rfl rfl (by omega) (by decide) dX1_init_100 (fun H locs hP hD hS => ?_)
      refine lv_iinc (v := (nI (i + 1))) (lv' := [(1, .int (nI (i + 1))), (0, .ref h0)]) hx hb dX1_init_101 hl (k := 1) rfl (nI_1 i) (by decide) rfl (fun ls hl => ?_)
      refine lv_goto (tgt := 88) hx hb dX1_init_104 (by decide) ?_
      exact ih (i + 1) (upd be i 5) _ _ _ (by omega) (fun k hk => gz_fill hbe hk) hP hD hS (lv_sub hl [1, 0] rfl)
  exact L 12 0 (fun _ => 0) _ _ _ rfl (fun k hk => absurd hk (Nat.not_lt_zero k)) hP hD hS (lv_sub hl [1, 0] rfl)
set_option maxHeartbeats 4000000 in
set_option maxRecDepth 100000 in
theorem kX2_init (l : Launch) (dC : Nat → ClassId) (dI : Nat → Nat → Nat) (cI cL : ClassId) (h0 sz : Nat) : Met l yX2_init wsX2_init { frames := 1, cells := 2, slots := 5964, locals := 12 } (gz_Pc (dC, dI) [(cI, .int), (cL, .long)] [.ref h0] [(h0, .inr (2, [.null, .null, .int 0, .int 0, .int 0, .int 0, .int 0, .int 0]))] sz) (va_Qv (fun (u : (Nat → Nat) × (Nat → Int32)) => u.1 0 = h0 ∧ ∀ k, k < 12 → u.2 k = 5) (fun u t => va_P (dC, dI) vwCl (gv_M cI u.1 (fun _ => 0) u.2 0 0 3 0 0 0) t.heap ∧ va_D (va_A [(h0, .inr (2, [.null, .null, .int 0, .int 0, .int 0, .int 0, .int 0, .int 0]))] sz) (gv_M cI u.1 (fun _ => 0) u.2 0 0 3 0 0 0)) (va_A [(h0, .inr (2, [.null, .null, .int 0, .int 0, .int 0, .int 0, .int 0, .int 0]))] sz)) 2 5964 (va_A [(h0, .inr (2, [.null, .null, .int 0, .int 0, .int 0, .int 0, .int 0, .int 0]))] sz) := by
  refine Met.ofW (cc := cX2_init) (maxL := 2) (ret := none) (by decide) rfl ?_
  intro p e s m args below meth c s₁ B hml hv
  obtain ⟨rfl, hsz, hP, hK, hD0, hN⟩ := hv
  have hx := B.exec
  have hb := B.bytes
  have hr := B.returns
  have hts := atoms_spec (ws := wsX2_init) B.pre
  have hown : s.vm.findClass RX2 = some m.cls := findClass_of_methodNamed B.named
  have hlocks := B.notSynchronized
  have hin : meth.name = "<init>" := (name_of_methodNamed B.named B.method).1
  subst hsz
  have hD := hD0.self (sz := s.heap.size)
  generalize hAe : va_A [(h0, .inr (2, [.null, .null, .int 0, .int 0, .int 0, .int 0, .int 0, .int 0]))] s.heap.size = A at hD ⊢
  have hA : ∀ q : Nat, s.heap.size ≤ q → A q := fun q h => by rw [← hAe]; exact Or.inr h
  have hS : va_S A s.heap s.heap [] := va_S.rf
  have hl := lv_entry ([.ref h0]) (n := 2) (Nat.le_of_ble_eq_true rfl)
  rw [lg_entry_eq]
  generalize (lg_sl ([.ref h0]) ++ List.replicate (2 - (lg_sl ([.ref h0])).length) Slot.unset).toArray = ls at hl ⊢
  have hl : lv_has ls 2 [(0, .ref h0)] := hl
  have inX2 : ∀ w ∈ wsX20, w ∈ wsX2_init := (fun _ h => List.mem_cons_of_mem _ (List.mem_append_right _ h))
  have hP : va_P (dC, dI) vwCl ([(h0, .inr (2, [.null, .null, .int 0, .int 0, .int 0, .int 0, .int 0, .int 0]))]) s.heap := hP
  refine lv_aload_n hx hb dX2_init_0 rfl (lv_at hl 0 rfl) ?_
  refine W.objInit hx hb hown (hts (.methodLink RX2 1 objectInit) (List.mem_of_getElem? (i := 1) rfl)) (hts (.instanceMethod objectInit) (List.mem_of_getElem? (i := 2) rfl)) (hts _ (List.mem_of_getElem? (i := 3) rfl)) rfl (by rw [hml]; exact hl.1) rfl dX2_init_1 (Nat.le_of_ble_eq_true rfl) (Nat.le_of_ble_eq_true rfl) ?_
  refine W.eq (g2 := F0 m 4 ls []) rfl ?_
  refine lv_aload_n hx hb dX2_init_4 rfl (lv_at hl 0 rfl) ?_
  refine lv_sipush (v := 5952) hx hb dX2_init_5 (by decide) ?_
  refine gz_newi hx hb (hts (.arrayClass .int) (List.mem_of_getElem? (i := 4) rfl)) 0 rfl hK hP hD hS hA 5952 rfl (by decide) (Nat.le_of_ble_eq_true rfl) (Nat.le_of_ble_eq_true rfl) dX2_init_8 (fun q4 H hP hD hS => ?_)
  have hP : va_P (dC, dI) vwCl ([(h0, .inr (2, [.null, .null, .int 0, .int 0, .int 0, .int 0, .int 0, .int 0])), (q4, .inl (cI, 5952, .inl (fun _ => 0)))]) H := hP
  have hD : va_D A ([(h0, .inr (2, [.null, .null, .int 0, .int 0, .int 0, .int 0, .int 0, .int 0])), (q4, .inl (cI, 5952, .inl (fun _ => 0)))]) := hD
  refine va_putF (D := (dC, dI)) (ci := 2) (v := .ref q4) (ty := .array .int) (C := RX2) (T := TX2) (N := 8) hx hb hts inX2 tyX2 tyX2_ok nmX2 hown hK hP hD hS 0 rfl rfl 0 (by decide) (hts (.fieldLink RX2 7 "VineWallModel" "walls" "[I") (List.mem_of_getElem? (i := 5) rfl)) (fun _ h9 => h9) rfl hin rfl (by decide +kernel) rfl rfl (Nat.le_of_ble_eq_true rfl) dX2_init_10 (fun H locs hP hD hS => ?_)
  have hP : va_P (dC, dI) vwCl ([(h0, .inr (2, [.ref q4, .null, .int 0, .int 0, .int 0, .int 0, .int 0, .int 0])), (q4, .inl (cI, 5952, .inl (fun _ => 0)))]) H := hP
  have hD : va_D A ([(h0, .inr (2, [.ref q4, .null, .int 0, .int 0, .int 0, .int 0, .int 0, .int 0])), (q4, .inl (cI, 5952, .inl (fun _ => 0)))]) := hD
  refine lv_aload_n hx hb dX2_init_13 rfl (lv_at hl 0 rfl) ?_
  refine lv_bipush (v := 12) hx hb dX2_init_14 (by decide) ?_
  refine gz_newi hx hb (hts (.arrayClass .int) (List.mem_of_getElem? (i := 4) rfl)) 0 rfl hK hP hD hS hA 12 rfl (by decide) (Nat.le_of_ble_eq_true rfl) (Nat.le_of_ble_eq_true rfl) dX2_init_16 (fun q13 H hP hD hS => ?_)
  have hP : va_P (dC, dI) vwCl ([(h0, .inr (2, [.ref q4, .null, .int 0, .int 0, .int 0, .int 0, .int 0, .int 0])), (q4, .inl (cI, 5952, .inl (fun _ => 0))), (q13, .inl (cI, 12, .inl (fun _ => 0)))]) H := hP
  have hD : va_D A ([(h0, .inr (2, [.ref q4, .null, .int 0, .int 0, .int 0, .int 0, .int 0, .int 0])), (q4, .inl (cI, 5952, .inl (fun _ => 0))), (q13, .inl (cI, 12, .inl (fun _ => 0)))]) := hD
  refine va_putF (D := (dC, dI)) (ci := 2) (v := .ref q13) (ty := .array .int) (C := RX2) (T := TX2) (N := 8) hx hb hts inX2 tyX2 tyX2_ok nmX2 hown hK hP hD hS 0 rfl rfl 1 (by decide) (hts (.fieldLink RX2 13 "VineWallModel" "bears" "[I") (List.mem_of_getElem? (i := 6) rfl)) (fun _ h9 => h9) rfl hin rfl (by decide +kernel) rfl rfl (Nat.le_of_ble_eq_true rfl) dX2_init_18 (fun H locs hP hD hS => ?_)
  have hP : va_P (dC, dI) vwCl ([(h0, .inr (2, [.ref q4, .ref q13, .int 0, .int 0, .int 0, .int 0, .int 0, .int 0])), (q4, .inl (cI, 5952, .inl (fun _ => 0))), (q13, .inl (cI, 12, .inl (fun _ => 0)))]) H := hP
  have hD : va_D A ([(h0, .inr (2, [.ref q4, .ref q13, .int 0, .int 0, .int 0, .int 0, .int 0, .int 0])), (q4, .inl (cI, 5952, .inl (fun _ => 0))), (q13, .inl (cI, 12, .inl (fun _ => 0)))]) := hD
  refine lv_aload_n hx hb dX2_init_21 rfl (lv_at hl 0 rfl) ?_
  refine lv_iconst (v := 3) hx hb dX2_init_22 (by decide) ?_
  refine va_put (D := (dC, dI)) (ci := 2) (v := .int 3) (ty := .int) (C := RX2) (T := TX2) (N := 8) hx hb hts inX2 tyX2 tyX2_ok nmX2 hown hK hP hD hS 0 rfl rfl 4 (by decide) (hts (.fieldLink RX2 16 "VineWallModel" "cuts" "I") (List.mem_of_getElem? (i := 7) rfl)) (fun _ h9 => h9) rfl (by decide +kernel) rfl rfl (Nat.le_of_ble_eq_true rfl) dX2_init_23 (fun H locs hP hD hS => ?_)
  have hP : va_P (dC, dI) vwCl ([(h0, .inr (2, [.ref q4, .ref q13, .int 0, .int 0, .int 3, .int 0, .int 0, .int 0])), (q4, .inl (cI, 5952, .inl (fun _ => 0))), (q13, .inl (cI, 12, .inl (fun _ => 0)))]) H := hP
  have hD : va_D A ([(h0, .inr (2, [.ref q4, .ref q13, .int 0, .int 0, .int 3, .int 0, .int 0, .int 0])), (q4, .inl (cI, 5952, .inl (fun _ => 0))), (q13, .inl (cI, 12, .inl (fun _ => 0)))]) := hD
  refine lv_iconst (v := 0) hx hb dX2_init_26 (by decide) ?_
  refine lv_istore_n (lv' := [(1, .int 0), (0, .ref h0)]) hx hb dX2_init_27 rfl hl (by decide) rfl (fun ls hl => ?_)
  refine W.widen (k := 2) (n := 5964) (Nat.le_of_ble_eq_true rfl) (Nat.le_of_ble_eq_true rfl) ?_
  have L : ∀ (n i : Nat) (be : Nat → Int32) (H : Heap) (locs : List Loc) (ls : Array Slot), i + n = 12 → (∀ k, k < i → be k = 5) → va_P (dC, dI) vwCl ([(h0, .inr (2, [.ref q4, .ref q13, .int 0, .int 0, .int 3, .int 0, .int 0, .int 0])), (q4, .inl (cI, 5952, .inl (fun _ => 0))), (q13, .inl (cI, 12, .inl be))]) H → va_D A ([(h0, .inr (2, [.ref q4, .ref q13, .int 0, .int 0, .int 3, .int 0, .int 0, .int 0])), (q4, .inl (cI, 5952, .inl (fun _ => 0))), (q13, .inl (cI, 12, .inl be))]) → va_S A s.heap H locs → lv_has ls 2 [(0, .ref h0), (1, .int (nI i))] → W p l e { frames := 1, cells := 2, slots := 5964, locals := 12 } s m #[.ref h0] below meth c H locs 2 5964 (MQ below (va_Qv (fun (u : (Nat → Nat) × (Nat → Int32)) => u.1 0 = h0 ∧ ∀ k, k < 12 → u.2 k = 5) (fun u t => va_P (dC, dI) vwCl (gv_M cI u.1 (fun _ => 0) u.2 0 0 3 0 0 0) t.heap ∧ va_D A (gv_M cI u.1 (fun _ => 0) u.2 0 0 3 0 0 0)) A) #[.ref h0] s 2 5964 A) (F0 m 28 ls []) := by
    intro n
    induction n with
    | zero =>
      intro i be H locs ls hi hbe hP hD hS hl
      refine lv_iload_n hx hb dX2_init_28 rfl (lv_at hl 1 rfl) ?_
      refine lv_bipush (v := 12) hx hb dX2_init_29 (by decide) ?_
      refine lv_icmp_ge (tgt := 47) hx hb dX2_init_31 (by decide) (fun _ => ?_) (fun c => absurd c (gv_ge (N := 12) rfl rfl (by omega) (by omega)))
      exact W.vret hx hb hr (fun t ht hW => ⟨⟨((fun k => match k with | 0 => h0 | 1 => q4 | _ => q13), be), rfl, ⟨rfl, fun k hk => hbe k (by omega)⟩, ⟨by show va_P (dC, dI) vwCl _ t.heap; rw [ht]; exact hP, hD⟩⟩, hS.F ht⟩) hS.2.2 dX2_init_47
    | succ n ih =>
      intro i be H locs ls hi hbe hP hD hS hl
      refine lv_iload_n hx hb dX2_init_28 rfl (lv_at hl 1 rfl) ?_
      refine lv_bipush (v := 12) hx hb dX2_init_29 (by decide) ?_
      refine lv_icmp_ge (tgt := 47) hx hb dX2_init_31 (by decide) (fun c => absurd c (gv_lt (N := 12) rfl rfl (by omega) (by omega))) (fun _ => ?_)
      refine lv_aload_n hx hb dX2_init_34 rfl (lv_at hl 0 rfl) ?_
      refine va_get (D := (dC, dI)) (ci := 2) (v := .ref q13) (C := RX2) (T := TX2) (N := 8) hx hb hts inX2 hown hK hP 0 rfl rfl 1 (by decide) (hts (.fieldLink RX2 13 "VineWallModel" "bears" "[I") (List.mem_of_getElem? (i := 6) rfl)) (fun _ h9 => h9) rfl dX2_init_35 ?_
      refine lv_iload_n hx hb dX2_init_38 rfl (lv_at hl 1 rfl) ?_
      refine lv_iconst (v := 5) hx hb dX2_init_39 (by decide) ?_
      refine gv_iast (cA := cI) (k := i) hx hb hK hP hD hS 2 0 rfl rfl rfl (by omega) (by decide) dX2_init_40 (fun H locs hP hD hS => ?_)
      refine lv_iinc (v := (nI (i + 1))) (lv' := [(1, .int (nI (i + 1))), (0, .ref h0)]) hx hb dX2_init_41 hl (k := 1) rfl (nI_1 i) (by decide) rfl (fun ls hl => ?_)
      refine lv_goto (tgt := 28) hx hb dX2_init_44 (by decide) ?_
      exact ih (i + 1) (upd be i 5) _ _ _ (by omega) (fun k hk => gz_fill hbe hk) hP hD hS (lv_sub hl [1, 0] rfl)
  exact L 12 0 (fun _ => 0) _ _ _ rfl (fun k hk => absurd hk (Nat.not_lt_zero k)) hP hD hS (lv_sub hl [1, 0] rfl)
