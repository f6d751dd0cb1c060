/-! The law's loop. -/
theorem lw_more {L k : Nat} (hL : L ≤ 1536) (hk : 3 * k ≤ L) (h : ¬ Int32.ofNat L - 3 < nI (3 * k)) : 3 * k + 3 ≤ L := by
  by_cases h3 : 3 ≤ L
  · rcases Nat.lt_or_ge (L - 3) (3 * k) with q | q
    · have e : Int32.ofNat L - 3 = nI (L - 3) := pk_sub (b := 3) h3
      rw [e] at h
      exact absurd (nI_lt q (by omega)) h
    · omega
  · obtain rfl : k = 0 := by omega
    have e : Int32.ofNat L - 3 < 0 := pk_sneg (a := L) (b := 3) (by decide) (by omega)
    rw [show nI (3 * 0) = 0 by decide] at h
    exact absurd e h
set_option maxHeartbeats 4000000 in
set_option maxRecDepth 100000 in
theorem lw_loop {p : Program} {l : Launch} {e : Env} {s : State} {m : MethodId} {below : List Frame} {meth : Method} {c : Code} {b L : Nat} {xs : Nat → Int32} {dC : Nat → ClassId} {dI : Nat → Nat → Nat} {cI cL : ClassId} {ad am : Nat → Nat} {oa : Nat} (C0 : lw_C p l s m c b L xs dC dI cI cL) (hr : meth.sig.returnType = ret) (hlocks : meth.locks = false) : ∀ (n k : Nat), L < 3 * k + 3 * n → 3 * k ≤ L → lw_J p l e s m below meth c b dC dI cI cL ad am oa k k 23
  | 0, k, h1, h2 => by exact absurd h1 (by omega)
  | n + 1, k, h1, h2 => by
    have ih := fun h3 h4 => lw_loop (e := e) (below := below) (meth := meth) (ad := ad) (am := am) (oa := oa) C0 hr hlocks n (k + 1) h3 h4
    obtain ⟨hx, hb, hml, hown, hts, hX, hbl, hK, hN, hT, hst, hL⟩ := id C0
    have hbA : ¬ (fun q : Nat => s.heap.size ≤ q) b := Nat.not_le.mpr hbl
    intro f0 c0 f1 c1 f2 c2 lo up be si pl cu ge fa ou g bm sim gem cum plm brm th H locs ls hR hP hD hS hl
    refine lv_iload hx hb dL_law_23 (lv_at hl 4 rfl) ?_
    refine lv_aload_n hx hb dL_law_25 rfl (lv_at hl 0 rfl) ?_
    refine va_slen hx hb hX hbl hbA hS dL_law_26 ?_
    refine lv_iconst (v := 3) hx hb dL_law_27 (by decide) ?_
    refine lv_isub hx hb dL_law_28 ?_
    refine lv_icmp_gt (tgt := 829) hx hb dL_law_29 (by decide) (fun cd => ?_) (fun cd => ?_)
    · refine lv_iconst (v := 1) hx hb dL_law_829 (by decide) ?_
      refine va_forget (fun q hq => hS.2.2 q hq) ?_
      refine W.widen (k := 1051) (n := 14424) (by omega) (by omega) ?_
      exact lw_ret hx hb hr hlocks dL_law_830
    · have hk : 3 * k + 3 ≤ L := lw_more hL h2 cd
      have J : lw_J p l e s m below meth c b dC dI cI cL ad am oa k (k + 1) 823 := by
        intro f0 c0 f1 c1 f2 c2 lo up be si pl cu ge fa ou g bm sim gem cum plm brm th H locs ls hR hP hD hS hl
        refine lv_iinc (v := nI (3 * (k + 1))) (lv' := [(4, .int (nI (3 * (k + 1)))), (0, .ref b), (1, .ref (ad 0)), (2, .ref (am 0)), (3, .ref oa)]) hx hb dL_law_823 hl (k := 4) rfl (by rw [show Int32.ofInt 3 = nI 3 by decide, nI_add, Nat.mul_succ]) (by decide) rfl (fun ls hl => ?_)
        refine lv_goto (tgt := 23) hx hb dL_law_826 (by decide) ?_
        exact ih (by omega) (by omega) f0 c0 f1 c1 f2 c2 lo up be si pl cu ge fa ou g bm sim gem cum plm brm th H locs ls hR hP hD hS (lv_sub hl [1, 2, 3, 4, 0] rfl)
      refine lv_aload_n hx hb dL_law_32 rfl (lv_at hl 0 rfl) ?_
      refine lv_iload hx hb dL_law_33 (lv_at hl 4 rfl) ?_
      refine va_sld hx hb hX hbl hbA hS (vp_in_nI (by omega) (by omega)) dL_law_35 ?_
      refine lv_bipush (v := 31) hx hb dL_law_36 (by decide) ?_
      refine lv_iand hx hb dL_law_38 ?_
      obtain ⟨j, hj, ej⟩ := pk_andE (xs (nI (3 * k)).toNatClampNeg) (m := 31) 5 (by decide)
      rw [ej]
      rcases Nat.lt_or_ge j 19 with hj19 | hj19
      · obtain rfl | rfl | rfl | rfl | rfl | rfl | rfl | rfl | rfl | rfl | rfl | rfl | rfl | rfl | rfl | rfl | rfl | rfl | rfl : j = 0 ∨ j = 1 ∨ j = 2 ∨ j = 3 ∨ j = 4 ∨ j = 5 ∨ j = 6 ∨ j = 7 ∨ j = 8 ∨ j = 9 ∨ j = 10 ∨ j = 11 ∨ j = 12 ∨ j = 13 ∨ j = 14 ∨ j = 15 ∨ j = 16 ∨ j = 17 ∨ j = 18 := by omega
        · exact lv_tableIn (off := 89) (tgt := 128) hx hb dL_law_39 (by decide) (by decide) (by decide) (by decide) (lw_c0 C0 hk J f0 c0 f1 c1 f2 c2 lo up be si pl cu ge fa ou g bm sim gem cum plm brm th H locs ls hR hP hD hS hl)
        · exact lv_tableIn (off := 125) (tgt := 164) hx hb dL_law_39 (by decide) (by decide) (by decide) (by decide) (lw_c1 C0 hk J f0 c0 f1 c1 f2 c2 lo up be si pl cu ge fa ou g bm sim gem cum plm brm th H locs ls hR hP hD hS hl)
        · exact lv_tableIn (off := 161) (tgt := 200) hx hb dL_law_39 (by decide) (by decide) (by decide) (by decide) (lw_c2 C0 hk J f0 c0 f1 c1 f2 c2 lo up be si pl cu ge fa ou g bm sim gem cum plm brm th H locs ls hR hP hD hS hl)
        · exact lv_tableIn (off := 229) (tgt := 268) hx hb dL_law_39 (by decide) (by decide) (by decide) (by decide) (lw_c3 C0 hk J f0 c0 f1 c1 f2 c2 lo up be si pl cu ge fa ou g bm sim gem cum plm brm th H locs ls hR hP hD hS hl)
        · exact lv_tableIn (off := 297) (tgt := 336) hx hb dL_law_39 (by decide) (by decide) (by decide) (by decide) (lw_c4 C0 hk J f0 c0 f1 c1 f2 c2 lo up be si pl cu ge fa ou g bm sim gem cum plm brm th H locs ls hR hP hD hS hl)
        · exact lv_tableIn (off := 341) (tgt := 380) hx hb dL_law_39 (by decide) (by decide) (by decide) (by decide) (lw_c5 C0 hk J f0 c0 f1 c1 f2 c2 lo up be si pl cu ge fa ou g bm sim gem cum plm brm th H locs ls hR hP hD hS hl)
        · exact lv_tableIn (off := 409) (tgt := 448) hx hb dL_law_39 (by decide) (by decide) (by decide) (by decide) (lw_c6 C0 hk J f0 c0 f1 c1 f2 c2 lo up be si pl cu ge fa ou g bm sim gem cum plm brm th H locs ls hR hP hD hS hl)
        · exact lv_tableIn (off := 477) (tgt := 516) hx hb dL_law_39 (by decide) (by decide) (by decide) (by decide) (lw_c7 C0 hk J f0 c0 f1 c1 f2 c2 lo up be si pl cu ge fa ou g bm sim gem cum plm brm th H locs ls hR hP hD hS hl)
        · exact lv_tableIn (off := 545) (tgt := 584) hx hb dL_law_39 (by decide) (by decide) (by decide) (by decide) (lw_c8 C0 hk J f0 c0 f1 c1 f2 c2 lo up be si pl cu ge fa ou g bm sim gem cum plm brm th H locs ls hR hP hD hS hl)
        · exact lv_tableIn (off := 613) (tgt := 652) hx hb dL_law_39 (by decide) (by decide) (by decide) (by decide) (lw_c9 C0 hk J f0 c0 f1 c1 f2 c2 lo up be si pl cu ge fa ou g bm sim gem cum plm brm th H locs ls hR hP hD hS hl)
        · exact lv_tableIn (off := 669) (tgt := 708) hx hb dL_law_39 (by decide) (by decide) (by decide) (by decide) (lw_c10 C0 hk J f0 c0 f1 c1 f2 c2 lo up be si pl cu ge fa ou g bm sim gem cum plm brm th H locs ls hR hP hD hS hl)
        · exact lv_tableIn (off := 682) (tgt := 721) hx hb dL_law_39 (by decide) (by decide) (by decide) (by decide) (lw_c11 C0 hk J f0 c0 f1 c1 f2 c2 lo up be si pl cu ge fa ou g bm sim gem cum plm brm th H locs ls hR hP hD hS hl)
        · exact lv_tableIn (off := 695) (tgt := 734) hx hb dL_law_39 (by decide) (by decide) (by decide) (by decide) (lw_c12 C0 hk J f0 c0 f1 c1 f2 c2 lo up be si pl cu ge fa ou g bm sim gem cum plm brm th H locs ls hR hP hD hS hl)
        · exact lv_tableIn (off := 708) (tgt := 747) hx hb dL_law_39 (by decide) (by decide) (by decide) (by decide) (lw_c13 C0 hk J f0 c0 f1 c1 f2 c2 lo up be si pl cu ge fa ou g bm sim gem cum plm brm th H locs ls hR hP hD hS hl)
        · exact lv_tableIn (off := 721) (tgt := 760) hx hb dL_law_39 (by decide) (by decide) (by decide) (by decide) (lw_c14 C0 hk J f0 c0 f1 c1 f2 c2 lo up be si pl cu ge fa ou g bm sim gem cum plm brm th H locs ls hR hP hD hS hl)
        · exact lv_tableIn (off := 734) (tgt := 773) hx hb dL_law_39 (by decide) (by decide) (by decide) (by decide) (lw_c15 C0 hk J f0 c0 f1 c1 f2 c2 lo up be si pl cu ge fa ou g bm sim gem cum plm brm th H locs ls hR hP hD hS hl)
        · exact lv_tableIn (off := 747) (tgt := 786) hx hb dL_law_39 (by decide) (by decide) (by decide) (by decide) (lw_c16 C0 hk J f0 c0 f1 c1 f2 c2 lo up be si pl cu ge fa ou g bm sim gem cum plm brm th H locs ls hR hP hD hS hl)
        · exact lv_tableIn (off := 760) (tgt := 799) hx hb dL_law_39 (by decide) (by decide) (by decide) (by decide) (lw_c17 C0 hk J f0 c0 f1 c1 f2 c2 lo up be si pl cu ge fa ou g bm sim gem cum plm brm th H locs ls hR hP hD hS hl)
        · exact lv_tableIn (off := 773) (tgt := 812) hx hb dL_law_39 (by decide) (by decide) (by decide) (by decide) (lw_c18 C0 hk J f0 c0 f1 c1 f2 c2 lo up be si pl cu ge fa ou g bm sim gem cum plm brm th H locs ls hR hP hD hS hl)
      · refine lv_tableOut (tgt := 823) hx hb dL_law_39 (Or.inr (by rw [nI_toInt (by omega)]; omega)) (by decide) ?_
        refine W.widen (k := 17 + 2 * (k + 1)) (n := 6172 + 12 * (k + 1)) (by omega) (by omega) ?_
        exact J f0 c0 f1 c1 f2 c2 lo up be si pl cu ge fa ou g bm sim gem cum plm brm th H locs ls hR hP hD hS hl
