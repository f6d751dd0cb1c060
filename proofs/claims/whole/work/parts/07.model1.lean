/-! what a passed test of a place says -/
theorem gm_col {q a : Int32} (hq : q = spX2_isColumn a) (h : ¬ q = 0) : vp_in a 12 := by
  subst hq
  unfold spX2_isColumn at h
  by_cases h1 : a < 0
  · rw [if_pos h1] at h; exact absurd rfl h
  rw [if_neg h1] at h
  by_cases h2 : (12 : Int32) ≤ a
  · rw [if_pos h2] at h; exact absurd rfl h
  exact gv_in8 h1 (rfl : (12 : Int32) = nI 12) (by decide) h2
theorem gm_cellM {q a b : Int32} (hq : q = spX2_isCell a b) (h : ¬ q = 0) : vp_in a 8 ∧ vp_in b 12 := by
  subst hq
  unfold spX2_isCell gv_b at h
  dsimp only at h
  by_cases h1 : a < 0
  · rw [if_pos h1] at h; exact absurd rfl h
  rw [if_neg h1] at h
  by_cases h2 : (8 : Int32) ≤ a
  · rw [if_pos h2] at h; exact absurd rfl h
  rw [if_neg h2] at h
  refine ⟨gv_in8 h1 (rfl : (8 : Int32) = nI 8) (by decide) h2, gm_col rfl (fun h3 => ?_)⟩
  rw [if_pos h3] at h
  exact h rfl
theorem gm_up {x : Int32} {n m : Nat} (h : vp_in x n) (hnm : n ≤ m) : vp_in x m := by
  rw [vp_in_iff] at h ⊢
  omega
theorem gm_nat {x : Int32} {n : Nat} (h : vp_in x n) (hn : n < 2 ^ 31) : x = nI x.toNatClampNeg ∧ x.toNatClampNeg < n := by
  obtain ⟨j, h1, h2⟩ := vp_in_of h hn
  subst h2
  rw [nI_clamp (Nat.lt_trans h1 hn)]
  exact ⟨rfl, h1⟩
theorem gm_ix2 {a b : Int32} (h1 : vp_in a 8) (h2 : vp_in b 12) : vp_in (12 * a + b) 5952 := by
  obtain ⟨j, hj, rfl⟩ := vp_in_of h1 (by decide)
  obtain ⟨k, hk, rfl⟩ := vp_in_of h2 (by decide)
  rw [gn_add (gn_mul (a := 12) (rfl : (12 : Int32) = nI 12) rfl) rfl]
  exact vp_in_nI (by omega) (by decide)
theorem gm_ix3 {w : Nat} {a b : Int32} (hw : w < 62) (h1 : vp_in a 8) (h2 : vp_in b 12) : vp_in (96 * nI w + 12 * a + b) 5952 := by
  obtain ⟨j, hj, rfl⟩ := vp_in_of h1 (by decide)
  obtain ⟨k, hk, rfl⟩ := vp_in_of h2 (by decide)
  rw [gn_add (gn_add (gn_mul (a := 96) (rfl : (96 : Int32) = nI 96) rfl) (gn_mul (a := 12) (rfl : (12 : Int32) = nI 12) rfl)) rfl]
  exact vp_in_nI (by omega) (by decide)
theorem gm_8 {a : Int32} (h1 : ¬ a < 0) (h2 : ¬ (8 : Int32) ≤ a) : vp_in a 8 := gv_in8 h1 (rfl : (8 : Int32) = nI 8) (by decide) h2
theorem gm_c0 : vp_in 0 12 := vp_in_nI (n := 0) (by decide) (by decide)
theorem gm_c11 : vp_in 11 12 := vp_in_nI (n := 11) (by decide) (by decide)
theorem gm_rem {x : Int32} (h : ¬ x - x / 12 * 12 < 0) : vp_in (x - x / 12 * 12) 12 := by
  rw [vp_in_iff, rem_toInt]
  rw [Int32.lt_iff_toInt_lt, rem_toInt] at h
  have h0 : (0 : Int32).toInt = 0 := rfl
  have h12 : (12 : Int32).toInt = 12 := rfl
  rw [h12] at h ⊢
  have := Int.tmod_lt_of_pos x.toInt (show (0 : Int) < 12 by decide)
  omega

def spX2_leafAt (g : Nat → Int32) (be : Nat → Int32) (si : Int32) (ge : Int32) (cu : Int32) (pl : Int32) (br : Int32) (th : Int32) (w1 : Nat) (p2 : Int32) (p3 : Int32) : Int32 := gv_b (spX2_isColumn p3) (fun q4 => (if q4 = 0 then (if si = 1 then (if p2 < 0 then 0 else (if 8 ≤ p2 then 0 else (if ((p3 + 12) - (p3 + 12) / 12 * 12) < 0 then 0 else (if (g (((96 * (nI w1)) + (12 * p2)) + ((p3 + 12) - (p3 + 12) / 12 * 12)).toNatClampNeg) = 1 then 1 else 0)))) else (if si = 2 then (if 0 ≤ p3 then (if p2 < 0 then 0 else (if 8 ≤ p2 then 0 else (if (g (((96 * (nI w1)) + (12 * p2)) + 11).toNatClampNeg) = 1 then 1 else 0))) else (if p2 < 0 then 0 else (if 8 ≤ p2 then 0 else (if (g (((96 * (nI w1)) + (12 * p2)) + 0).toNatClampNeg) = 1 then 1 else 0)))) else (if p2 < 0 then 0 else (if 8 ≤ p2 then 0 else 0)))) else (if p2 < 0 then 0 else (if 8 ≤ p2 then 0 else (if p3 < 0 then 0 else (if (g (((96 * (nI w1)) + (12 * p2)) + p3).toNatClampNeg) = 1 then 1 else 0))))))
theorem spX2_leafAt_e (g : Nat → Int32) (be : Nat → Int32) (si : Int32) (ge : Int32) (cu : Int32) (pl : Int32) (br : Int32) (th : Int32) (w1 : Nat) (p2 : Int32) (p3 : Int32) : spX2_leafAt g be si ge cu pl br th w1 p2 p3 = gv_b (spX2_isColumn p3) (fun q4 => (if q4 = 0 then (if si = 1 then (if p2 < 0 then 0 else (if 8 ≤ p2 then 0 else (if ((p3 + 12) - (p3 + 12) / 12 * 12) < 0 then 0 else (if (g (((96 * (nI w1)) + (12 * p2)) + ((p3 + 12) - (p3 + 12) / 12 * 12)).toNatClampNeg) = 1 then 1 else 0)))) else (if si = 2 then (if 0 ≤ p3 then (if p2 < 0 then 0 else (if 8 ≤ p2 then 0 else (if (g (((96 * (nI w1)) + (12 * p2)) + 11).toNatClampNeg) = 1 then 1 else 0))) else (if p2 < 0 then 0 else (if 8 ≤ p2 then 0 else (if (g (((96 * (nI w1)) + (12 * p2)) + 0).toNatClampNeg) = 1 then 1 else 0)))) else (if p2 < 0 then 0 else (if 8 ≤ p2 then 0 else 0)))) else (if p2 < 0 then 0 else (if 8 ≤ p2 then 0 else (if p3 < 0 then 0 else (if (g (((96 * (nI w1)) + (12 * p2)) + p3).toNatClampNeg) = 1 then 1 else 0)))))) := rfl
set_option maxHeartbeats 4000000 in
set_option maxRecDepth 100000 in
theorem kX2_leafAt (l : Launch) (dC : Nat → ClassId) (dI : Nat → Nat → Nat) (cI cL : ClassId) (am : Nat → Nat) (g : Nat → Int32) (be : Nat → Int32) (si : Int32) (ge : Int32) (cu : Int32) (pl : Int32) (br : Int32) (th : Int32) (p1 : Int32) (w1 : Nat) (hw1 : p1 = nI w1) (p2 : Int32) (p3 : Int32) (hy0 : w1 < 62) : gv_Mi l yX2_leafAt wsX2_leafAt 1 20 (dC, dI) [(cI, .int), (cL, .long)] [.ref (am 0), .int p1, .int p2, .int p3] (gv_M cI am g be si ge cu pl br th) (fun (r : Int32) (_ : Unit) => r = spX2_leafAt g be si ge cu pl br th w1 p2 p3) (fun (_ : Unit) => (gv_M cI am g be si ge cu pl br th)) := by
  subst hw1
  refine gv_ofi (cc := cX2_leafAt) (maxL := 5) (own := RX2) (by decide) rfl (Nat.le_of_ble_eq_true rfl) rfl ?_
  intro A p e s m args below meth c Q ls H locs hx hb hml hts hown hP hK hD hN hS hl kr
  have inX2 : ∀ w ∈ wsX20, w ∈ wsX2_leafAt := (fun _ h => List.mem_cons_of_mem _ (List.mem_append_right _ h))
  have hl : lv_has ls 5 [(0, .ref (am 0)), (1, .int (nI w1)), (2, .int p2), (3, .int p3)] := hl
  have he := (spX2_leafAt_e g be si ge cu pl br th w1 p2 p3).symm
  refine lv_iload_n hx hb dX2_leafAt_0 rfl (lv_at hl 3 rfl) ?_
  refine lv_istore (lv' := [(4, .int p3), (0, .ref (am 0)), (1, .int (nI w1)), (2, .int p2), (3, .int p3)]) hx hb dX2_leafAt_1 hl (by decide) rfl (fun ls hl => ?_)
  refine lv_iload_n hx hb dX2_leafAt_3 rfl (lv_at hl 4 rfl) ?_
  have hPc : va_P (dC, dI) vwCl ([] : va_W) H := gv_P0
  have hDc : va_D (gv_in ([] : va_W)) ([] : va_W) := gv_D0
  refine gv_ki (wf := (fun (_ : Unit) => ([] : va_W))) (wc := ([] : va_W)) [] (fun _ => rfl) hP hD hS rfl rfl (va_runS (As := [.int p3]) (rest := []) ⟨hx, hb, hml, hown, hts⟩ (kX2_isColumn l dC dI cI cL p3 (gv_in ([] : va_W))) (va_cwS (rm := gv_R 0 0) 1 hts gX2_leafAt_X2_isColumn rfl rfl rfl (by decide +kernel) ⟨Nat.le_of_ble_eq_true rfl, Nat.le_of_ble_eq_true rfl⟩) (gv_preS hK hPc hDc hN) rfl rfl hl.1 rfl (lv_room (Nat.le_of_ble_eq_true rfl)) dX2_leafAt_4 ⟨Nat.zero_le _, Nat.zero_le _⟩) (fun q4 u H locs hw hP hD hS => ?_)
  have he := gv_q hw he
  have hP : va_P (dC, dI) vwCl (gv_M cI am g be si ge cu pl br th) H := hP
  have hD : va_D A (gv_M cI am g be si ge cu pl br th) := hD
  refine lv_if_ne (tgt := 52) hx hb dX2_leafAt_7 (by decide) (fun cd7 => ?_) (fun cd7 => ?_)
  · have he := gv_f cd7 he
    refine lv_iload_n hx hb dX2_leafAt_52 rfl (lv_at hl 3 rfl) ?_
    refine lv_if_lt (tgt := 92) hx hb dX2_leafAt_53 (by decide) (fun cd53 => ?_) (fun cd53 => ?_)
    · have he := gv_t cd53 he
      refine lv_iconst (v := 0) hx hb dX2_leafAt_92 (by decide) ?_
      exact kr 0 () _ _ _ _ he hP hS dX2_leafAt_93
    · have he := gv_f cd53 he
      refine lv_iload_n hx hb dX2_leafAt_56 rfl (lv_at hl 3 rfl) ?_
      refine lv_bipush (v := 8) hx hb dX2_leafAt_57 (by decide) ?_
      refine lv_icmp_ge (tgt := 92) hx hb dX2_leafAt_59 (by decide) (fun cd59 => ?_) (fun cd59 => ?_)
      · have he := gv_t cd59 he
        refine lv_iconst (v := 0) hx hb dX2_leafAt_92 (by decide) ?_
        exact kr 0 () _ _ _ _ he hP hS dX2_leafAt_93
      · have he := gv_f cd59 he
        refine lv_iload hx hb dX2_leafAt_62 (lv_at hl 0 rfl) ?_
        refine lv_if_lt (tgt := 92) hx hb dX2_leafAt_64 (by decide) (fun cd64 => ?_) (fun cd64 => ?_)
        · have he := gv_t cd64 he
          refine lv_iconst (v := 0) hx hb dX2_leafAt_92 (by decide) ?_
          exact kr 0 () _ _ _ _ he hP hS dX2_leafAt_93
        · have he := gv_f cd64 he
          have hv8 := gm_ix3 hy0 (gm_8 cd53 cd59) (gm_col hw cd7)
          refine lv_aload_n hx hb dX2_leafAt_67 rfl (lv_at hl 1 rfl) ?_
          refine va_get (D := (dC, dI)) (ci := 2) (v := .ref (am 1)) (C := RX2) (T := TX2) (N := 8) hx hb hts inX2 hown hK hP 0 rfl rfl 0 (by decide) (hts (.fieldLink RX2 7 "VineWallModel" "walls" "[I") (List.mem_of_getElem? (i := 2) rfl)) (fun _ h9 => h9) rfl dX2_leafAt_68 ?_
          refine lv_bipush (v := 96) hx hb dX2_leafAt_71 (by decide) ?_
          refine lv_iload_n hx hb dX2_leafAt_73 rfl (lv_at hl 2 rfl) ?_
          refine lv_imul hx hb dX2_leafAt_74 ?_
          refine lv_bipush (v := 12) hx hb dX2_leafAt_75 (by decide) ?_
          refine lv_iload_n hx hb dX2_leafAt_77 rfl (lv_at hl 3 rfl) ?_
          refine lv_imul hx hb dX2_leafAt_78 ?_
          refine lv_iadd hx hb dX2_leafAt_79 ?_
          refine lv_iload hx hb dX2_leafAt_80 (lv_at hl 0 rfl) ?_
          refine lv_iadd hx hb dX2_leafAt_82 ?_
          refine va_iald (cA := cI) hx hb hK hP 1 0 rfl rfl hv8 dX2_leafAt_83 ?_
          refine lv_iconst (v := 1) hx hb dX2_leafAt_84 (by decide) ?_
          refine lv_icmp_ne (tgt := 92) hx hb dX2_leafAt_85 (by decide) (fun cd85 => ?_) (fun cd85 => ?_)
          · have he := gv_f cd85 he
            refine lv_iconst (v := 0) hx hb dX2_leafAt_92 (by decide) ?_
            exact kr 0 () _ _ _ _ he hP hS dX2_leafAt_93
          · have he := gv_t cd85 he
            refine lv_iconst (v := 1) hx hb dX2_leafAt_88 (by decide) ?_
            refine lv_goto (tgt := 93) hx hb dX2_leafAt_89 (by decide) ?_
            exact kr 1 () _ _ _ _ he hP hS dX2_leafAt_93
  · have he := gv_t cd7 he
    refine lv_aload_n hx hb dX2_leafAt_10 rfl (lv_at hl 1 rfl) ?_
    refine va_get (D := (dC, dI)) (ci := 2) (v := .int si) (C := RX2) (T := TX2) (N := 8) hx hb hts inX2 hown hK hP 0 rfl rfl 2 (by decide) (hts (.fieldLink RX2 27 "VineWallModel" "side" "I") (List.mem_of_getElem? (i := 1) rfl)) (fun _ h9 => h9) rfl dX2_leafAt_11 ?_
    refine lv_iconst (v := 1) hx hb dX2_leafAt_14 (by decide) ?_
    refine lv_icmp_ne (tgt := 28) hx hb dX2_leafAt_15 (by decide) (fun cd15 => ?_) (fun cd15 => ?_)
    · have he := gv_f cd15 he
      refine lv_aload_n hx hb dX2_leafAt_28 rfl (lv_at hl 1 rfl) ?_
      refine va_get (D := (dC, dI)) (ci := 2) (v := .int si) (C := RX2) (T := TX2) (N := 8) hx hb hts inX2 hown hK hP 0 rfl rfl 2 (by decide) (hts (.fieldLink RX2 27 "VineWallModel" "side" "I") (List.mem_of_getElem? (i := 1) rfl)) (fun _ h9 => h9) rfl dX2_leafAt_29 ?_
      refine lv_iconst (v := 2) hx hb dX2_leafAt_32 (by decide) ?_
      refine lv_icmp_ne (tgt := 49) hx hb dX2_leafAt_33 (by decide) (fun cd33 => ?_) (fun cd33 => ?_)
      · have he := gv_f cd33 he
        refine lv_iconst (v := (-1)) hx hb dX2_leafAt_49 (by decide) ?_
        refine lv_istore (lv' := [(4, .int (-1)), (0, .ref (am 0)), (1, .int (nI w1)), (2, .int p2), (3, .int p3)]) hx hb dX2_leafAt_50 hl (by decide) rfl (fun ls hl => ?_)
        refine lv_iload_n hx hb dX2_leafAt_52 rfl (lv_at hl 3 rfl) ?_
        refine lv_if_lt (tgt := 92) hx hb dX2_leafAt_53 (by decide) (fun cd53 => ?_) (fun cd53 => ?_)
        · have he := gv_t cd53 he
          refine lv_iconst (v := 0) hx hb dX2_leafAt_92 (by decide) ?_
          exact kr 0 () _ _ _ _ he hP hS dX2_leafAt_93
        · have he := gv_f cd53 he
          refine lv_iload_n hx hb dX2_leafAt_56 rfl (lv_at hl 3 rfl) ?_
          refine lv_bipush (v := 8) hx hb dX2_leafAt_57 (by decide) ?_
          refine lv_icmp_ge (tgt := 92) hx hb dX2_leafAt_59 (by decide) (fun cd59 => ?_) (fun cd59 => ?_)
          · have he := gv_t cd59 he
            refine lv_iconst (v := 0) hx hb dX2_leafAt_92 (by decide) ?_
            exact kr 0 () _ _ _ _ he hP hS dX2_leafAt_93
          · have he := gv_f cd59 he
            refine lv_iload hx hb dX2_leafAt_62 (lv_at hl 0 rfl) ?_
            refine lv_if_lt (tgt := 92) hx hb dX2_leafAt_64 (by decide) (fun _ => ?_) (fun c => absurd (by decide) c)
            refine lv_iconst (v := 0) hx hb dX2_leafAt_92 (by decide) ?_
            exact kr 0 () _ _ _ _ he hP hS dX2_leafAt_93
      · have he := gv_t cd33 he
        refine lv_iload_n hx hb dX2_leafAt_36 rfl (lv_at hl 4 rfl) ?_
        refine lv_if_ge (tgt := 44) hx hb dX2_leafAt_37 (by decide) (fun cd37 => ?_) (fun cd37 => ?_)
        · have he := gv_t cd37 he
          refine lv_bipush (v := 11) hx hb dX2_leafAt_44 (by decide) ?_
          refine lv_goto (tgt := 50) hx hb dX2_leafAt_46 (by decide) ?_
          refine lv_istore (lv' := [(4, .int 11), (0, .ref (am 0)), (1, .int (nI w1)), (2, .int p2), (3, .int p3)]) hx hb dX2_leafAt_50 hl (by decide) rfl (fun ls hl => ?_)
          refine lv_iload_n hx hb dX2_leafAt_52 rfl (lv_at hl 3 rfl) ?_
          refine lv_if_lt (tgt := 92) hx hb dX2_leafAt_53 (by decide) (fun cd53 => ?_) (fun cd53 => ?_)
          · have he := gv_t cd53 he
            refine lv_iconst (v := 0) hx hb dX2_leafAt_92 (by decide) ?_
            exact kr 0 () _ _ _ _ he hP hS dX2_leafAt_93
          · have he := gv_f cd53 he
            refine lv_iload_n hx hb dX2_leafAt_56 rfl (lv_at hl 3 rfl) ?_
            refine lv_bipush (v := 8) hx hb dX2_leafAt_57 (by decide) ?_
            refine lv_icmp_ge (tgt := 92) hx hb dX2_leafAt_59 (by decide) (fun cd59 => ?_) (fun cd59 => ?_)
            · have he := gv_t cd59 he
              refine lv_iconst (v := 0) hx hb dX2_leafAt_92 (by decide) ?_
              exact kr 0 () _ _ _ _ he hP hS dX2_leafAt_93
            · have he := gv_f cd59 he
              refine lv_iload hx hb dX2_leafAt_62 (lv_at hl 0 rfl) ?_
              refine lv_if_lt (tgt := 92) hx hb dX2_leafAt_64 (by decide) (fun c => absurd c (by decide)) (fun _ => ?_)
              have hv8 := gm_ix3 hy0 (gm_8 cd53 cd59) gm_c11
              refine lv_aload_n hx hb dX2_leafAt_67 rfl (lv_at hl 1 rfl) ?_
              refine va_get (D := (dC, dI)) (ci := 2) (v := .ref (am 1)) (C := RX2) (T := TX2) (N := 8) hx hb hts inX2 hown hK hP 0 rfl rfl 0 (by decide) (hts (.fieldLink RX2 7 "VineWallModel" "walls" "[I") (List.mem_of_getElem? (i := 2) rfl)) (fun _ h9 => h9) rfl dX2_leafAt_68 ?_
              refine lv_bipush (v := 96) hx hb dX2_leafAt_71 (by decide) ?_
              refine lv_iload_n hx hb dX2_leafAt_73 rfl (lv_at hl 2 rfl) ?_
              refine lv_imul hx hb dX2_leafAt_74 ?_
              refine lv_bipush (v := 12) hx hb dX2_leafAt_75 (by decide) ?_
              refine lv_iload_n hx hb dX2_leafAt_77 rfl (lv_at hl 3 rfl) ?_
              refine lv_imul hx hb dX2_leafAt_78 ?_
              refine lv_iadd hx hb dX2_leafAt_79 ?_
              refine lv_iload hx hb dX2_leafAt_80 (lv_at hl 0 rfl) ?_
              refine lv_iadd hx hb dX2_leafAt_82 ?_
              refine va_iald (cA := cI) hx hb hK hP 1 0 rfl rfl hv8 dX2_leafAt_83 ?_
              refine lv_iconst (v := 1) hx hb dX2_leafAt_84 (by decide) ?_
              refine lv_icmp_ne (tgt := 92) hx hb dX2_leafAt_85 (by decide) (fun cd85 => ?_) (fun cd85 => ?_)
              · have he := gv_f cd85 he
                refine lv_iconst (v := 0) hx hb dX2_leafAt_92 (by decide) ?_
                exact kr 0 () _ _ _ _ he hP hS dX2_leafAt_93
              · have he := gv_t cd85 he
                refine lv_iconst (v := 1) hx hb dX2_leafAt_88 (by decide) ?_
                refine lv_goto (tgt := 93) hx hb dX2_leafAt_89 (by decide) ?_
                exact kr 1 () _ _ _ _ he hP hS dX2_leafAt_93
        · have he := gv_f cd37 he
          refine lv_iconst (v := 0) hx hb dX2_leafAt_40 (by decide) ?_
          refine lv_goto (tgt := 50) hx hb dX2_leafAt_41 (by decide) ?_
          refine lv_istore (lv' := [(4, .int 0), (0, .ref (am 0)), (1, .int (nI w1)), (2, .int p2), (3, .int p3)]) hx hb dX2_leafAt_50 hl (by decide) rfl (fun ls hl => ?_)
          refine lv_iload_n hx hb dX2_leafAt_52 rfl (lv_at hl 3 rfl) ?_
          refine lv_if_lt (tgt := 92) hx hb dX2_leafAt_53 (by decide) (fun cd53 => ?_) (fun cd53 => ?_)
          · have he := gv_t cd53 he
            refine lv_iconst (v := 0) hx hb dX2_leafAt_92 (by decide) ?_
            exact kr 0 () _ _ _ _ he hP hS dX2_leafAt_93
          · have he := gv_f cd53 he
            refine lv_iload_n hx hb dX2_leafAt_56 rfl (lv_at hl 3 rfl) ?_
            refine lv_bipush (v := 8) hx hb dX2_leafAt_57 (by decide) ?_
            refine lv_icmp_ge (tgt := 92) hx hb dX2_leafAt_59 (by decide) (fun cd59 => ?_) (fun cd59 => ?_)
            · have he := gv_t cd59 he
              refine lv_iconst (v := 0) hx hb dX2_leafAt_92 (by decide) ?_
              exact kr 0 () _ _ _ _ he hP hS dX2_leafAt_93
            · have he := gv_f cd59 he
              refine lv_iload hx hb dX2_leafAt_62 (lv_at hl 0 rfl) ?_
              refine lv_if_lt (tgt := 92) hx hb dX2_leafAt_64 (by decide) (fun c => absurd c (by decide)) (fun _ => ?_)
              have hv8 := gm_ix3 hy0 (gm_8 cd53 cd59) gm_c0
              refine lv_aload_n hx hb dX2_leafAt_67 rfl (lv_at hl 1 rfl) ?_
              refine va_get (D := (dC, dI)) (ci := 2) (v := .ref (am 1)) (C := RX2) (T := TX2) (N := 8) hx hb hts inX2 hown hK hP 0 rfl rfl 0 (by decide) (hts (.fieldLink RX2 7 "VineWallModel" "walls" "[I") (List.mem_of_getElem? (i := 2) rfl)) (fun _ h9 => h9) rfl dX2_leafAt_68 ?_
              refine lv_bipush (v := 96) hx hb dX2_leafAt_71 (by decide) ?_
              refine lv_iload_n hx hb dX2_leafAt_73 rfl (lv_at hl 2 rfl) ?_
              refine lv_imul hx hb dX2_leafAt_74 ?_
              refine lv_bipush (v := 12) hx hb dX2_leafAt_75 (by decide) ?_
              refine lv_iload_n hx hb dX2_leafAt_77 rfl (lv_at hl 3 rfl) ?_
              refine lv_imul hx hb dX2_leafAt_78 ?_
              refine lv_iadd hx hb dX2_leafAt_79 ?_
              refine lv_iload hx hb dX2_leafAt_80 (lv_at hl 0 rfl) ?_
              refine lv_iadd hx hb dX2_leafAt_82 ?_
              refine va_iald (cA := cI) hx hb hK hP 1 0 rfl rfl hv8 dX2_leafAt_83 ?_
              refine lv_iconst (v := 1) hx hb dX2_leafAt_84 (by decide) ?_
              refine lv_icmp_ne (tgt := 92) hx hb dX2_leafAt_85 (by decide) (fun cd85 => ?_) (fun cd85 => ?_)
              · have he := gv_f cd85 he
                refine lv_iconst (v := 0) hx hb dX2_leafAt_92 (by decide) ?_
                exact kr 0 () _ _ _ _ he hP hS dX2_leafAt_93
              · have he := gv_t cd85 he
                refine lv_iconst (v := 1) hx hb dX2_leafAt_88 (by decide) ?_
                refine lv_goto (tgt := 93) hx hb dX2_leafAt_89 (by decide) ?_
                exact kr 1 () _ _ _ _ he hP hS dX2_leafAt_93
    · have he := gv_t cd15 he
      refine lv_iload_n hx hb dX2_leafAt_18 rfl (lv_at hl 4 rfl) ?_
      refine lv_bipush (v := 12) hx hb dX2_leafAt_19 (by decide) ?_
      refine lv_iadd hx hb dX2_leafAt_21 ?_
      refine lv_bipush (v := 12) hx hb dX2_leafAt_22 (by decide) ?_
      refine lv_irem hx hb dX2_leafAt_24 (by decide) ?_
      refine lv_goto (tgt := 50) hx hb dX2_leafAt_25 (by decide) ?_
      refine lv_istore (lv' := [(4, .int ((p3 + 12) - (p3 + 12) / 12 * 12)), (0, .ref (am 0)), (1, .int (nI w1)), (2, .int p2), (3, .int p3)]) hx hb dX2_leafAt_50 hl (by decide) rfl (fun ls hl => ?_)
      refine lv_iload_n hx hb dX2_leafAt_52 rfl (lv_at hl 3 rfl) ?_
      refine lv_if_lt (tgt := 92) hx hb dX2_leafAt_53 (by decide) (fun cd53 => ?_) (fun cd53 => ?_)
      · have he := gv_t cd53 he
        refine lv_iconst (v := 0) hx hb dX2_leafAt_92 (by decide) ?_
        exact kr 0 () _ _ _ _ he hP hS dX2_leafAt_93
      · have he := gv_f cd53 he
        refine lv_iload_n hx hb dX2_leafAt_56 rfl (lv_at hl 3 rfl) ?_
        refine lv_bipush (v := 8) hx hb dX2_leafAt_57 (by decide) ?_
        refine lv_icmp_ge (tgt := 92) hx hb dX2_leafAt_59 (by decide) (fun cd59 => ?_) (fun cd59 => ?_)
        · have he := gv_t cd59 he
          refine lv_iconst (v := 0) hx hb dX2_leafAt_92 (by decide) ?_
          exact kr 0 () _ _ _ _ he hP hS dX2_leafAt_93
        · have he := gv_f cd59 he
          refine lv_iload hx hb dX2_leafAt_62 (lv_at hl 0 rfl) ?_
          refine lv_if_lt (tgt := 92) hx hb dX2_leafAt_64 (by decide) (fun cd64 => ?_) (fun cd64 => ?_)
          · have he := gv_t cd64 he
            refine lv_iconst (v := 0) hx hb dX2_leafAt_92 (by decide) ?_
            exact kr 0 () _ _ _ _ he hP hS dX2_leafAt_93
          · have he := gv_f cd64 he
            have hv8 := gm_ix3 hy0 (gm_8 cd53 cd59) (gm_rem cd64)
            refine lv_aload_n hx hb dX2_leafAt_67 rfl (lv_at hl 1 rfl) ?_
            refine va_get (D := (dC, dI)) (ci := 2) (v := .ref (am 1)) (C := RX2) (T := TX2) (N := 8) hx hb hts inX2 hown hK hP 0 rfl rfl 0 (by decide) (hts (.fieldLink RX2 7 "VineWallModel" "walls" "[I") (List.mem_of_getElem? (i := 2) rfl)) (fun _ h9 => h9) rfl dX2_leafAt_68 ?_
            refine lv_bipush (v := 96) hx hb dX2_leafAt_71 (by decide) ?_
            refine lv_iload_n hx hb dX2_leafAt_73 rfl (lv_at hl 2 rfl) ?_
            refine lv_imul hx hb dX2_leafAt_74 ?_
            refine lv_bipush (v := 12) hx hb dX2_leafAt_75 (by decide) ?_
            refine lv_iload_n hx hb dX2_leafAt_77 rfl (lv_at hl 3 rfl) ?_
            refine lv_imul hx hb dX2_leafAt_78 ?_
            refine lv_iadd hx hb dX2_leafAt_79 ?_
            refine lv_iload hx hb dX2_leafAt_80 (lv_at hl 0 rfl) ?_
            refine lv_iadd hx hb dX2_leafAt_82 ?_
            refine va_iald (cA := cI) hx hb hK hP 1 0 rfl rfl hv8 dX2_leafAt_83 ?_
            refine lv_iconst (v := 1) hx hb dX2_leafAt_84 (by decide) ?_
            refine lv_icmp_ne (tgt := 92) hx hb dX2_leafAt_85 (by decide) (fun cd85 => ?_) (fun cd85 => ?_)
            · have he := gv_f cd85 he
              refine lv_iconst (v := 0) hx hb dX2_leafAt_92 (by decide) ?_
              exact kr 0 () _ _ _ _ he hP hS dX2_leafAt_93
            · have he := gv_t cd85 he
              refine lv_iconst (v := 1) hx hb dX2_leafAt_88 (by decide) ?_
              refine lv_goto (tgt := 93) hx hb dX2_leafAt_89 (by decide) ?_
              exact kr 1 () _ _ _ _ he hP hS dX2_leafAt_93
def spX2_threeIn (g : Nat → Int32) (be : Nat → Int32) (si : Int32) (ge : Int32) (cu : Int32) (pl : Int32) (br : Int32) (th : Int32) (w1 : Nat) (p2 : Int32) (p3 : Int32) : Int32 := gv_b (spX2_leafAt g be si ge cu pl br th w1 p2 (p3 - 1)) (fun q6 => gv_b (spX2_leafAt g be si ge cu pl br th w1 p2 p3) (fun q13 => gv_b (spX2_leafAt g be si ge cu pl br th w1 p2 (p3 + 1)) (fun q23 => (q6 + q13) + q23)))
theorem spX2_threeIn_e (g : Nat → Int32) (be : Nat → Int32) (si : Int32) (ge : Int32) (cu : Int32) (pl : Int32) (br : Int32) (th : Int32) (w1 : Nat) (p2 : Int32) (p3 : Int32) : spX2_threeIn g be si ge cu pl br th w1 p2 p3 = gv_b (spX2_leafAt g be si ge cu pl br th w1 p2 (p3 - 1)) (fun q6 => gv_b (spX2_leafAt g be si ge cu pl br th w1 p2 p3) (fun q13 => gv_b (spX2_leafAt g be si ge cu pl br th w1 p2 (p3 + 1)) (fun q23 => (q6 + q13) + q23))) := rfl
set_option maxHeartbeats 4000000 in
set_option maxRecDepth 100000 in
theorem kX2_threeIn (l : Launch) (dC : Nat → ClassId) (dI : Nat → Nat → Nat) (cI cL : ClassId) (am : Nat → Nat) (g : Nat → Int32) (be : Nat → Int32) (si : Int32) (ge : Int32) (cu : Int32) (pl : Int32) (br : Int32) (th : Int32) (p1 : Int32) (w1 : Nat) (hw1 : p1 = nI w1) (p2 : Int32) (p3 : Int32) (hy0 : w1 < 62) : gv_Mi l yX2_threeIn wsX2_threeIn 2 44 (dC, dI) [(cI, .int), (cL, .long)] [.ref (am 0), .int p1, .int p2, .int p3] (gv_M cI am g be si ge cu pl br th) (fun (r : Int32) (_ : Unit) => r = spX2_threeIn g be si ge cu pl br th w1 p2 p3) (fun (_ : Unit) => (gv_M cI am g be si ge cu pl br th)) := by
  subst hw1
  refine gv_ofi (cc := cX2_threeIn) (maxL := 4) (own := RX2) (by decide) rfl (Nat.le_of_ble_eq_true rfl) rfl ?_
  intro A p e s m args below meth c Q ls H locs hx hb hml hts hown hP hK hD hN hS hl kr
  have inX2 : ∀ w ∈ wsX20, w ∈ wsX2_threeIn := (fun _ h => List.mem_cons_of_mem _ (List.mem_append_right _ h))
  have hl : lv_has ls 4 [(0, .ref (am 0)), (1, .int (nI w1)), (2, .int p2), (3, .int p3)] := hl
  have he := (spX2_threeIn_e g be si ge cu pl br th w1 p2 p3).symm
  refine lv_aload_n hx hb dX2_threeIn_0 rfl (lv_at hl 0 rfl) ?_
  refine lv_iload_n hx hb dX2_threeIn_1 rfl (lv_at hl 1 rfl) ?_
  refine lv_iload_n hx hb dX2_threeIn_2 rfl (lv_at hl 2 rfl) ?_
  refine lv_iload_n hx hb dX2_threeIn_3 rfl (lv_at hl 3 rfl) ?_
  refine lv_iconst (v := 1) hx hb dX2_threeIn_4 (by decide) ?_
  refine lv_isub hx hb dX2_threeIn_5 ?_
  have hPc : va_P (dC, dI) vwCl (gv_M cI am g be si ge cu pl br th) H := gv_sub [0, 1, 2] hP rfl
  have hDc : va_D (gv_in (gv_M cI am g be si ge cu pl br th)) (gv_M cI am g be si ge cu pl br th) := gv_D hD [0, 1, 2] (by decide) rfl
  refine gv_ki (wf := (fun (_ : Unit) => (gv_M cI am g be si ge cu pl br th))) (wc := (gv_M cI am g be si ge cu pl br th)) [0, 1, 2] (fun _ => rfl) hP hD hS rfl rfl (va_runV (As := [.int (nI w1), .int p2, .int (p3 - 1)]) (rest := []) ⟨hx, hb, hml, hown, hts⟩ (kX2_leafAt l dC dI cI cL am g be si ge cu pl br th (nI w1) w1 rfl p2 (p3 - 1) (by omega) (gv_in (gv_M cI am g be si ge cu pl br th))) (cwV (rm := gv_R 1 20) 3 hts gX2_threeIn_X2_leafAt rfl rfl rfl (by decide +kernel) ⟨Nat.le_of_ble_eq_true rfl, Nat.le_of_ble_eq_true rfl⟩) (gv_preV (ci := 2) hK hPc hDc hN rfl rfl) rfl rfl hl.1 rfl (lv_room (Nat.le_of_ble_eq_true rfl)) dX2_threeIn_6 ⟨Nat.zero_le _, Nat.zero_le _⟩) (fun q6 u H locs hw hP hD hS => ?_)
  have he := gv_q hw he
  have hP : va_P (dC, dI) vwCl (gv_M cI am g be si ge cu pl br th) H := hP
  have hD : va_D A (gv_M cI am g be si ge cu pl br th) := hD
  refine lv_aload_n hx hb dX2_threeIn_9 rfl (lv_at hl 0 rfl) ?_
  refine lv_iload_n hx hb dX2_threeIn_10 rfl (lv_at hl 1 rfl) ?_
  refine lv_iload_n hx hb dX2_threeIn_11 rfl (lv_at hl 2 rfl) ?_
  refine lv_iload_n hx hb dX2_threeIn_12 rfl (lv_at hl 3 rfl) ?_
  have hPc : va_P (dC, dI) vwCl (gv_M cI am g be si ge cu pl br th) H := gv_sub [0, 1, 2] hP rfl
  have hDc : va_D (gv_in (gv_M cI am g be si ge cu pl br th)) (gv_M cI am g be si ge cu pl br th) := gv_D hD [0, 1, 2] (by decide) rfl
  refine gv_ki (wf := (fun (_ : Unit) => (gv_M cI am g be si ge cu pl br th))) (wc := (gv_M cI am g be si ge cu pl br th)) [0, 1, 2] (fun _ => rfl) hP hD hS rfl rfl (va_runV (As := [.int (nI w1), .int p2, .int p3]) (rest := [.int q6]) ⟨hx, hb, hml, hown, hts⟩ (kX2_leafAt l dC dI cI cL am g be si ge cu pl br th (nI w1) w1 rfl p2 p3 (by omega) (gv_in (gv_M cI am g be si ge cu pl br th))) (cwV (rm := gv_R 1 20) 3 hts gX2_threeIn_X2_leafAt rfl rfl rfl (by decide +kernel) ⟨Nat.le_of_ble_eq_true rfl, Nat.le_of_ble_eq_true rfl⟩) (gv_preV (ci := 2) hK hPc hDc hN rfl rfl) rfl rfl hl.1 rfl (lv_room (Nat.le_of_ble_eq_true rfl)) dX2_threeIn_13 ⟨Nat.zero_le _, Nat.zero_le _⟩) (fun q13 u H locs hw hP hD hS => ?_)
  have he := gv_q hw he
  have hP : va_P (dC, dI) vwCl (gv_M cI am g be si ge cu pl br th) H := hP
  have hD : va_D A (gv_M cI am g be si ge cu pl br th) := hD
  refine lv_iadd hx hb dX2_threeIn_16 ?_
  refine lv_aload_n hx hb dX2_threeIn_17 rfl (lv_at hl 0 rfl) ?_
  refine lv_iload_n hx hb dX2_threeIn_18 rfl (lv_at hl 1 rfl) ?_
  refine lv_iload_n hx hb dX2_threeIn_19 rfl (lv_at hl 2 rfl) ?_
  refine lv_iload_n hx hb dX2_threeIn_20 rfl (lv_at hl 3 rfl) ?_
  refine lv_iconst (v := 1) hx hb dX2_threeIn_21 (by decide) ?_
  refine lv_iadd hx hb dX2_threeIn_22 ?_
  have hPc : va_P (dC, dI) vwCl (gv_M cI am g be si ge cu pl br th) H := gv_sub [0, 1, 2] hP rfl
  have hDc : va_D (gv_in (gv_M cI am g be si ge cu pl br th)) (gv_M cI am g be si ge cu pl br th) := gv_D hD [0, 1, 2] (by decide) rfl
  refine gv_ki (wf := (fun (_ : Unit) => (gv_M cI am g be si ge cu pl br th))) (wc := (gv_M cI am g be si ge cu pl br th)) [0, 1, 2] (fun _ => rfl) hP hD hS rfl rfl (va_runV (As := [.int (nI w1), .int p2, .int (p3 + 1)]) (rest := [.int (q6 + q13)]) ⟨hx, hb, hml, hown, hts⟩ (kX2_leafAt l dC dI cI cL am g be si ge cu pl br th (nI w1) w1 rfl p2 (p3 + 1) (by omega) (gv_in (gv_M cI am g be si ge cu pl br th))) (cwV (rm := gv_R 1 20) 3 hts gX2_threeIn_X2_leafAt rfl rfl rfl (by decide +kernel) ⟨Nat.le_of_ble_eq_true rfl, Nat.le_of_ble_eq_true rfl⟩) (gv_preV (ci := 2) hK hPc hDc hN rfl rfl) rfl rfl hl.1 rfl (lv_room (Nat.le_of_ble_eq_true rfl)) dX2_threeIn_23 ⟨Nat.zero_le _, Nat.zero_le _⟩) (fun q23 u H locs hw hP hD hS => ?_)
  have he := gv_q hw he
  have hP : va_P (dC, dI) vwCl (gv_M cI am g be si ge cu pl br th) H := hP
  have hD : va_D A (gv_M cI am g be si ge cu pl br th) := hD
  refine lv_iadd hx hb dX2_threeIn_26 ?_
  exact kr ((q6 + q13) + q23) () _ _ _ _ he hP hS dX2_threeIn_27
def spX2_holders (g : Nat → Int32) (be : Nat → Int32) (si : Int32) (ge : Int32) (cu : Int32) (pl : Int32) (br : Int32) (th : Int32) (w1 : Nat) (p2 : Int32) (p3 : Int32) : Int32 := gv_b (spX2_threeIn g be si ge cu pl br th w1 (p2 - 1) p3) (fun q6 => q6)
theorem spX2_holders_e (g : Nat → Int32) (be : Nat → Int32) (si : Int32) (ge : Int32) (cu : Int32) (pl : Int32) (br : Int32) (th : Int32) (w1 : Nat) (p2 : Int32) (p3 : Int32) : spX2_holders g be si ge cu pl br th w1 p2 p3 = gv_b (spX2_threeIn g be si ge cu pl br th w1 (p2 - 1) p3) (fun q6 => q6) := rfl
set_option maxHeartbeats 4000000 in
set_option maxRecDepth 100000 in
theorem kX2_holders (l : Launch) (dC : Nat → ClassId) (dI : Nat → Nat → Nat) (cI cL : ClassId) (am : Nat → Nat) (g : Nat → Int32) (be : Nat → Int32) (si : Int32) (ge : Int32) (cu : Int32) (pl : Int32) (br : Int32) (th : Int32) (p1 : Int32) (w1 : Nat) (hw1 : p1 = nI w1) (p2 : Int32) (p3 : Int32) (hy0 : w1 < 62) : gv_Mi l yX2_holders wsX2_holders 3 67 (dC, dI) [(cI, .int), (cL, .long)] [.ref (am 0), .int p1, .int p2, .int p3] (gv_M cI am g be si ge cu pl br th) (fun (r : Int32) (_ : Unit) => r = spX2_holders g be si ge cu pl br th w1 p2 p3) (fun (_ : Unit) => (gv_M cI am g be si ge cu pl br th)) := by
  subst hw1
  refine gv_ofi (cc := cX2_holders) (maxL := 4) (own := RX2) (by decide) rfl (Nat.le_of_ble_eq_true rfl) rfl ?_
  intro A p e s m args below meth c Q ls H locs hx hb hml hts hown hP hK hD hN hS hl kr
  have inX2 : ∀ w ∈ wsX20, w ∈ wsX2_holders := (fun _ h => List.mem_cons_of_mem _ (List.mem_append_right _ h))
  have hl : lv_has ls 4 [(0, .ref (am 0)), (1, .int (nI w1)), (2, .int p2), (3, .int p3)] := hl
  have he := (spX2_holders_e g be si ge cu pl br th w1 p2 p3).symm
  refine lv_aload_n hx hb dX2_holders_0 rfl (lv_at hl 0 rfl) ?_
  refine lv_iload_n hx hb dX2_holders_1 rfl (lv_at hl 1 rfl) ?_
  refine lv_iload_n hx hb dX2_holders_2 rfl (lv_at hl 2 rfl) ?_
  refine lv_iconst (v := 1) hx hb dX2_holders_3 (by decide) ?_
  refine lv_isub hx hb dX2_holders_4 ?_
  refine lv_iload_n hx hb dX2_holders_5 rfl (lv_at hl 3 rfl) ?_
  have hPc : va_P (dC, dI) vwCl (gv_M cI am g be si ge cu pl br th) H := gv_sub [0, 1, 2] hP rfl
  have hDc : va_D (gv_in (gv_M cI am g be si ge cu pl br th)) (gv_M cI am g be si ge cu pl br th) := gv_D hD [0, 1, 2] (by decide) rfl
  refine gv_ki (wf := (fun (_ : Unit) => (gv_M cI am g be si ge cu pl br th))) (wc := (gv_M cI am g be si ge cu pl br th)) [0, 1, 2] (fun _ => rfl) hP hD hS rfl rfl (va_runV (As := [.int (nI w1), .int (p2 - 1), .int p3]) (rest := []) ⟨hx, hb, hml, hown, hts⟩ (kX2_threeIn l dC dI cI cL am g be si ge cu pl br th (nI w1) w1 rfl (p2 - 1) p3 (by omega) (gv_in (gv_M cI am g be si ge cu pl br th))) (cwV (rm := gv_R 2 44) 3 hts gX2_holders_X2_threeIn rfl rfl rfl (by decide +kernel) ⟨Nat.le_of_ble_eq_true rfl, Nat.le_of_ble_eq_true rfl⟩) (gv_preV (ci := 2) hK hPc hDc hN rfl rfl) rfl rfl hl.1 rfl (lv_room (Nat.le_of_ble_eq_true rfl)) dX2_holders_6 ⟨Nat.zero_le _, Nat.zero_le _⟩) (fun q6 u H locs hw hP hD hS => ?_)
  have he := gv_q hw he
  have hP : va_P (dC, dI) vwCl (gv_M cI am g be si ge cu pl br th) H := hP
  have hD : va_D A (gv_M cI am g be si ge cu pl br th) := hD
  exact kr q6 () _ _ _ _ he hP hS dX2_holders_9
def spX2_neighbours (g : Nat → Int32) (be : Nat → Int32) (si : Int32) (ge : Int32) (cu : Int32) (pl : Int32) (br : Int32) (th : Int32) (w1 : Nat) (p2 : Int32) (p3 : Int32) : Int32 := gv_b (spX2_threeIn g be si ge cu pl br th w1 (p2 - 1) p3) (fun q6 => gv_b (spX2_threeIn g be si ge cu pl br th w1 (p2 + 1) p3) (fun q15 => gv_b (spX2_leafAt g be si ge cu pl br th w1 p2 (p3 - 1)) (fun q25 => gv_b (spX2_leafAt g be si ge cu pl br th w1 p2 (p3 + 1)) (fun q35 => ((q6 + q15) + q25) + q35))))
theorem spX2_neighbours_e (g : Nat → Int32) (be : Nat → Int32) (si : Int32) (ge : Int32) (cu : Int32) (pl : Int32) (br : Int32) (th : Int32) (w1 : Nat) (p2 : Int32) (p3 : Int32) : spX2_neighbours g be si ge cu pl br th w1 p2 p3 = gv_b (spX2_threeIn g be si ge cu pl br th w1 (p2 - 1) p3) (fun q6 => gv_b (spX2_threeIn g be si ge cu pl br th w1 (p2 + 1) p3) (fun q15 => gv_b (spX2_leafAt g be si ge cu pl br th w1 p2 (p3 - 1)) (fun q25 => gv_b (spX2_leafAt g be si ge cu pl br th w1 p2 (p3 + 1)) (fun q35 => ((q6 + q15) + q25) + q35)))) := rfl
set_option maxHeartbeats 4000000 in
set_option maxRecDepth 100000 in
theorem kX2_neighbours (l : Launch) (dC : Nat → ClassId) (dI : Nat → Nat → Nat) (cI cL : ClassId) (am : Nat → Nat) (g : Nat → Int32) (be : Nat → Int32) (si : Int32) (ge : Int32) (cu : Int32) (pl : Int32) (br : Int32) (th : Int32) (p1 : Int32) (w1 : Nat) (hw1 : p1 = nI w1) (p2 : Int32) (p3 : Int32) (hy0 : w1 < 62) : gv_Mi l yX2_neighbours wsX2_neighbours 3 67 (dC, dI) [(cI, .int), (cL, .long)] [.ref (am 0), .int p1, .int p2, .int p3] (gv_M cI am g be si ge cu pl br th) (fun (r : Int32) (_ : Unit) => r = spX2_neighbours g be si ge cu pl br th w1 p2 p3) (fun (_ : Unit) => (gv_M cI am g be si ge cu pl br th)) := by
  subst hw1
  refine gv_ofi (cc := cX2_neighbours) (maxL := 4) (own := RX2) (by decide) rfl (Nat.le_of_ble_eq_true rfl) rfl ?_
  intro A p e s m args below meth c Q ls H locs hx hb hml hts hown hP hK hD hN hS hl kr
  have inX2 : ∀ w ∈ wsX20, w ∈ wsX2_neighbours := (fun _ h => List.mem_cons_of_mem _ (List.mem_append_right _ h))
  have hl : lv_has ls 4 [(0, .ref (am 0)), (1, .int (nI w1)), (2, .int p2), (3, .int p3)] := hl
  have he := (spX2_neighbours_e g be si ge cu pl br th w1 p2 p3).symm
  refine lv_aload_n hx hb dX2_neighbours_0 rfl (lv_at hl 0 rfl) ?_
  refine lv_iload_n hx hb dX2_neighbours_1 rfl (lv_at hl 1 rfl) ?_
  refine lv_iload_n hx hb dX2_neighbours_2 rfl (lv_at hl 2 rfl) ?_
  refine lv_iconst (v := 1) hx hb dX2_neighbours_3 (by decide) ?_
  refine lv_isub hx hb dX2_neighbours_4 ?_
  refine lv_iload_n hx hb dX2_neighbours_5 rfl (lv_at hl 3 rfl) ?_
  have hPc : va_P (dC, dI) vwCl (gv_M cI am g be si ge cu pl br th) H := gv_sub [0, 1, 2] hP rfl
  have hDc : va_D (gv_in (gv_M cI am g be si ge cu pl br th)) (gv_M cI am g be si ge cu pl br th) := gv_D hD [0, 1, 2] (by decide) rfl
  refine gv_ki (wf := (fun (_ : Unit) => (gv_M cI am g be si ge cu pl br th))) (wc := (gv_M cI am g be si ge cu pl br th)) [0, 1, 2] (fun _ => rfl) hP hD hS rfl rfl (va_runV (As := [.int (nI w1), .int (p2 - 1), .int p3]) (rest := []) ⟨hx, hb, hml, hown, hts⟩ (kX2_threeIn l dC dI cI cL am g be si ge cu pl br th (nI w1) w1 rfl (p2 - 1) p3 (by omega) (gv_in (gv_M cI am g be si ge cu pl br th))) (cwV (rm := gv_R 2 44) 3 hts gX2_neighbours_X2_threeIn rfl rfl rfl (by decide +kernel) ⟨Nat.le_of_ble_eq_true rfl, Nat.le_of_ble_eq_true rfl⟩) (gv_preV (ci := 2) hK hPc hDc hN rfl rfl) rfl rfl hl.1 rfl (lv_room (Nat.le_of_ble_eq_true rfl)) dX2_neighbours_6 ⟨Nat.zero_le _, Nat.zero_le _⟩) (fun q6 u H locs hw hP hD hS => ?_)
  have he := gv_q hw he
  have hP : va_P (dC, dI) vwCl (gv_M cI am g be si ge cu pl br th) H := hP
  have hD : va_D A (gv_M cI am g be si ge cu pl br th) := hD
  refine lv_aload_n hx hb dX2_neighbours_9 rfl (lv_at hl 0 rfl) ?_
  refine lv_iload_n hx hb dX2_neighbours_10 rfl (lv_at hl 1 rfl) ?_
  refine lv_iload_n hx hb dX2_neighbours_11 rfl (lv_at hl 2 rfl) ?_
  refine lv_iconst (v := 1) hx hb dX2_neighbours_12 (by decide) ?_
  refine lv_iadd hx hb dX2_neighbours_13 ?_
  refine lv_iload_n hx hb dX2_neighbours_14 rfl (lv_at hl 3 rfl) ?_
  have hPc : va_P (dC, dI) vwCl (gv_M cI am g be si ge cu pl br th) H := gv_sub [0, 1, 2] hP rfl
  have hDc : va_D (gv_in (gv_M cI am g be si ge cu pl br th)) (gv_M cI am g be si ge cu pl br th) := gv_D hD [0, 1, 2] (by decide) rfl
  refine gv_ki (wf := (fun (_ : Unit) => (gv_M cI am g be si ge cu pl br th))) (wc := (gv_M cI am g be si ge cu pl br th)) [0, 1, 2] (fun _ => rfl) hP hD hS rfl rfl (va_runV (As := [.int (nI w1), .int (p2 + 1), .int p3]) (rest := [.int q6]) ⟨hx, hb, hml, hown, hts⟩ (kX2_threeIn l dC dI cI cL am g be si ge cu pl br th (nI w1) w1 rfl (p2 + 1) p3 (by omega) (gv_in (gv_M cI am g be si ge cu pl br th))) (cwV (rm := gv_R 2 44) 3 hts gX2_neighbours_X2_threeIn rfl rfl rfl (by decide +kernel) ⟨Nat.le_of_ble_eq_true rfl, Nat.le_of_ble_eq_true rfl⟩) (gv_preV (ci := 2) hK hPc hDc hN rfl rfl) rfl rfl hl.1 rfl (lv_room (Nat.le_of_ble_eq_true rfl)) dX2_neighbours_15 ⟨Nat.zero_le _, Nat.zero_le _⟩) (fun q15 u H locs hw hP hD hS => ?_)
  have he := gv_q hw he
  have hP : va_P (dC, dI) vwCl (gv_M cI am g be si ge cu pl br th) H := hP
  have hD : va_D A (gv_M cI am g be si ge cu pl br th) := hD
  refine lv_iadd hx hb dX2_neighbours_18 ?_
  refine lv_aload_n hx hb dX2_neighbours_19 rfl (lv_at hl 0 rfl) ?_
  refine lv_iload_n hx hb dX2_neighbours_20 rfl (lv_at hl 1 rfl) ?_
  refine lv_iload_n hx hb dX2_neighbours_21 rfl (lv_at hl 2 rfl) ?_
  refine lv_iload_n hx hb dX2_neighbours_22 rfl (lv_at hl 3 rfl) ?_
  refine lv_iconst (v := 1) hx hb dX2_neighbours_23 (by decide) ?_
  refine lv_isub hx hb dX2_neighbours_24 ?_
  have hPc : va_P (dC, dI) vwCl (gv_M cI am g be si ge cu pl br th) H := gv_sub [0, 1, 2] hP rfl
  have hDc : va_D (gv_in (gv_M cI am g be si ge cu pl br th)) (gv_M cI am g be si ge cu pl br th) := gv_D hD [0, 1, 2] (by decide) rfl
  refine gv_ki (wf := (fun (_ : Unit) => (gv_M cI am g be si ge cu pl br th))) (wc := (gv_M cI am g be si ge cu pl br th)) [0, 1, 2] (fun _ => rfl) hP hD hS rfl rfl (va_runV (As := [.int (nI w1), .int p2, .int (p3 - 1)]) (rest := [.int (q6 + q15)]) ⟨hx, hb, hml, hown, hts⟩ (kX2_leafAt l dC dI cI cL am g be si ge cu pl br th (nI w1) w1 rfl p2 (p3 - 1) (by omega) (gv_in (gv_M cI am g be si ge cu pl br th))) (cwV (rm := gv_R 1 20) 3 hts gX2_neighbours_X2_leafAt rfl rfl rfl (by decide +kernel) ⟨Nat.le_of_ble_eq_true rfl, Nat.le_of_ble_eq_true rfl⟩) (gv_preV (ci := 2) hK hPc hDc hN rfl rfl) rfl rfl hl.1 rfl (lv_room (Nat.le_of_ble_eq_true rfl)) dX2_neighbours_25 ⟨Nat.zero_le _, Nat.zero_le _⟩) (fun q25 u H locs hw hP hD hS => ?_)
  have he := gv_q hw he
  have hP : va_P (dC, dI) vwCl (gv_M cI am g be si ge cu pl br th) H := hP
  have hD : va_D A (gv_M cI am g be si ge cu pl br th) := hD
  refine lv_iadd hx hb dX2_neighbours_28 ?_
  refine lv_aload_n hx hb dX2_neighbours_29 rfl (lv_at hl 0 rfl) ?_
  refine lv_iload_n hx hb dX2_neighbours_30 rfl (lv_at hl 1 rfl) ?_
  refine lv_iload_n hx hb dX2_neighbours_31 rfl (lv_at hl 2 rfl) ?_
  refine lv_iload_n hx hb dX2_neighbours_32 rfl (lv_at hl 3 rfl) ?_
  refine lv_iconst (v := 1) hx hb dX2_neighbours_33 (by decide) ?_
  refine lv_iadd hx hb dX2_neighbours_34 ?_
  have hPc : va_P (dC, dI) vwCl (gv_M cI am g be si ge cu pl br th) H := gv_sub [0, 1, 2] hP rfl
  have hDc : va_D (gv_in (gv_M cI am g be si ge cu pl br th)) (gv_M cI am g be si ge cu pl br th) := gv_D hD [0, 1, 2] (by decide) rfl
  refine gv_ki (wf := (fun (_ : Unit) => (gv_M cI am g be si ge cu pl br th))) (wc := (gv_M cI am g be si ge cu pl br th)) [0, 1, 2] (fun _ => rfl) hP hD hS rfl rfl (va_runV (As := [.int (nI w1), .int p2, .int (p3 + 1)]) (rest := [.int ((q6 + q15) + q25)]) ⟨hx, hb, hml, hown, hts⟩ (kX2_leafAt l dC dI cI cL am g be si ge cu pl br th (nI w1) w1 rfl p2 (p3 + 1) (by omega) (gv_in (gv_M cI am g be si ge cu pl br th))) (cwV (rm := gv_R 1 20) 3 hts gX2_neighbours_X2_leafAt rfl rfl rfl (by decide +kernel) ⟨Nat.le_of_ble_eq_true rfl, Nat.le_of_ble_eq_true rfl⟩) (gv_preV (ci := 2) hK hPc hDc hN rfl rfl) rfl rfl hl.1 rfl (lv_room (Nat.le_of_ble_eq_true rfl)) dX2_neighbours_35 ⟨Nat.zero_le _, Nat.zero_le _⟩) (fun q35 u H locs hw hP hD hS => ?_)
  have he := gv_q hw he
  have hP : va_P (dC, dI) vwCl (gv_M cI am g be si ge cu pl br th) H := hP
  have hD : va_D A (gv_M cI am g be si ge cu pl br th) := hD
  refine lv_iadd hx hb dX2_neighbours_38 ?_
  exact kr (((q6 + q15) + q25) + q35) () _ _ _ _ he hP hS dX2_neighbours_39
def lpX2_shade_8 (n1_8 : Nat) (b3_8 : Int32) (g_c : Nat → Int32) (be_c : Nat → Int32) (si_c : Int32) (ge_c : Int32) (cu_c : Int32) (pl_c : Int32) (br_c : Int32) (th_c : Int32) : Nat → Nat → (Int32) → Int32
  | 0, _, x4_8 => x4_8
  | n8 + 1, i8, x4_8 => gv_b (spX2_leafAt g_c be_c si_c ge_c cu_c pl_c br_c th_c n1_8 (nI i8) b3_8) (fun q22 => lpX2_shade_8 n1_8 b3_8 g_c be_c si_c ge_c cu_c pl_c br_c th_c n8 (i8 + 1) (x4_8 + q22))
theorem lpX2_shade_8_0 (n1_8 : Nat) (b3_8 : Int32) (g_c : Nat → Int32) (be_c : Nat → Int32) (si_c : Int32) (ge_c : Int32) (cu_c : Int32) (pl_c : Int32) (br_c : Int32) (th_c : Int32) (i8 : Nat) (x4_8 : Int32) : lpX2_shade_8 n1_8 b3_8 g_c be_c si_c ge_c cu_c pl_c br_c th_c 0 i8 x4_8 = x4_8 := rfl
theorem lpX2_shade_8_s (n1_8 : Nat) (b3_8 : Int32) (g_c : Nat → Int32) (be_c : Nat → Int32) (si_c : Int32) (ge_c : Int32) (cu_c : Int32) (pl_c : Int32) (br_c : Int32) (th_c : Int32) (n8 : Nat) (i8 : Nat) (x4_8 : Int32) : lpX2_shade_8 n1_8 b3_8 g_c be_c si_c ge_c cu_c pl_c br_c th_c (n8 + 1) i8 x4_8 = gv_b (spX2_leafAt g_c be_c si_c ge_c cu_c pl_c br_c th_c n1_8 (nI i8) b3_8) (fun q22 => lpX2_shade_8 n1_8 b3_8 g_c be_c si_c ge_c cu_c pl_c br_c th_c n8 (i8 + 1) (x4_8 + q22)) := rfl
def spX2_shade (g : Nat → Int32) (be : Nat → Int32) (si : Int32) (ge : Int32) (cu : Int32) (pl : Int32) (br : Int32) (th : Int32) (w1 : Nat) (w2 : Nat) (p3 : Int32) : Int32 := lpX2_shade_8 w1 p3 g be si ge cu pl br th (8 - w2) w2 0
theorem spX2_shade_e (g : Nat → Int32) (be : Nat → Int32) (si : Int32) (ge : Int32) (cu : Int32) (pl : Int32) (br : Int32) (th : Int32) (w1 : Nat) (w2 : Nat) (p3 : Int32) : spX2_shade g be si ge cu pl br th w1 w2 p3 = lpX2_shade_8 w1 p3 g be si ge cu pl br th (8 - w2) w2 0 := rfl
set_option maxHeartbeats 4000000 in
set_option maxRecDepth 100000 in
theorem kX2_shade (l : Launch) (dC : Nat → ClassId) (dI : Nat → Nat → Nat) (cI cL : ClassId) (am : Nat → Nat) (g : Nat → Int32) (be : Nat → Int32) (si : Int32) (ge : Int32) (cu : Int32) (pl : Int32) (br : Int32) (th : Int32) (p1 : Int32) (w1 : Nat) (hw1 : p1 = nI w1) (p2 : Int32) (w2 : Nat) (hw2 : p2 + 1 = nI w2) (p3 : Int32) (hy0 : w1 < 62) (hy1 : w2 ≤ 8) : gv_Mi l yX2_shade wsX2_shade 2 44 (dC, dI) [(cI, .int), (cL, .long)] [.ref (am 0), .int p1, .int p2, .int p3] (gv_M cI am g be si ge cu pl br th) (fun (r : Int32) (_ : Unit) => r = spX2_shade g be si ge cu pl br th w1 w2 p3) (fun (_ : Unit) => (gv_M cI am g be si ge cu pl br th)) := by
  subst hw1
  refine gv_ofi (cc := cX2_shade) (maxL := 6) (own := RX2) (by decide) rfl (Nat.le_of_ble_eq_true rfl) rfl ?_
  intro A p e s m args below meth c Q ls H locs hx hb hml hts hown hP hK hD hN hS hl kr
  have inX2 : ∀ w ∈ wsX20, w ∈ wsX2_shade := (fun _ h => List.mem_cons_of_mem _ (List.mem_append_right _ h))
  have hl : lv_has ls 6 [(0, .ref (am 0)), (1, .int (nI w1)), (2, .int p2), (3, .int p3)] := hl
  have he := (spX2_shade_e g be si ge cu pl br th w1 w2 p3).symm
  refine lv_iconst (v := 0) hx hb dX2_shade_0 (by decide) ?_
  refine lv_istore (lv' := [(4, .int 0), (0, .ref (am 0)), (1, .int (nI w1)), (2, .int p2), (3, .int p3)]) hx hb dX2_shade_1 hl (by decide) rfl (fun ls hl => ?_)
  refine lv_iload_n hx hb dX2_shade_3 rfl (lv_at hl 3 rfl) ?_
  refine lv_iconst (v := 1) hx hb dX2_shade_4 (by decide) ?_
  refine lv_iadd hx hb dX2_shade_5 ?_
  refine lv_istore (lv' := [(5, .int (p2 + 1)), (4, .int 0), (0, .ref (am 0)), (1, .int (nI w1)), (2, .int p2), (3, .int p3)]) hx hb dX2_shade_6 hl (by decide) rfl (fun ls hl => ?_)
  have L8 : ∀ (n8 i8 : Nat) (x4_8 : Int32) (H : Heap) (locs : List Loc) (ls : Array Slot), w2 ≤ i8 ∧ i8 + n8 = 8 → lpX2_shade_8 w1 p3 g be si ge cu pl br th n8 i8 x4_8 = spX2_shade g be si ge cu pl br th w1 w2 p3 → va_P (dC, dI) vwCl (gv_M cI am g be si ge cu pl br th) H → va_D A (gv_M cI am g be si ge cu pl br th) → va_S A s.heap H locs → lv_has ls 6 [(0, .ref (am 0)), (1, .int (nI w1)), (2, .int p2), (3, .int p3), (4, .int x4_8), (5, .int (nI i8))] → W p l e (gv_R 2 44) s m args below meth c H locs 0 0 Q (F0 m 8 ls []) := by
    intro n8
    induction n8 with
    | zero =>
      intro i8 x4_8 H locs ls hi8 he hP hD hS hl
      have he := (lpX2_shade_8_0 _ _ _ _ _ _ _ _ _ _ _ _).symm.trans he
      refine lv_iload hx hb dX2_shade_8 (lv_at hl 5 rfl) ?_
      refine lv_bipush (v := 8) hx hb dX2_shade_10 (by decide) ?_
      refine lv_icmp_ge (tgt := 34) hx hb dX2_shade_12 (by decide) (fun _ => ?_) (fun c => absurd c (gv_ge (N := 8) rfl (rfl : (8 : Int32) = nI 8) (by omega) (by omega)))
      refine lv_iload hx hb dX2_shade_34 (lv_at hl 4 rfl) ?_
      exact kr x4_8 () _ _ _ _ he hP hS dX2_shade_36
    | succ n8 ih8 =>
      intro i8 x4_8 H locs ls hi8 he hP hD hS hl
      have he := (lpX2_shade_8_s _ _ _ _ _ _ _ _ _ _ _ _ _).symm.trans he
      refine lv_iload hx hb dX2_shade_8 (lv_at hl 5 rfl) ?_
      refine lv_bipush (v := 8) hx hb dX2_shade_10 (by decide) ?_
      refine lv_icmp_ge (tgt := 34) hx hb dX2_shade_12 (by decide) (fun c => absurd c (gv_lt (N := 8) rfl (rfl : (8 : Int32) = nI 8) (by omega) (by omega))) (fun _ => ?_)
      refine lv_iload hx hb dX2_shade_15 (lv_at hl 4 rfl) ?_
      refine lv_aload_n hx hb dX2_shade_17 rfl (lv_at hl 0 rfl) ?_
      refine lv_iload_n hx hb dX2_shade_18 rfl (lv_at hl 1 rfl) ?_
      refine lv_iload hx hb dX2_shade_19 (lv_at hl 5 rfl) ?_
      refine lv_iload_n hx hb dX2_shade_21 rfl (lv_at hl 3 rfl) ?_
      have hPc : va_P (dC, dI) vwCl (gv_M cI am g be si ge cu pl br th) H := gv_sub [0, 1, 2] hP rfl
      have hDc : va_D (gv_in (gv_M cI am g be si ge cu pl br th)) (gv_M cI am g be si ge cu pl br th) := gv_D hD [0, 1, 2] (by decide) rfl
      refine gv_ki (wf := (fun (_ : Unit) => (gv_M cI am g be si ge cu pl br th))) (wc := (gv_M cI am g be si ge cu pl br th)) [0, 1, 2] (fun _ => rfl) hP hD hS rfl rfl (va_runV (As := [.int (nI w1), .int (nI i8), .int p3]) (rest := [.int x4_8]) ⟨hx, hb, hml, hown, hts⟩ (kX2_leafAt l dC dI cI cL am g be si ge cu pl br th (nI w1) w1 rfl (nI i8) p3 (by omega) (gv_in (gv_M cI am g be si ge cu pl br th))) (cwV (rm := gv_R 1 20) 3 hts gX2_shade_X2_leafAt rfl rfl rfl (by decide +kernel) ⟨Nat.le_of_ble_eq_true rfl, Nat.le_of_ble_eq_true rfl⟩) (gv_preV (ci := 2) hK hPc hDc hN rfl rfl) rfl rfl hl.1 rfl (lv_room (Nat.le_of_ble_eq_true rfl)) dX2_shade_22 ⟨Nat.zero_le _, Nat.zero_le _⟩) (fun q22 u H locs hw hP hD hS => ?_)
      have he := gv_q hw he
      have hP : va_P (dC, dI) vwCl (gv_M cI am g be si ge cu pl br th) H := hP
      have hD : va_D A (gv_M cI am g be si ge cu pl br th) := hD
      refine lv_iadd hx hb dX2_shade_25 ?_
      refine lv_istore (lv' := [(4, .int (x4_8 + q22)), (0, .ref (am 0)), (1, .int (nI w1)), (2, .int p2), (3, .int p3), (5, .int (nI i8))]) hx hb dX2_shade_26 hl (by decide) rfl (fun ls hl => ?_)
      refine lv_iinc (v := (nI (i8 + 1))) (lv' := [(5, .int (nI (i8 + 1))), (4, .int (x4_8 + q22)), (0, .ref (am 0)), (1, .int (nI w1)), (2, .int p2), (3, .int p3)]) hx hb dX2_shade_28 hl (k := 5) rfl (nI_1 i8) (by decide) rfl (fun ls hl => ?_)
      refine lv_goto (tgt := 8) hx hb dX2_shade_31 (by decide) ?_
      exact ih8 (i8 + 1) (x4_8 + q22) _ _ _ (by omega) he hP hD hS (lv_sub hl [2, 3, 4, 5, 1, 0] rfl)
  rw [hw2] at hl
  exact L8 (8 - w2) w2 0 _ _ _ (by omega) he hP hD hS (lv_sub hl [2, 3, 4, 5, 1, 0] rfl)
def spX2_inColumn (g : Nat → Int32) (be : Nat → Int32) (si : Int32) (ge : Int32) (cu : Int32) (pl : Int32) (br : Int32) (th : Int32) (w1 : Nat) (p2 : Int32) : Int32 := gv_b (spX2_leafAt g be si ge cu pl br th w1 0 p2) (fun q4 => gv_b (spX2_shade g be si ge cu pl br th w1 (0 + 1) p2) (fun q11 => q4 + q11))
theorem spX2_inColumn_e (g : Nat → Int32) (be : Nat → Int32) (si : Int32) (ge : Int32) (cu : Int32) (pl : Int32) (br : Int32) (th : Int32) (w1 : Nat) (p2 : Int32) : spX2_inColumn g be si ge cu pl br th w1 p2 = gv_b (spX2_leafAt g be si ge cu pl br th w1 0 p2) (fun q4 => gv_b (spX2_shade g be si ge cu pl br th w1 (0 + 1) p2) (fun q11 => q4 + q11)) := rfl
set_option maxHeartbeats 4000000 in
set_option maxRecDepth 100000 in
theorem kX2_inColumn (l : Launch) (dC : Nat → ClassId) (dI : Nat → Nat → Nat) (cI cL : ClassId) (am : Nat → Nat) (g : Nat → Int32) (be : Nat → Int32) (si : Int32) (ge : Int32) (cu : Int32) (pl : Int32) (br : Int32) (th : Int32) (p1 : Int32) (w1 : Nat) (hw1 : p1 = nI w1) (p2 : Int32) (hy0 : w1 < 62) : gv_Mi l yX2_inColumn wsX2_inColumn 3 69 (dC, dI) [(cI, .int), (cL, .long)] [.ref (am 0), .int p1, .int p2] (gv_M cI am g be si ge cu pl br th) (fun (r : Int32) (_ : Unit) => r = spX2_inColumn g be si ge cu pl br th w1 p2) (fun (_ : Unit) => (gv_M cI am g be si ge cu pl br th)) := by
  subst hw1
  refine gv_ofi (cc := cX2_inColumn) (maxL := 3) (own := RX2) (by decide) rfl (Nat.le_of_ble_eq_true rfl) rfl ?_
  intro A p e s m args below meth c Q ls H locs hx hb hml hts hown hP hK hD hN hS hl kr
  have inX2 : ∀ w ∈ wsX20, w ∈ wsX2_inColumn := (fun _ h => List.mem_cons_of_mem _ (List.mem_append_right _ h))
  have hl : lv_has ls 3 [(0, .ref (am 0)), (1, .int (nI w1)), (2, .int p2)] := hl
  have he := (spX2_inColumn_e g be si ge cu pl br th w1 p2).symm
  refine lv_aload_n hx hb dX2_inColumn_0 rfl (lv_at hl 0 rfl) ?_
  refine lv_iload_n hx hb dX2_inColumn_1 rfl (lv_at hl 1 rfl) ?_
  refine lv_iconst (v := 0) hx hb dX2_inColumn_2 (by decide) ?_
  refine lv_iload_n hx hb dX2_inColumn_3 rfl (lv_at hl 2 rfl) ?_
  have hPc : va_P (dC, dI) vwCl (gv_M cI am g be si ge cu pl br th) H := gv_sub [0, 1, 2] hP rfl
  have hDc : va_D (gv_in (gv_M cI am g be si ge cu pl br th)) (gv_M cI am g be si ge cu pl br th) := gv_D hD [0, 1, 2] (by decide) rfl
  refine gv_ki (wf := (fun (_ : Unit) => (gv_M cI am g be si ge cu pl br th))) (wc := (gv_M cI am g be si ge cu pl br th)) [0, 1, 2] (fun _ => rfl) hP hD hS rfl rfl (va_runV (As := [.int (nI w1), .int 0, .int p2]) (rest := []) ⟨hx, hb, hml, hown, hts⟩ (kX2_leafAt l dC dI cI cL am g be si ge cu pl br th (nI w1) w1 rfl 0 p2 (by omega) (gv_in (gv_M cI am g be si ge cu pl br th))) (cwV (rm := gv_R 1 20) 3 hts gX2_inColumn_X2_leafAt rfl rfl rfl (by decide +kernel) ⟨Nat.le_of_ble_eq_true rfl, Nat.le_of_ble_eq_true rfl⟩) (gv_preV (ci := 2) hK hPc hDc hN rfl rfl) rfl rfl hl.1 rfl (lv_room (Nat.le_of_ble_eq_true rfl)) dX2_inColumn_4 ⟨Nat.zero_le _, Nat.zero_le _⟩) (fun q4 u H locs hw hP hD hS => ?_)
  have he := gv_q hw he
  have hP : va_P (dC, dI) vwCl (gv_M cI am g be si ge cu pl br th) H := hP
  have hD : va_D A (gv_M cI am g be si ge cu pl br th) := hD
  refine lv_aload_n hx hb dX2_inColumn_7 rfl (lv_at hl 0 rfl) ?_
  refine lv_iload_n hx hb dX2_inColumn_8 rfl (lv_at hl 1 rfl) ?_
  refine lv_iconst (v := 0) hx hb dX2_inColumn_9 (by decide) ?_
  refine lv_iload_n hx hb dX2_inColumn_10 rfl (lv_at hl 2 rfl) ?_
  have hPc : va_P (dC, dI) vwCl (gv_M cI am g be si ge cu pl br th) H := gv_sub [0, 1, 2] hP rfl
  have hDc : va_D (gv_in (gv_M cI am g be si ge cu pl br th)) (gv_M cI am g be si ge cu pl br th) := gv_D hD [0, 1, 2] (by decide) rfl
  refine gv_ki (wf := (fun (_ : Unit) => (gv_M cI am g be si ge cu pl br th))) (wc := (gv_M cI am g be si ge cu pl br th)) [0, 1, 2] (fun _ => rfl) hP hD hS rfl rfl (va_runV (As := [.int (nI w1), .int 0, .int p2]) (rest := [.int q4]) ⟨hx, hb, hml, hown, hts⟩ (kX2_shade l dC dI cI cL am g be si ge cu pl br th (nI w1) w1 rfl 0 (0 + 1) (gn_add (rfl : (0 : Int32) = nI 0) (rfl : (1 : Int32) = nI 1)) p2 (by omega) (by omega) (gv_in (gv_M cI am g be si ge cu pl br th))) (cwV (rm := gv_R 2 44) 3 hts gX2_inColumn_X2_shade rfl rfl rfl (by decide +kernel) ⟨Nat.le_of_ble_eq_true rfl, Nat.le_of_ble_eq_true rfl⟩) (gv_preV (ci := 2) hK hPc hDc hN rfl rfl) rfl rfl hl.1 rfl (lv_room (Nat.le_of_ble_eq_true rfl)) dX2_inColumn_11 ⟨Nat.zero_le _, Nat.zero_le _⟩) (fun q11 u H locs hw hP hD hS => ?_)
  have he := gv_q hw he
  have hP : va_P (dC, dI) vwCl (gv_M cI am g be si ge cu pl br th) H := hP
  have hD : va_D A (gv_M cI am g be si ge cu pl br th) := hD
  refine lv_iadd hx hb dX2_inColumn_14 ?_
  exact kr (q4 + q11) () _ _ _ _ he hP hS dX2_inColumn_15
def lpX2_allLeaves_4 (n1_4 : Nat) (g_c : Nat → Int32) (be_c : Nat → Int32) (si_c : Int32) (ge_c : Int32) (cu_c : Int32) (pl_c : Int32) (br_c : Int32) (th_c : Int32) : Nat → Nat → (Int32) → Int32
  | 0, _, x2_4 => x2_4
  | n4 + 1, i4, x2_4 => gv_b (spX2_inColumn g_c be_c si_c ge_c cu_c pl_c br_c th_c n1_4 (nI i4)) (fun q14 => lpX2_allLeaves_4 n1_4 g_c be_c si_c ge_c cu_c pl_c br_c th_c n4 (i4 + 1) (x2_4 + q14))
theorem lpX2_allLeaves_4_0 (n1_4 : Nat) (g_c : Nat → Int32) (be_c : Nat → Int32) (si_c : Int32) (ge_c : Int32) (cu_c : Int32) (pl_c : Int32) (br_c : Int32) (th_c : Int32) (i4 : Nat) (x2_4 : Int32) : lpX2_allLeaves_4 n1_4 g_c be_c si_c ge_c cu_c pl_c br_c th_c 0 i4 x2_4 = x2_4 := rfl
theorem lpX2_allLeaves_4_s (n1_4 : Nat) (g_c : Nat → Int32) (be_c : Nat → Int32) (si_c : Int32) (ge_c : Int32) (cu_c : Int32) (pl_c : Int32) (br_c : Int32) (th_c : Int32) (n4 : Nat) (i4 : Nat) (x2_4 : Int32) : lpX2_allLeaves_4 n1_4 g_c be_c si_c ge_c cu_c pl_c br_c th_c (n4 + 1) i4 x2_4 = gv_b (spX2_inColumn g_c be_c si_c ge_c cu_c pl_c br_c th_c n1_4 (nI i4)) (fun q14 => lpX2_allLeaves_4 n1_4 g_c be_c si_c ge_c cu_c pl_c br_c th_c n4 (i4 + 1) (x2_4 + q14)) := rfl
def spX2_allLeaves (g : Nat → Int32) (be : Nat → Int32) (si : Int32) (ge : Int32) (cu : Int32) (pl : Int32) (br : Int32) (th : Int32) (w1 : Nat) : Int32 := lpX2_allLeaves_4 w1 g be si ge cu pl br th 12 0 0
theorem spX2_allLeaves_e (g : Nat → Int32) (be : Nat → Int32) (si : Int32) (ge : Int32) (cu : Int32) (pl : Int32) (br : Int32) (th : Int32) (w1 : Nat) : spX2_allLeaves g be si ge cu pl br th w1 = lpX2_allLeaves_4 w1 g be si ge cu pl br th 12 0 0 := rfl
set_option maxHeartbeats 4000000 in
set_option maxRecDepth 100000 in
theorem kX2_allLeaves (l : Launch) (dC : Nat → ClassId) (dI : Nat → Nat → Nat) (cI cL : ClassId) (am : Nat → Nat) (g : Nat → Int32) (be : Nat → Int32) (si : Int32) (ge : Int32) (cu : Int32) (pl : Int32) (br : Int32) (th : Int32) (p1 : Int32) (w1 : Nat) (hw1 : p1 = nI w1) (hy0 : w1 < 62) : gv_Mi l yX2_allLeaves wsX2_allLeaves 4 91 (dC, dI) [(cI, .int), (cL, .long)] [.ref (am 0), .int p1] (gv_M cI am g be si ge cu pl br th) (fun (r : Int32) (_ : Unit) => r = spX2_allLeaves g be si ge cu pl br th w1) (fun (_ : Unit) => (gv_M cI am g be si ge cu pl br th)) := by
  subst hw1
  refine gv_ofi (cc := cX2_allLeaves) (maxL := 4) (own := RX2) (by decide) rfl (Nat.le_of_ble_eq_true rfl) rfl ?_
  intro A p e s m args below meth c Q ls H locs hx hb hml hts hown hP hK hD hN hS hl kr
  have inX2 : ∀ w ∈ wsX20, w ∈ wsX2_allLeaves := (fun _ h => List.mem_cons_of_mem _ (List.mem_append_right _ h))
  have hl : lv_has ls 4 [(0, .ref (am 0)), (1, .int (nI w1))] := hl
  have he := (spX2_allLeaves_e g be si ge cu pl br th w1).symm
  refine lv_iconst (v := 0) hx hb dX2_allLeaves_0 (by decide) ?_
  refine lv_istore_n (lv' := [(2, .int 0), (0, .ref (am 0)), (1, .int (nI w1))]) hx hb dX2_allLeaves_1 rfl hl (by decide) rfl (fun ls hl => ?_)
  refine lv_iconst (v := 0) hx hb dX2_allLeaves_2 (by decide) ?_
  refine lv_istore_n (lv' := [(3, .int 0), (2, .int 0), (0, .ref (am 0)), (1, .int (nI w1))]) hx hb dX2_allLeaves_3 rfl hl (by decide) rfl (fun ls hl => ?_)
  have L4 : ∀ (n4 i4 : Nat) (x2_4 : Int32) (H : Heap) (locs : List Loc) (ls : Array Slot), i4 + n4 = 12 → lpX2_allLeaves_4 w1 g be si ge cu pl br th n4 i4 x2_4 = spX2_allLeaves g be si ge cu pl br th w1 → va_P (dC, dI) vwCl (gv_M cI am g be si ge cu pl br th) H → va_D A (gv_M cI am g be si ge cu pl br th) → va_S A s.heap H locs → lv_has ls 4 [(0, .ref (am 0)), (1, .int (nI w1)), (2, .int x2_4), (3, .int (nI i4))] → W p l e (gv_R 4 91) s m args below meth c H locs 0 0 Q (F0 m 4 ls []) := by
    intro n4
    induction n4 with
    | zero =>
      intro i4 x2_4 H locs ls hi4 he hP hD hS hl
      have he := (lpX2_allLeaves_4_0 _ _ _ _ _ _ _ _ _ _ _).symm.trans he
      refine lv_iload_n hx hb dX2_allLeaves_4 rfl (lv_at hl 3 rfl) ?_
      refine lv_bipush (v := 12) hx hb dX2_allLeaves_5 (by decide) ?_
      refine lv_icmp_ge (tgt := 25) hx hb dX2_allLeaves_7 (by decide) (fun _ => ?_) (fun c => absurd c (gv_ge (N := 12) rfl (rfl : (12 : Int32) = nI 12) (by omega) (by omega)))
      refine lv_iload_n hx hb dX2_allLeaves_25 rfl (lv_at hl 2 rfl) ?_
      exact kr x2_4 () _ _ _ _ he hP hS dX2_allLeaves_26
    | succ n4 ih4 =>
      intro i4 x2_4 H locs ls hi4 he hP hD hS hl
      have he := (lpX2_allLeaves_4_s _ _ _ _ _ _ _ _ _ _ _ _).symm.trans he
      refine lv_iload_n hx hb dX2_allLeaves_4 rfl (lv_at hl 3 rfl) ?_
      refine lv_bipush (v := 12) hx hb dX2_allLeaves_5 (by decide) ?_
      refine lv_icmp_ge (tgt := 25) hx hb dX2_allLeaves_7 (by decide) (fun c => absurd c (gv_lt (N := 12) rfl (rfl : (12 : Int32) = nI 12) (by omega) (by omega))) (fun _ => ?_)
      refine lv_iload_n hx hb dX2_allLeaves_10 rfl (lv_at hl 2 rfl) ?_
      refine lv_aload_n hx hb dX2_allLeaves_11 rfl (lv_at hl 0 rfl) ?_
      refine lv_iload_n hx hb dX2_allLeaves_12 rfl (lv_at hl 1 rfl) ?_
      refine lv_iload_n hx hb dX2_allLeaves_13 rfl (lv_at hl 3 rfl) ?_
      have hPc : va_P (dC, dI) vwCl (gv_M cI am g be si ge cu pl br th) H := gv_sub [0, 1, 2] hP rfl
      have hDc : va_D (gv_in (gv_M cI am g be si ge cu pl br th)) (gv_M cI am g be si ge cu pl br th) := gv_D hD [0, 1, 2] (by decide) rfl
      refine gv_ki (wf := (fun (_ : Unit) => (gv_M cI am g be si ge cu pl br th))) (wc := (gv_M cI am g be si ge cu pl br th)) [0, 1, 2] (fun _ => rfl) hP hD hS rfl rfl (va_runV (As := [.int (nI w1), .int (nI i4)]) (rest := [.int x2_4]) ⟨hx, hb, hml, hown, hts⟩ (kX2_inColumn l dC dI cI cL am g be si ge cu pl br th (nI w1) w1 rfl (nI i4) (by omega) (gv_in (gv_M cI am g be si ge cu pl br th))) (cwV (rm := gv_R 3 69) 2 hts gX2_allLeaves_X2_inColumn rfl rfl rfl (by decide +kernel) ⟨Nat.le_of_ble_eq_true rfl, Nat.le_of_ble_eq_true rfl⟩) (gv_preV (ci := 2) hK hPc hDc hN rfl rfl) rfl rfl hl.1 rfl (lv_room (Nat.le_of_ble_eq_true rfl)) dX2_allLeaves_14 ⟨Nat.zero_le _, Nat.zero_le _⟩) (fun q14 u H locs hw hP hD hS => ?_)
      have he := gv_q hw he
      have hP : va_P (dC, dI) vwCl (gv_M cI am g be si ge cu pl br th) H := hP
      have hD : va_D A (gv_M cI am g be si ge cu pl br th) := hD
      refine lv_iadd hx hb dX2_allLeaves_17 ?_
      refine lv_istore_n (lv' := [(2, .int (x2_4 + q14)), (0, .ref (am 0)), (1, .int (nI w1)), (3, .int (nI i4))]) hx hb dX2_allLeaves_18 rfl hl (by decide) rfl (fun ls hl => ?_)
      refine lv_iinc (v := (nI (i4 + 1))) (lv' := [(3, .int (nI (i4 + 1))), (2, .int (x2_4 + q14)), (0, .ref (am 0)), (1, .int (nI w1))]) hx hb dX2_allLeaves_19 hl (k := 3) rfl (nI_1 i4) (by decide) rfl (fun ls hl => ?_)
      refine lv_goto (tgt := 4) hx hb dX2_allLeaves_22 (by decide) ?_
      exact ih4 (i4 + 1) (x2_4 + q14) _ _ _ (by omega) he hP hD hS (lv_sub hl [2, 3, 1, 0] rfl)
  exact L4 12 0 0 _ _ _ (by omega) he hP hD hS (lv_sub hl [2, 3, 1, 0] rfl)
def lpX2_allLit_4 (n1_4 : Nat) (g_c : Nat → Int32) (be_c : Nat → Int32) (si_c : Int32) (ge_c : Int32) (cu_c : Int32) (pl_c : Int32) (br_c : Int32) (th_c : Int32) : Nat → Nat → (Int32) → Int32
  | 0, _, x2_4 => x2_4
  | n4 + 1, i4, x2_4 => gv_b (spX2_inColumn g_c be_c si_c ge_c cu_c pl_c br_c th_c n1_4 (nI i4)) (fun q14 => (if q14 ≤ 0 then lpX2_allLit_4 n1_4 g_c be_c si_c ge_c cu_c pl_c br_c th_c n4 (i4 + 1) (x2_4 + 0) else lpX2_allLit_4 n1_4 g_c be_c si_c ge_c cu_c pl_c br_c th_c n4 (i4 + 1) (x2_4 + 1)))
theorem lpX2_allLit_4_0 (n1_4 : Nat) (g_c : Nat → Int32) (be_c : Nat → Int32) (si_c : Int32) (ge_c : Int32) (cu_c : Int32) (pl_c : Int32) (br_c : Int32) (th_c : Int32) (i4 : Nat) (x2_4 : Int32) : lpX2_allLit_4 n1_4 g_c be_c si_c ge_c cu_c pl_c br_c th_c 0 i4 x2_4 = x2_4 := rfl
theorem lpX2_allLit_4_s (n1_4 : Nat) (g_c : Nat → Int32) (be_c : Nat → Int32) (si_c : Int32) (ge_c : Int32) (cu_c : Int32) (pl_c : Int32) (br_c : Int32) (th_c : Int32) (n4 : Nat) (i4 : Nat) (x2_4 : Int32) : lpX2_allLit_4 n1_4 g_c be_c si_c ge_c cu_c pl_c br_c th_c (n4 + 1) i4 x2_4 = gv_b (spX2_inColumn g_c be_c si_c ge_c cu_c pl_c br_c th_c n1_4 (nI i4)) (fun q14 => (if q14 ≤ 0 then lpX2_allLit_4 n1_4 g_c be_c si_c ge_c cu_c pl_c br_c th_c n4 (i4 + 1) (x2_4 + 0) else lpX2_allLit_4 n1_4 g_c be_c si_c ge_c cu_c pl_c br_c th_c n4 (i4 + 1) (x2_4 + 1))) := rfl
def spX2_allLit (g : Nat → Int32) (be : Nat → Int32) (si : Int32) (ge : Int32) (cu : Int32) (pl : Int32) (br : Int32) (th : Int32) (w1 : Nat) : Int32 := lpX2_allLit_4 w1 g be si ge cu pl br th 12 0 0
theorem spX2_allLit_e (g : Nat → Int32) (be : Nat → Int32) (si : Int32) (ge : Int32) (cu : Int32) (pl : Int32) (br : Int32) (th : Int32) (w1 : Nat) : spX2_allLit g be si ge cu pl br th w1 = lpX2_allLit_4 w1 g be si ge cu pl br th 12 0 0 := rfl
set_option maxHeartbeats 4000000 in
set_option maxRecDepth 100000 in
theorem kX2_allLit (l : Launch) (dC : Nat → ClassId) (dI : Nat → Nat → Nat) (cI cL : ClassId) (am : Nat → Nat) (g : Nat → Int32) (be : Nat → Int32) (si : Int32) (ge : Int32) (cu : Int32) (pl : Int32) (br : Int32) (th : Int32) (p1 : Int32) (w1 : Nat) (hw1 : p1 = nI w1) (hy0 : w1 < 62) : gv_Mi l yX2_allLit wsX2_allLit 4 91 (dC, dI) [(cI, .int), (cL, .long)] [.ref (am 0), .int p1] (gv_M cI am g be si ge cu pl br th) (fun (r : Int32) (_ : Unit) => r = spX2_allLit g be si ge cu pl br th w1) (fun (_ : Unit) => (gv_M cI am g be si ge cu pl br th)) := by
  subst hw1
  refine gv_ofi (cc := cX2_allLit) (maxL := 4) (own := RX2) (by decide) rfl (Nat.le_of_ble_eq_true rfl) rfl ?_
  intro A p e s m args below meth c Q ls H locs hx hb hml hts hown hP hK hD hN hS hl kr
  have inX2 : ∀ w ∈ wsX20, w ∈ wsX2_allLit := (fun _ h => List.mem_cons_of_mem _ (List.mem_append_right _ h))
  have hl : lv_has ls 4 [(0, .ref (am 0)), (1, .int (nI w1))] := hl
  have he := (spX2_allLit_e g be si ge cu pl br th w1).symm
  refine lv_iconst (v := 0) hx hb dX2_allLit_0 (by decide) ?_
  refine lv_istore_n (lv' := [(2, .int 0), (0, .ref (am 0)), (1, .int (nI w1))]) hx hb dX2_allLit_1 rfl hl (by decide) rfl (fun ls hl => ?_)
  refine lv_iconst (v := 0) hx hb dX2_allLit_2 (by decide) ?_
  refine lv_istore_n (lv' := [(3, .int 0), (2, .int 0), (0, .ref (am 0)), (1, .int (nI w1))]) hx hb dX2_allLit_3 rfl hl (by decide) rfl (fun ls hl => ?_)
  have L4 : ∀ (n4 i4 : Nat) (x2_4 : Int32) (H : Heap) (locs : List Loc) (ls : Array Slot), i4 + n4 = 12 → lpX2_allLit_4 w1 g be si ge cu pl br th n4 i4 x2_4 = spX2_allLit g be si ge cu pl br th w1 → va_P (dC, dI) vwCl (gv_M cI am g be si ge cu pl br th) H → va_D A (gv_M cI am g be si ge cu pl br th) → va_S A s.heap H locs → lv_has ls 4 [(0, .ref (am 0)), (1, .int (nI w1)), (2, .int x2_4), (3, .int (nI i4))] → W p l e (gv_R 4 91) s m args below meth c H locs 0 0 Q (F0 m 4 ls []) := by
    intro n4
    induction n4 with
    | zero =>
      intro i4 x2_4 H locs ls hi4 he hP hD hS hl
      have he := (lpX2_allLit_4_0 _ _ _ _ _ _ _ _ _ _ _).symm.trans he
      refine lv_iload_n hx hb dX2_allLit_4 rfl (lv_at hl 3 rfl) ?_
      refine lv_bipush (v := 12) hx hb dX2_allLit_5 (by decide) ?_
      refine lv_icmp_ge (tgt := 33) hx hb dX2_allLit_7 (by decide) (fun _ => ?_) (fun c => absurd c (gv_ge (N := 12) rfl (rfl : (12 : Int32) = nI 12) (by omega) (by omega)))
      refine lv_iload_n hx hb dX2_allLit_33 rfl (lv_at hl 2 rfl) ?_
      exact kr x2_4 () _ _ _ _ he hP hS dX2_allLit_34
    | succ n4 ih4 =>
      intro i4 x2_4 H locs ls hi4 he hP hD hS hl
      have he := (lpX2_allLit_4_s _ _ _ _ _ _ _ _ _ _ _ _).symm.trans he
      refine lv_iload_n hx hb dX2_allLit_4 rfl (lv_at hl 3 rfl) ?_
      refine lv_bipush (v := 12) hx hb dX2_allLit_5 (by decide) ?_
      refine lv_icmp_ge (tgt := 33) hx hb dX2_allLit_7 (by decide) (fun c => absurd c (gv_lt (N := 12) rfl (rfl : (12 : Int32) = nI 12) (by omega) (by omega))) (fun _ => ?_)
      refine lv_iload_n hx hb dX2_allLit_10 rfl (lv_at hl 2 rfl) ?_
      refine lv_aload_n hx hb dX2_allLit_11 rfl (lv_at hl 0 rfl) ?_
      refine lv_iload_n hx hb dX2_allLit_12 rfl (lv_at hl 1 rfl) ?_
      refine lv_iload_n hx hb dX2_allLit_13 rfl (lv_at hl 3 rfl) ?_
      have hPc : va_P (dC, dI) vwCl (gv_M cI am g be si ge cu pl br th) H := gv_sub [0, 1, 2] hP rfl
      have hDc : va_D (gv_in (gv_M cI am g be si ge cu pl br th)) (gv_M cI am g be si ge cu pl br th) := gv_D hD [0, 1, 2] (by decide) rfl
      refine gv_ki (wf := (fun (_ : Unit) => (gv_M cI am g be si ge cu pl br th))) (wc := (gv_M cI am g be si ge cu pl br th)) [0, 1, 2] (fun _ => rfl) hP hD hS rfl rfl (va_runV (As := [.int (nI w1), .int (nI i4)]) (rest := [.int x2_4]) ⟨hx, hb, hml, hown, hts⟩ (kX2_inColumn l dC dI cI cL am g be si ge cu pl br th (nI w1) w1 rfl (nI i4) (by omega) (gv_in (gv_M cI am g be si ge cu pl br th))) (cwV (rm := gv_R 3 69) 2 hts gX2_allLit_X2_inColumn rfl rfl rfl (by decide +kernel) ⟨Nat.le_of_ble_eq_true rfl, Nat.le_of_ble_eq_true rfl⟩) (gv_preV (ci := 2) hK hPc hDc hN rfl rfl) rfl rfl hl.1 rfl (lv_room (Nat.le_of_ble_eq_true rfl)) dX2_allLit_14 ⟨Nat.zero_le _, Nat.zero_le _⟩) (fun q14 u H locs hw hP hD hS => ?_)
      have he := gv_q hw he
      have hP : va_P (dC, dI) vwCl (gv_M cI am g be si ge cu pl br th) H := hP
      have hD : va_D A (gv_M cI am g be si ge cu pl br th) := hD
      refine lv_if_le (tgt := 24) hx hb dX2_allLit_17 (by decide) (fun cd17 => ?_) (fun cd17 => ?_)
      · have he := gv_t cd17 he
        refine lv_iconst (v := 0) hx hb dX2_allLit_24 (by decide) ?_
        refine lv_iadd hx hb dX2_allLit_25 ?_
        refine lv_istore_n (lv' := [(2, .int (x2_4 + 0)), (0, .ref (am 0)), (1, .int (nI w1)), (3, .int (nI i4))]) hx hb dX2_allLit_26 rfl hl (by decide) rfl (fun ls hl => ?_)
        refine lv_iinc (v := (nI (i4 + 1))) (lv' := [(3, .int (nI (i4 + 1))), (2, .int (x2_4 + 0)), (0, .ref (am 0)), (1, .int (nI w1))]) hx hb dX2_allLit_27 hl (k := 3) rfl (nI_1 i4) (by decide) rfl (fun ls hl => ?_)
        refine lv_goto (tgt := 4) hx hb dX2_allLit_30 (by decide) ?_
        exact ih4 (i4 + 1) (x2_4 + 0) _ _ _ (by omega) he hP hD hS (lv_sub hl [2, 3, 1, 0] rfl)
      · have he := gv_f cd17 he
        refine lv_iconst (v := 1) hx hb dX2_allLit_20 (by decide) ?_
        refine lv_goto (tgt := 25) hx hb dX2_allLit_21 (by decide) ?_
        refine lv_iadd hx hb dX2_allLit_25 ?_
        refine lv_istore_n (lv' := [(2, .int (x2_4 + 1)), (0, .ref (am 0)), (1, .int (nI w1)), (3, .int (nI i4))]) hx hb dX2_allLit_26 rfl hl (by decide) rfl (fun ls hl => ?_)
        refine lv_iinc (v := (nI (i4 + 1))) (lv' := [(3, .int (nI (i4 + 1))), (2, .int (x2_4 + 1)), (0, .ref (am 0)), (1, .int (nI w1))]) hx hb dX2_allLit_27 hl (k := 3) rfl (nI_1 i4) (by decide) rfl (fun ls hl => ?_)
        refine lv_goto (tgt := 4) hx hb dX2_allLit_30 (by decide) ?_
        exact ih4 (i4 + 1) (x2_4 + 1) _ _ _ (by omega) he hP hD hS (lv_sub hl [2, 3, 1, 0] rfl)
  exact L4 12 0 0 _ _ _ (by omega) he hP hD hS (lv_sub hl [2, 3, 1, 0] rfl)
def spX2_becomes (g : Nat → Int32) (be : Nat → Int32) (si : Int32) (ge : Int32) (cu : Int32) (pl : Int32) (br : Int32) (th : Int32) (w1 : Nat) (w2 : Nat) (w3 : Nat) : Int32 := (if (g (((96 * w1) + (12 * w2)) + w3)) = 2 then (if (g (((96 * w1) + (12 * w2)) + w3)) = 1 then 1 else 0) else (if (nI w2) = 0 then (if (g (((96 * w1) + (12 * w2)) + w3)) = 1 then 1 else 0) else gv_b (spX2_holders g be si ge cu pl br th w1 (nI w2) (nI w3)) (fun q44 => gv_b (spX2_neighbours g be si ge cu pl br th w1 (nI w2) (nI w3)) (fun q53 => gv_b (spX2_shade g be si ge cu pl br th w1 (w2 + 1) (nI w3)) (fun q62 => (if (g (((96 * w1) + (12 * w2)) + w3)) = 0 then (if q44 = 1 then (if 3 < q53 then 0 else (if 2 < q62 then 0 else 1)) else (if q44 = 2 then (if 3 < q53 then 0 else (if 2 < q62 then 0 else 1)) else 0)) else (if q44 = 0 then 0 else (if 5 < q53 then 0 else (if q62 ≤ 4 then 1 else 0)))))))))
theorem spX2_becomes_e (g : Nat → Int32) (be : Nat → Int32) (si : Int32) (ge : Int32) (cu : Int32) (pl : Int32) (br : Int32) (th : Int32) (w1 : Nat) (w2 : Nat) (w3 : Nat) : spX2_becomes g be si ge cu pl br th w1 w2 w3 = (if (g (((96 * w1) + (12 * w2)) + w3)) = 2 then (if (g (((96 * w1) + (12 * w2)) + w3)) = 1 then 1 else 0) else (if (nI w2) = 0 then (if (g (((96 * w1) + (12 * w2)) + w3)) = 1 then 1 else 0) else gv_b (spX2_holders g be si ge cu pl br th w1 (nI w2) (nI w3)) (fun q44 => gv_b (spX2_neighbours g be si ge cu pl br th w1 (nI w2) (nI w3)) (fun q53 => gv_b (spX2_shade g be si ge cu pl br th w1 (w2 + 1) (nI w3)) (fun q62 => (if (g (((96 * w1) + (12 * w2)) + w3)) = 0 then (if q44 = 1 then (if 3 < q53 then 0 else (if 2 < q62 then 0 else 1)) else (if q44 = 2 then (if 3 < q53 then 0 else (if 2 < q62 then 0 else 1)) else 0)) else (if q44 = 0 then 0 else (if 5 < q53 then 0 else (if q62 ≤ 4 then 1 else 0))))))))) := rfl
set_option maxHeartbeats 4000000 in
set_option maxRecDepth 100000 in
theorem kX2_becomes (l : Launch) (dC : Nat → ClassId) (dI : Nat → Nat → Nat) (cI cL : ClassId) (am : Nat → Nat) (g : Nat → Int32) (be : Nat → Int32) (si : Int32) (ge : Int32) (cu : Int32) (pl : Int32) (br : Int32) (th : Int32) (p1 : Int32) (w1 : Nat) (hw1 : p1 = nI w1) (p2 : Int32) (w2 : Nat) (hw2 : p2 = nI w2) (p3 : Int32) (w3 : Nat) (hw3 : p3 = nI w3) (hy0 : w1 < 62) (hy1 : w2 < 8) (hy2 : w3 < 12) : gv_Mi l yX2_becomes wsX2_becomes 4 90 (dC, dI) [(cI, .int), (cL, .long)] [.ref (am 0), .int p1, .int p2, .int p3] (gv_M cI am g be si ge cu pl br th) (fun (r : Int32) (_ : Unit) => r = spX2_becomes g be si ge cu pl br th w1 w2 w3) (fun (_ : Unit) => (gv_M cI am g be si ge cu pl br th)) := by
  subst hw1
  subst hw2
  subst hw3
  refine gv_ofi (cc := cX2_becomes) (maxL := 8) (own := RX2) (by decide) rfl (Nat.le_of_ble_eq_true rfl) rfl ?_
  intro A p e s m args below meth c Q ls H locs hx hb hml hts hown hP hK hD hN hS hl kr
  have inX2 : ∀ w ∈ wsX20, w ∈ wsX2_becomes := (fun _ h => List.mem_cons_of_mem _ (List.mem_append_right _ h))
  have hl : lv_has ls 8 [(0, .ref (am 0)), (1, .int (nI w1)), (2, .int (nI w2)), (3, .int (nI w3))] := hl
  have he := (spX2_becomes_e g be si ge cu pl br th w1 w2 w3).symm
  refine lv_aload_n hx hb dX2_becomes_0 rfl (lv_at hl 0 rfl) ?_
  refine va_get (D := (dC, dI)) (ci := 2) (v := .ref (am 1)) (C := RX2) (T := TX2) (N := 8) hx hb hts inX2 hown hK hP 0 rfl rfl 0 (by decide) (hts (.fieldLink RX2 7 "VineWallModel" "walls" "[I") (List.mem_of_getElem? (i := 1) rfl)) (fun _ h9 => h9) rfl dX2_becomes_1 ?_
  refine lv_bipush (v := 96) hx hb dX2_becomes_4 (by decide) ?_
  refine lv_iload_n hx hb dX2_becomes_6 rfl (lv_at hl 1 rfl) ?_
  refine lv_imul hx hb dX2_becomes_7 ?_
  refine lv_bipush (v := 12) hx hb dX2_becomes_8 (by decide) ?_
  refine lv_iload_n hx hb dX2_becomes_10 rfl (lv_at hl 2 rfl) ?_
  refine lv_imul hx hb dX2_becomes_11 ?_
  refine lv_iadd hx hb dX2_becomes_12 ?_
  refine lv_iload_n hx hb dX2_becomes_13 rfl (lv_at hl 3 rfl) ?_
  refine lv_iadd hx hb dX2_becomes_14 ?_
  refine gv_iald (cA := cI) (f := g) (k := (((96 * w1) + (12 * w2)) + w3)) hx hb hK hP 1 0 rfl rfl (gn_add (gn_add (gn_mul (rfl : (96 : Int32) = nI 96) rfl) (gn_mul (rfl : (12 : Int32) = nI 12) rfl)) rfl) (by omega) (by decide) dX2_becomes_15 ?_
  refine lv_istore (lv' := [(4, .int (g (((96 * w1) + (12 * w2)) + w3))), (0, .ref (am 0)), (1, .int (nI w1)), (2, .int (nI w2)), (3, .int (nI w3))]) hx hb dX2_becomes_16 hl (by decide) rfl (fun ls hl => ?_)
  refine lv_iload hx hb dX2_becomes_18 (lv_at hl 0 rfl) ?_
  refine lv_iconst (v := 2) hx hb dX2_becomes_20 (by decide) ?_
  refine lv_icmp_eq (tgt := 28) hx hb dX2_becomes_21 (by decide) (fun cd21 => ?_) (fun cd21 => ?_)
  · have he := gv_t cd21 he
    refine lv_iload hx hb dX2_becomes_28 (lv_at hl 0 rfl) ?_
    refine lv_iconst (v := 1) hx hb dX2_becomes_30 (by decide) ?_
    refine lv_icmp_ne (tgt := 38) hx hb dX2_becomes_31 (by decide) (fun cd31 => ?_) (fun cd31 => ?_)
    · have he := gv_f cd31 he
      refine lv_iconst (v := 0) hx hb dX2_becomes_38 (by decide) ?_
      exact kr 0 () _ _ _ _ he hP hS dX2_becomes_39
    · have he := gv_t cd31 he
      refine lv_iconst (v := 1) hx hb dX2_becomes_34 (by decide) ?_
      refine lv_goto (tgt := 39) hx hb dX2_becomes_35 (by decide) ?_
      exact kr 1 () _ _ _ _ he hP hS dX2_becomes_39
  · have he := gv_f cd21 he
    refine lv_iload_n hx hb dX2_becomes_24 rfl (lv_at hl 3 rfl) ?_
    refine lv_if_ne (tgt := 40) hx hb dX2_becomes_25 (by decide) (fun cd25 => ?_) (fun cd25 => ?_)
    · have he := gv_f cd25 he
      refine lv_aload_n hx hb dX2_becomes_40 rfl (lv_at hl 1 rfl) ?_
      refine lv_iload_n hx hb dX2_becomes_41 rfl (lv_at hl 2 rfl) ?_
      refine lv_iload_n hx hb dX2_becomes_42 rfl (lv_at hl 3 rfl) ?_
      refine lv_iload_n hx hb dX2_becomes_43 rfl (lv_at hl 4 rfl) ?_
      have hPc : va_P (dC, dI) vwCl (gv_M cI am g be si ge cu pl br th) H := gv_sub [0, 1, 2] hP rfl
      have hDc : va_D (gv_in (gv_M cI am g be si ge cu pl br th)) (gv_M cI am g be si ge cu pl br th) := gv_D hD [0, 1, 2] (by decide) rfl
      refine gv_ki (wf := (fun (_ : Unit) => (gv_M cI am g be si ge cu pl br th))) (wc := (gv_M cI am g be si ge cu pl br th)) [0, 1, 2] (fun _ => rfl) hP hD hS rfl rfl (va_runV (As := [.int (nI w1), .int (nI w2), .int (nI w3)]) (rest := []) ⟨hx, hb, hml, hown, hts⟩ (kX2_holders l dC dI cI cL am g be si ge cu pl br th (nI w1) w1 rfl (nI w2) (nI w3) (by omega) (gv_in (gv_M cI am g be si ge cu pl br th))) (cwV (rm := gv_R 3 67) 3 hts gX2_becomes_X2_holders rfl rfl rfl (by decide +kernel) ⟨Nat.le_of_ble_eq_true rfl, Nat.le_of_ble_eq_true rfl⟩) (gv_preV (ci := 2) hK hPc hDc hN rfl rfl) rfl rfl hl.1 rfl (lv_room (Nat.le_of_ble_eq_true rfl)) dX2_becomes_44 ⟨Nat.zero_le _, Nat.zero_le _⟩) (fun q44 u H locs hw hP hD hS => ?_)
      have he := gv_q hw he
      have hP : va_P (dC, dI) vwCl (gv_M cI am g be si ge cu pl br th) H := hP
      have hD : va_D A (gv_M cI am g be si ge cu pl br th) := hD
      refine lv_istore (lv' := [(5, .int q44), (4, .int (g (((96 * w1) + (12 * w2)) + w3))), (0, .ref (am 0)), (1, .int (nI w1)), (2, .int (nI w2)), (3, .int (nI w3))]) hx hb dX2_becomes_47 hl (by decide) rfl (fun ls hl => ?_)
      refine lv_aload_n hx hb dX2_becomes_49 rfl (lv_at hl 2 rfl) ?_
      refine lv_iload_n hx hb dX2_becomes_50 rfl (lv_at hl 3 rfl) ?_
      refine lv_iload_n hx hb dX2_becomes_51 rfl (lv_at hl 4 rfl) ?_
      refine lv_iload_n hx hb dX2_becomes_52 rfl (lv_at hl 5 rfl) ?_
      have hPc : va_P (dC, dI) vwCl (gv_M cI am g be si ge cu pl br th) H := gv_sub [0, 1, 2] hP rfl
      have hDc : va_D (gv_in (gv_M cI am g be si ge cu pl br th)) (gv_M cI am g be si ge cu pl br th) := gv_D hD [0, 1, 2] (by decide) rfl
      refine gv_ki (wf := (fun (_ : Unit) => (gv_M cI am g be si ge cu pl br th))) (wc := (gv_M cI am g be si ge cu pl br th)) [0, 1, 2] (fun _ => rfl) hP hD hS rfl rfl (va_runV (As := [.int (nI w1), .int (nI w2), .int (nI w3)]) (rest := []) ⟨hx, hb, hml, hown, hts⟩ (kX2_neighbours l dC dI cI cL am g be si ge cu pl br th (nI w1) w1 rfl (nI w2) (nI w3) (by omega) (gv_in (gv_M cI am g be si ge cu pl br th))) (cwV (rm := gv_R 3 67) 3 hts gX2_becomes_X2_neighbours rfl rfl rfl (by decide +kernel) ⟨Nat.le_of_ble_eq_true rfl, Nat.le_of_ble_eq_true rfl⟩) (gv_preV (ci := 2) hK hPc hDc hN rfl rfl) rfl rfl hl.1 rfl (lv_room (Nat.le_of_ble_eq_true rfl)) dX2_becomes_53 ⟨Nat.zero_le _, Nat.zero_le _⟩) (fun q53 u H locs hw hP hD hS => ?_)
      have he := gv_q hw he
      have hP : va_P (dC, dI) vwCl (gv_M cI am g be si ge cu pl br th) H := hP
      have hD : va_D A (gv_M cI am g be si ge cu pl br th) := hD
      refine lv_istore (lv' := [(6, .int q53), (5, .int q44), (4, .int (g (((96 * w1) + (12 * w2)) + w3))), (0, .ref (am 0)), (1, .int (nI w1)), (2, .int (nI w2)), (3, .int (nI w3))]) hx hb dX2_becomes_56 hl (by decide) rfl (fun ls hl => ?_)
      refine lv_aload_n hx hb dX2_becomes_58 rfl (lv_at hl 3 rfl) ?_
      refine lv_iload_n hx hb dX2_becomes_59 rfl (lv_at hl 4 rfl) ?_
      refine lv_iload_n hx hb dX2_becomes_60 rfl (lv_at hl 5 rfl) ?_
      refine lv_iload_n hx hb dX2_becomes_61 rfl (lv_at hl 6 rfl) ?_
      have hPc : va_P (dC, dI) vwCl (gv_M cI am g be si ge cu pl br th) H := gv_sub [0, 1, 2] hP rfl
      have hDc : va_D (gv_in (gv_M cI am g be si ge cu pl br th)) (gv_M cI am g be si ge cu pl br th) := gv_D hD [0, 1, 2] (by decide) rfl
      refine gv_ki (wf := (fun (_ : Unit) => (gv_M cI am g be si ge cu pl br th))) (wc := (gv_M cI am g be si ge cu pl br th)) [0, 1, 2] (fun _ => rfl) hP hD hS rfl rfl (va_runV (As := [.int (nI w1), .int (nI w2), .int (nI w3)]) (rest := []) ⟨hx, hb, hml, hown, hts⟩ (kX2_shade l dC dI cI cL am g be si ge cu pl br th (nI w1) w1 rfl (nI w2) (w2 + 1) (gn_add rfl (rfl : (1 : Int32) = nI 1)) (nI w3) (by omega) (by omega) (gv_in (gv_M cI am g be si ge cu pl br th))) (cwV (rm := gv_R 2 44) 3 hts gX2_becomes_X2_shade rfl rfl rfl (by decide +kernel) ⟨Nat.le_of_ble_eq_true rfl, Nat.le_of_ble_eq_true rfl⟩) (gv_preV (ci := 2) hK hPc hDc hN rfl rfl) rfl rfl hl.1 rfl (lv_room (Nat.le_of_ble_eq_true rfl)) dX2_becomes_62 ⟨Nat.zero_le _, Nat.zero_le _⟩) (fun q62 u H locs hw hP hD hS => ?_)
      have he := gv_q hw he
      have hP : va_P (dC, dI) vwCl (gv_M cI am g be si ge cu pl br th) H := hP
      have hD : va_D A (gv_M cI am g be si ge cu pl br th) := hD
      refine lv_istore (lv' := [(7, .int q62), (6, .int q53), (5, .int q44), (4, .int (g (((96 * w1) + (12 * w2)) + w3))), (0, .ref (am 0)), (1, .int (nI w1)), (2, .int (nI w2)), (3, .int (nI w3))]) hx hb dX2_becomes_65 hl (by decide) rfl (fun ls hl => ?_)
      refine lv_iload hx hb dX2_becomes_67 (lv_at hl 3 rfl) ?_
      refine lv_if_ne (tgt := 102) hx hb dX2_becomes_69 (by decide) (fun cd69 => ?_) (fun cd69 => ?_)
      · have he := gv_f cd69 he
        refine lv_iload hx hb dX2_becomes_102 (lv_at hl 2 rfl) ?_
        refine lv_if_eq (tgt := 119) hx hb dX2_becomes_104 (by decide) (fun cd104 => ?_) (fun cd104 => ?_)
        · have he := gv_t cd104 he
          refine lv_iconst (v := 0) hx hb dX2_becomes_119 (by decide) ?_
          refine lv_goto (tgt := 124) hx hb dX2_becomes_120 (by decide) ?_
          exact kr 0 () _ _ _ _ he hP hS dX2_becomes_124
        · have he := gv_f cd104 he
          refine lv_iload hx hb dX2_becomes_107 (lv_at hl 1 rfl) ?_
          refine lv_iconst (v := 5) hx hb dX2_becomes_109 (by decide) ?_
          refine lv_icmp_gt (tgt := 119) hx hb dX2_becomes_110 (by decide) (fun cd110 => ?_) (fun cd110 => ?_)
          · have he := gv_t cd110 he
            refine lv_iconst (v := 0) hx hb dX2_becomes_119 (by decide) ?_
            refine lv_goto (tgt := 124) hx hb dX2_becomes_120 (by decide) ?_
            exact kr 0 () _ _ _ _ he hP hS dX2_becomes_124
          · have he := gv_f cd110 he
            refine lv_iload hx hb dX2_becomes_113 (lv_at hl 0 rfl) ?_
            refine lv_iconst (v := 4) hx hb dX2_becomes_115 (by decide) ?_
            refine lv_icmp_le (tgt := 123) hx hb dX2_becomes_116 (by decide) (fun cd116 => ?_) (fun cd116 => ?_)
            · have he := gv_t cd116 he
              refine lv_iconst (v := 1) hx hb dX2_becomes_123 (by decide) ?_
              exact kr 1 () _ _ _ _ he hP hS dX2_becomes_124
            · have he := gv_f cd116 he
              refine lv_iconst (v := 0) hx hb dX2_becomes_119 (by decide) ?_
              refine lv_goto (tgt := 124) hx hb dX2_becomes_120 (by decide) ?_
              exact kr 0 () _ _ _ _ he hP hS dX2_becomes_124
      · have he := gv_t cd69 he
        refine lv_iload hx hb dX2_becomes_72 (lv_at hl 2 rfl) ?_
        refine lv_iconst (v := 1) hx hb dX2_becomes_74 (by decide) ?_
        refine lv_icmp_eq (tgt := 84) hx hb dX2_becomes_75 (by decide) (fun cd75 => ?_) (fun cd75 => ?_)
        · have he := gv_t cd75 he
          refine lv_iload hx hb dX2_becomes_84 (lv_at hl 1 rfl) ?_
          refine lv_iconst (v := 3) hx hb dX2_becomes_86 (by decide) ?_
          refine lv_icmp_gt (tgt := 100) hx hb dX2_becomes_87 (by decide) (fun cd87 => ?_) (fun cd87 => ?_)
          · have he := gv_t cd87 he
            refine lv_iconst (v := 0) hx hb dX2_becomes_100 (by decide) ?_
            exact kr 0 () _ _ _ _ he hP hS dX2_becomes_101
          · have he := gv_f cd87 he
            refine lv_iload hx hb dX2_becomes_90 (lv_at hl 0 rfl) ?_
            refine lv_iconst (v := 2) hx hb dX2_becomes_92 (by decide) ?_
            refine lv_icmp_gt (tgt := 100) hx hb dX2_becomes_93 (by decide) (fun cd93 => ?_) (fun cd93 => ?_)
            · have he := gv_t cd93 he
              refine lv_iconst (v := 0) hx hb dX2_becomes_100 (by decide) ?_
              exact kr 0 () _ _ _ _ he hP hS dX2_becomes_101
            · have he := gv_f cd93 he
              refine lv_iconst (v := 1) hx hb dX2_becomes_96 (by decide) ?_
              refine lv_goto (tgt := 101) hx hb dX2_becomes_97 (by decide) ?_
              exact kr 1 () _ _ _ _ he hP hS dX2_becomes_101
        · have he := gv_f cd75 he
          refine lv_iload hx hb dX2_becomes_78 (lv_at hl 2 rfl) ?_
          refine lv_iconst (v := 2) hx hb dX2_becomes_80 (by decide) ?_
          refine lv_icmp_ne (tgt := 100) hx hb dX2_becomes_81 (by decide) (fun cd81 => ?_) (fun cd81 => ?_)
          · have he := gv_f cd81 he
            refine lv_iconst (v := 0) hx hb dX2_becomes_100 (by decide) ?_
            exact kr 0 () _ _ _ _ he hP hS dX2_becomes_101
          · have he := gv_t cd81 he
            refine lv_iload hx hb dX2_becomes_84 (lv_at hl 1 rfl) ?_
            refine lv_iconst (v := 3) hx hb dX2_becomes_86 (by decide) ?_
            refine lv_icmp_gt (tgt := 100) hx hb dX2_becomes_87 (by decide) (fun cd87 => ?_) (fun cd87 => ?_)
            · have he := gv_t cd87 he
              refine lv_iconst (v := 0) hx hb dX2_becomes_100 (by decide) ?_
              exact kr 0 () _ _ _ _ he hP hS dX2_becomes_101
            · have he := gv_f cd87 he
              refine lv_iload hx hb dX2_becomes_90 (lv_at hl 0 rfl) ?_
              refine lv_iconst (v := 2) hx hb dX2_becomes_92 (by decide) ?_
              refine lv_icmp_gt (tgt := 100) hx hb dX2_becomes_93 (by decide) (fun cd93 => ?_) (fun cd93 => ?_)
              · have he := gv_t cd93 he
                refine lv_iconst (v := 0) hx hb dX2_becomes_100 (by decide) ?_
                exact kr 0 () _ _ _ _ he hP hS dX2_becomes_101
              · have he := gv_f cd93 he
                refine lv_iconst (v := 1) hx hb dX2_becomes_96 (by decide) ?_
                refine lv_goto (tgt := 101) hx hb dX2_becomes_97 (by decide) ?_
                exact kr 1 () _ _ _ _ he hP hS dX2_becomes_101
    · have he := gv_t cd25 he
      refine lv_iload hx hb dX2_becomes_28 (lv_at hl 0 rfl) ?_
      refine lv_iconst (v := 1) hx hb dX2_becomes_30 (by decide) ?_
      refine lv_icmp_ne (tgt := 38) hx hb dX2_becomes_31 (by decide) (fun cd31 => ?_) (fun cd31 => ?_)
      · have he := gv_f cd31 he
        refine lv_iconst (v := 0) hx hb dX2_becomes_38 (by decide) ?_
        exact kr 0 () _ _ _ _ he hP hS dX2_becomes_39
      · have he := gv_t cd31 he
        refine lv_iconst (v := 1) hx hb dX2_becomes_34 (by decide) ?_
        refine lv_goto (tgt := 39) hx hb dX2_becomes_35 (by decide) ?_
        exact kr 1 () _ _ _ _ he hP hS dX2_becomes_39
def lpX2_copies_2 (n1_2 : Nat) (n2_2 : Nat) (be_c : Nat → Int32) (si_c : Int32) (ge_c : Int32) (cu_c : Int32) (pl_c : Int32) (br_c : Int32) (th_c : Int32) : Nat → Nat → (Nat → Int32) → (Nat → Int32)
  | 0, _, g_2 => g_2
  | n2 + 1, i2, g_2 => lpX2_copies_2 n1_2 n2_2 be_c si_c ge_c cu_c pl_c br_c th_c n2 (i2 + 1) (upd g_2 ((96 * n2_2) + i2) (g_2 ((96 * n1_2) + i2)))
theorem lpX2_copies_2_0 (n1_2 : Nat) (n2_2 : Nat) (be_c : Nat → Int32) (si_c : Int32) (ge_c : Int32) (cu_c : Int32) (pl_c : Int32) (br_c : Int32) (th_c : Int32) (i2 : Nat) (g_2 : Nat → Int32) : lpX2_copies_2 n1_2 n2_2 be_c si_c ge_c cu_c pl_c br_c th_c 0 i2 g_2 = g_2 := rfl
theorem lpX2_copies_2_s (n1_2 : Nat) (n2_2 : Nat) (be_c : Nat → Int32) (si_c : Int32) (ge_c : Int32) (cu_c : Int32) (pl_c : Int32) (br_c : Int32) (th_c : Int32) (n2 : Nat) (i2 : Nat) (g_2 : Nat → Int32) : lpX2_copies_2 n1_2 n2_2 be_c si_c ge_c cu_c pl_c br_c th_c (n2 + 1) i2 g_2 = lpX2_copies_2 n1_2 n2_2 be_c si_c ge_c cu_c pl_c br_c th_c n2 (i2 + 1) (upd g_2 ((96 * n2_2) + i2) (g_2 ((96 * n1_2) + i2))) := rfl
def spX2_copies (g : Nat → Int32) (be : Nat → Int32) (si : Int32) (ge : Int32) (cu : Int32) (pl : Int32) (br : Int32) (th : Int32) (w1 : Nat) (w2 : Nat) : (Nat → Int32) := lpX2_copies_2 w1 w2 be si ge cu pl br th 96 0 g
theorem spX2_copies_e (g : Nat → Int32) (be : Nat → Int32) (si : Int32) (ge : Int32) (cu : Int32) (pl : Int32) (br : Int32) (th : Int32) (w1 : Nat) (w2 : Nat) : spX2_copies g be si ge cu pl br th w1 w2 = lpX2_copies_2 w1 w2 be si ge cu pl br th 96 0 g := rfl
set_option maxHeartbeats 4000000 in
set_option maxRecDepth 100000 in
theorem kX2_copies (l : Launch) (dC : Nat → ClassId) (dI : Nat → Nat → Nat) (cI cL : ClassId) (am : Nat → Nat) (g : Nat → Int32) (be : Nat → Int32) (si : Int32) (ge : Int32) (cu : Int32) (pl : Int32) (br : Int32) (th : Int32) (p1 : Int32) (w1 : Nat) (hw1 : p1 = nI w1) (p2 : Int32) (w2 : Nat) (hw2 : p2 = nI w2) (hy0 : w1 < 62) (hy1 : w2 < 62) : gv_Mv l yX2_copies wsX2_copies 0 0 (dC, dI) [(cI, .int), (cL, .long)] [.ref (am 0), .int p1, .int p2] (gv_M cI am g be si ge cu pl br th) (fun (u : (Nat → Int32)) => u = spX2_copies g be si ge cu pl br th w1 w2) (fun (u : (Nat → Int32)) => (gv_M cI am u be si ge cu pl br th)) := by
  subst hw1
  subst hw2
  refine gv_ofv (cc := cX2_copies) (maxL := 4) (own := RX2) (by decide) rfl (Nat.le_of_ble_eq_true rfl) rfl ?_
  intro A p e s m args below meth c Q ls H locs hx hb hml hts hown hP hK hD hN hS hl kr
  have inX2 : ∀ w ∈ wsX20, w ∈ wsX2_copies := (fun _ h => List.mem_cons_of_mem _ (List.mem_append_right _ h))
  have hl : lv_has ls 4 [(0, .ref (am 0)), (1, .int (nI w1)), (2, .int (nI w2))] := hl
  have he := (spX2_copies_e g be si ge cu pl br th w1 w2).symm
  refine lv_iconst (v := 0) hx hb dX2_copies_0 (by decide) ?_
  refine lv_istore_n (lv' := [(3, .int 0), (0, .ref (am 0)), (1, .int (nI w1)), (2, .int (nI w2))]) hx hb dX2_copies_1 rfl hl (by decide) rfl (fun ls hl => ?_)
  have L2 : ∀ (n2 i2 : Nat) (g_2 : Nat → Int32) (H : Heap) (locs : List Loc) (ls : Array Slot), i2 + n2 = 96 → lpX2_copies_2 w1 w2 be si ge cu pl br th n2 i2 g_2 = spX2_copies g be si ge cu pl br th w1 w2 → va_P (dC, dI) vwCl (gv_M cI am g_2 be si ge cu pl br th) H → va_D A (gv_M cI am g_2 be si ge cu pl br th) → va_S A s.heap H locs → lv_has ls 4 [(0, .ref (am 0)), (1, .int (nI w1)), (2, .int (nI w2)), (3, .int (nI i2))] → W p l e (gv_R 0 0) s m args below meth c H locs 0 0 Q (F0 m 2 ls []) := by
    intro n2
    induction n2 with
    | zero =>
      intro i2 g_2 H locs ls hi2 he hP hD hS hl
      have he := (lpX2_copies_2_0 _ _ _ _ _ _ _ _ _ _ _).symm.trans he
      refine lv_iload_n hx hb dX2_copies_2 rfl (lv_at hl 3 rfl) ?_
      refine lv_bipush (v := 96) hx hb dX2_copies_3 (by decide) ?_
      refine lv_icmp_ge (tgt := 36) hx hb dX2_copies_5 (by decide) (fun _ => ?_) (fun c => absurd c (gv_ge (N := 96) rfl (rfl : (96 : Int32) = nI 96) (by omega) (by omega)))
      exact kr g_2 _ _ _ _ he hP hS dX2_copies_36
    | succ n2 ih2 =>
      intro i2 g_2 H locs ls hi2 he hP hD hS hl
      have he := (lpX2_copies_2_s _ _ _ _ _ _ _ _ _ _ _ _).symm.trans he
      refine lv_iload_n hx hb dX2_copies_2 rfl (lv_at hl 3 rfl) ?_
      refine lv_bipush (v := 96) hx hb dX2_copies_3 (by decide) ?_
      refine lv_icmp_ge (tgt := 36) hx hb dX2_copies_5 (by decide) (fun c => absurd c (gv_lt (N := 96) rfl (rfl : (96 : Int32) = nI 96) (by omega) (by omega))) (fun _ => ?_)
      refine lv_aload_n hx hb dX2_copies_8 rfl (lv_at hl 0 rfl) ?_
      refine va_get (D := (dC, dI)) (ci := 2) (v := .ref (am 1)) (C := RX2) (T := TX2) (N := 8) hx hb hts inX2 hown hK hP 0 rfl rfl 0 (by decide) (hts (.fieldLink RX2 7 "VineWallModel" "walls" "[I") (List.mem_of_getElem? (i := 1) rfl)) (fun _ h9 => h9) rfl dX2_copies_9 ?_
      refine lv_bipush (v := 96) hx hb dX2_copies_12 (by decide) ?_
      refine lv_iload_n hx hb dX2_copies_14 rfl (lv_at hl 2 rfl) ?_
      refine lv_imul hx hb dX2_copies_15 ?_
      refine lv_iload_n hx hb dX2_copies_16 rfl (lv_at hl 3 rfl) ?_
      refine lv_iadd hx hb dX2_copies_17 ?_
      refine lv_aload_n hx hb dX2_copies_18 rfl (lv_at hl 0 rfl) ?_
      refine va_get (D := (dC, dI)) (ci := 2) (v := .ref (am 1)) (C := RX2) (T := TX2) (N := 8) hx hb hts inX2 hown hK hP 0 rfl rfl 0 (by decide) (hts (.fieldLink RX2 7 "VineWallModel" "walls" "[I") (List.mem_of_getElem? (i := 1) rfl)) (fun _ h9 => h9) rfl dX2_copies_19 ?_
      refine lv_bipush (v := 96) hx hb dX2_copies_22 (by decide) ?_
      refine lv_iload_n hx hb dX2_copies_24 rfl (lv_at hl 1 rfl) ?_
      refine lv_imul hx hb dX2_copies_25 ?_
      refine lv_iload_n hx hb dX2_copies_26 rfl (lv_at hl 3 rfl) ?_
      refine lv_iadd hx hb dX2_copies_27 ?_
      refine gv_iald (cA := cI) (f := g_2) (k := ((96 * w1) + i2)) hx hb hK hP 1 0 rfl rfl (gn_add (gn_mul (rfl : (96 : Int32) = nI 96) rfl) rfl) (by omega) (by decide) dX2_copies_28 ?_
      refine gv_iast (cA := cI) (k := ((96 * w2) + i2)) hx hb hK hP hD hS 1 0 rfl rfl (gn_add (gn_mul (rfl : (96 : Int32) = nI 96) rfl) rfl) (by omega) (by decide) dX2_copies_29 (fun H locs hP hD hS => ?_)
      have hP : va_P (dC, dI) vwCl (gv_M cI am (upd g_2 ((96 * w2) + i2) (g_2 ((96 * w1) + i2))) be si ge cu pl br th) H := hP
      have hD : va_D A (gv_M cI am (upd g_2 ((96 * w2) + i2) (g_2 ((96 * w1) + i2))) be si ge cu pl br th) := hD
      refine lv_iinc (v := (nI (i2 + 1))) (lv' := [(3, .int (nI (i2 + 1))), (0, .ref (am 0)), (1, .int (nI w1)), (2, .int (nI w2))]) hx hb dX2_copies_30 hl (k := 3) rfl (nI_1 i2) (by decide) rfl (fun ls hl => ?_)
      refine lv_goto (tgt := 2) hx hb dX2_copies_33 (by decide) ?_
      exact ih2 (i2 + 1) (upd g_2 ((96 * w2) + i2) (g_2 ((96 * w1) + i2))) _ _ _ (by omega) he hP hD hS (lv_sub hl [1, 2, 3, 0] rfl)
  exact L2 96 0 g _ _ _ (by omega) he hP hD hS (lv_sub hl [1, 2, 3, 0] rfl)
def lpX2_areAlike_2 (n1_2 : Nat) (n2_2 : Nat) (g_c : Nat → Int32) (be_c : Nat → Int32) (si_c : Int32) (ge_c : Int32) (cu_c : Int32) (pl_c : Int32) (br_c : Int32) (th_c : Int32) : Nat → Nat → Int32
  | 0, _ => 1
  | n2 + 1, i2 => (if (g_c ((96 * n1_2) + i2)) = (g_c ((96 * n2_2) + i2)) then lpX2_areAlike_2 n1_2 n2_2 g_c be_c si_c ge_c cu_c pl_c br_c th_c n2 (i2 + 1)  else 0)
theorem lpX2_areAlike_2_0 (n1_2 : Nat) (n2_2 : Nat) (g_c : Nat → Int32) (be_c : Nat → Int32) (si_c : Int32) (ge_c : Int32) (cu_c : Int32) (pl_c : Int32) (br_c : Int32) (th_c : Int32) (i2 : Nat)  : lpX2_areAlike_2 n1_2 n2_2 g_c be_c si_c ge_c cu_c pl_c br_c th_c 0 i2 = 1 := rfl
theorem lpX2_areAlike_2_s (n1_2 : Nat) (n2_2 : Nat) (g_c : Nat → Int32) (be_c : Nat → Int32) (si_c : Int32) (ge_c : Int32) (cu_c : Int32) (pl_c : Int32) (br_c : Int32) (th_c : Int32) (n2 : Nat) (i2 : Nat)  : lpX2_areAlike_2 n1_2 n2_2 g_c be_c si_c ge_c cu_c pl_c br_c th_c (n2 + 1) i2 = (if (g_c ((96 * n1_2) + i2)) = (g_c ((96 * n2_2) + i2)) then lpX2_areAlike_2 n1_2 n2_2 g_c be_c si_c ge_c cu_c pl_c br_c th_c n2 (i2 + 1)  else 0) := rfl
def spX2_areAlike (g : Nat → Int32) (be : Nat → Int32) (si : Int32) (ge : Int32) (cu : Int32) (pl : Int32) (br : Int32) (th : Int32) (w1 : Nat) (w2 : Nat) : Int32 := lpX2_areAlike_2 w1 w2 g be si ge cu pl br th 96 0 
theorem spX2_areAlike_e (g : Nat → Int32) (be : Nat → Int32) (si : Int32) (ge : Int32) (cu : Int32) (pl : Int32) (br : Int32) (th : Int32) (w1 : Nat) (w2 : Nat) : spX2_areAlike g be si ge cu pl br th w1 w2 = lpX2_areAlike_2 w1 w2 g be si ge cu pl br th 96 0  := rfl
set_option maxHeartbeats 4000000 in
set_option maxRecDepth 100000 in
theorem kX2_areAlike (l : Launch) (dC : Nat → ClassId) (dI : Nat → Nat → Nat) (cI cL : ClassId) (am : Nat → Nat) (g : Nat → Int32) (be : Nat → Int32) (si : Int32) (ge : Int32) (cu : Int32) (pl : Int32) (br : Int32) (th : Int32) (p1 : Int32) (w1 : Nat) (hw1 : p1 = nI w1) (p2 : Int32) (w2 : Nat) (hw2 : p2 = nI w2) (hy0 : w1 < 62) (hy1 : w2 < 62) : gv_Mi l yX2_areAlike wsX2_areAlike 0 0 (dC, dI) [(cI, .int), (cL, .long)] [.ref (am 0), .int p1, .int p2] (gv_M cI am g be si ge cu pl br th) (fun (r : Int32) (_ : Unit) => r = spX2_areAlike g be si ge cu pl br th w1 w2) (fun (_ : Unit) => (gv_M cI am g be si ge cu pl br th)) := by
  subst hw1
  subst hw2
  refine gv_ofz (cc := cX2_areAlike) (maxL := 4) (own := RX2) (ty := .boolean) (by decide) rfl (Nat.le_of_ble_eq_true rfl) rfl ?_
  intro A p e s m args below meth c Q ls H locs hx hb hml hts hown hP hK hD hN hS hl kr
  have inX2 : ∀ w ∈ wsX20, w ∈ wsX2_areAlike := (fun _ h => List.mem_cons_of_mem _ (List.mem_append_right _ h))
  have hl : lv_has ls 4 [(0, .ref (am 0)), (1, .int (nI w1)), (2, .int (nI w2))] := hl
  have he := (spX2_areAlike_e g be si ge cu pl br th w1 w2).symm
  refine lv_iconst (v := 0) hx hb dX2_areAlike_0 (by decide) ?_
  refine lv_istore_n (lv' := [(3, .int 0), (0, .ref (am 0)), (1, .int (nI w1)), (2, .int (nI w2))]) hx hb dX2_areAlike_1 rfl hl (by decide) rfl (fun ls hl => ?_)
  have L2 : ∀ (n2 i2 : Nat) (H : Heap) (locs : List Loc) (ls : Array Slot), i2 + n2 = 96 → lpX2_areAlike_2 w1 w2 g be si ge cu pl br th n2 i2  = spX2_areAlike g be si ge cu pl br th w1 w2 → va_P (dC, dI) vwCl (gv_M cI am g be si ge cu pl br th) H → va_D A (gv_M cI am g be si ge cu pl br th) → va_S A s.heap H locs → lv_has ls 4 [(0, .ref (am 0)), (1, .int (nI w1)), (2, .int (nI w2)), (3, .int (nI i2))] → W p l e (gv_R 0 0) s m args below meth c H locs 0 0 Q (F0 m 2 ls []) := by
    intro n2
    induction n2 with
    | zero =>
      intro i2  H locs ls hi2 he hP hD hS hl
      have he := (lpX2_areAlike_2_0 _ _ _ _ _ _ _ _ _ _ _).symm.trans he
      refine lv_iload_n hx hb dX2_areAlike_2 rfl (lv_at hl 3 rfl) ?_
      refine lv_bipush (v := 96) hx hb dX2_areAlike_3 (by decide) ?_
      refine lv_icmp_ge (tgt := 41) hx hb dX2_areAlike_5 (by decide) (fun _ => ?_) (fun c => absurd c (gv_ge (N := 96) rfl (rfl : (96 : Int32) = nI 96) (by omega) (by omega)))
      refine lv_iconst (v := 1) hx hb dX2_areAlike_41 (by decide) ?_
      exact kr 1 () _ _ _ _ rfl he hP hS dX2_areAlike_42
    | succ n2 ih2 =>
      intro i2  H locs ls hi2 he hP hD hS hl
      have he := (lpX2_areAlike_2_s _ _ _ _ _ _ _ _ _ _ _ _).symm.trans he
      refine lv_iload_n hx hb dX2_areAlike_2 rfl (lv_at hl 3 rfl) ?_
      refine lv_bipush (v := 96) hx hb dX2_areAlike_3 (by decide) ?_
      refine lv_icmp_ge (tgt := 41) hx hb dX2_areAlike_5 (by decide) (fun c => absurd c (gv_lt (N := 96) rfl (rfl : (96 : Int32) = nI 96) (by omega) (by omega))) (fun _ => ?_)
      refine lv_aload_n hx hb dX2_areAlike_8 rfl (lv_at hl 0 rfl) ?_
      refine va_get (D := (dC, dI)) (ci := 2) (v := .ref (am 1)) (C := RX2) (T := TX2) (N := 8) hx hb hts inX2 hown hK hP 0 rfl rfl 0 (by decide) (hts (.fieldLink RX2 7 "VineWallModel" "walls" "[I") (List.mem_of_getElem? (i := 1) rfl)) (fun _ h9 => h9) rfl dX2_areAlike_9 ?_
      refine lv_bipush (v := 96) hx hb dX2_areAlike_12 (by decide) ?_
      refine lv_iload_n hx hb dX2_areAlike_14 rfl (lv_at hl 1 rfl) ?_
      refine lv_imul hx hb dX2_areAlike_15 ?_
      refine lv_iload_n hx hb dX2_areAlike_16 rfl (lv_at hl 3 rfl) ?_
      refine lv_iadd hx hb dX2_areAlike_17 ?_
      refine gv_iald (cA := cI) (f := g) (k := ((96 * w1) + i2)) hx hb hK hP 1 0 rfl rfl (gn_add (gn_mul (rfl : (96 : Int32) = nI 96) rfl) rfl) (by omega) (by decide) dX2_areAlike_18 ?_
      refine lv_aload_n hx hb dX2_areAlike_19 rfl (lv_at hl 0 rfl) ?_
      refine va_get (D := (dC, dI)) (ci := 2) (v := .ref (am 1)) (C := RX2) (T := TX2) (N := 8) hx hb hts inX2 hown hK hP 0 rfl rfl 0 (by decide) (hts (.fieldLink RX2 7 "VineWallModel" "walls" "[I") (List.mem_of_getElem? (i := 1) rfl)) (fun _ h9 => h9) rfl dX2_areAlike_20 ?_
      refine lv_bipush (v := 96) hx hb dX2_areAlike_23 (by decide) ?_
      refine lv_iload_n hx hb dX2_areAlike_25 rfl (lv_at hl 2 rfl) ?_
      refine lv_imul hx hb dX2_areAlike_26 ?_
      refine lv_iload_n hx hb dX2_areAlike_27 rfl (lv_at hl 3 rfl) ?_
      refine lv_iadd hx hb dX2_areAlike_28 ?_
      refine gv_iald (cA := cI) (f := g) (k := ((96 * w2) + i2)) hx hb hK hP 1 0 rfl rfl (gn_add (gn_mul (rfl : (96 : Int32) = nI 96) rfl) rfl) (by omega) (by decide) dX2_areAlike_29 ?_
      refine lv_icmp_eq (tgt := 35) hx hb dX2_areAlike_30 (by decide) (fun cd30 => ?_) (fun cd30 => ?_)
      · have he := gv_t cd30 he
        refine lv_iinc (v := (nI (i2 + 1))) (lv' := [(3, .int (nI (i2 + 1))), (0, .ref (am 0)), (1, .int (nI w1)), (2, .int (nI w2))]) hx hb dX2_areAlike_35 hl (k := 3) rfl (nI_1 i2) (by decide) rfl (fun ls hl => ?_)
        refine lv_goto (tgt := 2) hx hb dX2_areAlike_38 (by decide) ?_
        exact ih2 (i2 + 1)  _ _ _ (by omega) he hP hD hS (lv_sub hl [1, 2, 3, 0] rfl)
      · have he := gv_f cd30 he
        refine lv_iconst (v := 0) hx hb dX2_areAlike_33 (by decide) ?_
        exact kr 0 () _ _ _ _ rfl he hP hS dX2_areAlike_34
  exact L2 96 0  _ _ _ (by omega) he hP hD hS (lv_sub hl [1, 2, 3, 0] rfl)
