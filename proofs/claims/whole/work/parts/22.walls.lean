/-! The reference's walls as leaves and cuts. -/
def mv_ (l c : Bool) : Int32 := if l then 1 else if c then 2 else 0
def mG (g : Nat → Int32) (w : Nat) (L C : Nat → Nat → Bool) : Prop := ∀ r c, r < 8 → c < 12 → g (96 * w + 12 * r + c) = mv_ (L r c) (C r c)
theorem mv_1 (l c : Bool) : (mv_ l c = 1) = (l = true) := by cases l <;> cases c <;> decide
theorem mv_2 (l c : Bool) : (mv_ l c = 2) = (l = false ∧ c = true) := by cases l <;> cases c <;> decide
theorem mv_0 (l c : Bool) : (mv_ l c = 0) = (l = false ∧ c = false) := by cases l <;> cases c <;> decide
theorem mm_row {R : Nat} (hR : R ≤ 9) (X : Int32) : (if nI R - 1 < 0 then 0 else if 8 ≤ nI R - 1 then 0 else X) = if 1 ≤ R ∧ R ≤ 8 then X else 0 := by
  cases R with
  | zero => rw [if_pos nI_m1, if_neg (by omega)]
  | succ r =>
    rw [nI_pred, if_neg (nI_pos (by omega))]
    by_cases hr : r < 8
    · rw [if_neg (show ¬ (8 : Int32) ≤ nI r from nI_ge (b := 8) hr (by decide)), if_pos (by omega)]
    · obtain rfl : r = 8 := by omega
      rw [if_pos (show (8 : Int32) ≤ nI 8 from nI_le (a := 8) (Nat.le_refl 8) (by decide)), if_neg (by omega)]
theorem ma_s_0 {p : Nat → Bool} (h : ∀ k, p k = false) (s : Int32) (K : Nat) : ma_s s p K = false := by
  unfold ma_s
  rw [h, h, h]
  simp
theorem mm_leafAt {g be : Nat → Int32} {si ge cu pl br th : Int32} {w : Nat} {L C : Nat → Nat → Bool} (hG : mG g w L C) (hw : w < 62) {R K : Nat} (hR : R ≤ 9) (hK : K ≤ 13) : spX2_leafAt g be si ge cu pl br th w (nI R - 1) (nI K - 1) = nI (ma_s si (ma_x L R) K).toNat := by
  rw [spX2_leafAt_e, gv_e1]
  simp only [mm_row hR]
  by_cases hr : 1 ≤ R ∧ R ≤ 8
  · obtain ⟨r, rfl⟩ : ∃ r, R = r + 1 := ⟨R - 1, by omega⟩
    simp only [if_pos hr, nI_pred]
    have cell : ∀ (x : Int32) (c : Nat), x = nI c → c < 12 → (if g ((96 * nI w + 12 * nI r + x).toNatClampNeg) = 1 then (1 : Int32) else 0) = nI (L r c).toNat := by
      intro x c hx hc
      subst hx
      rw [gn_add (gn_add (gn_mul (a := 96) (rfl : (96 : Int32) = nI 96) rfl) (gn_mul (a := 12) (rfl : (12 : Int32) = nI 12) rfl)) rfl, nI_clamp (by omega), hG r c (by omega) hc]
      simp only [mv_1]
      cases L r c <;> rfl
    by_cases k0 : K = 0
    · subst k0
      rw [show spX2_isColumn (nI 0 - 1) = 0 by decide, if_pos rfl, show ((nI 0 - 1 + 12) - (nI 0 - 1 + 12) / 12 * 12 : Int32) = 11 by decide, if_neg (show ¬ (11 : Int32) < 0 by decide), if_neg (show ¬ (0 : Int32) ≤ nI 0 - 1 by decide), cell 11 11 rfl (by decide), cell 0 0 rfl (by decide)]
      unfold ma_s
      rw [if_neg (by omega : ¬ (1 ≤ 0 ∧ 0 ≤ 12)), if_pos rfl, if_pos rfl, ma_x_s (by omega), ma_x_s (by omega)]
      by_cases s1 : si = 1
      · rw [if_pos s1, if_pos s1]
      · rw [if_neg s1, if_neg s1]
        by_cases s2 : si = 2
        · rw [if_pos s2, if_pos s2]
        · rw [if_neg s2, if_neg s2]; rfl
    · by_cases k13 : K = 13
      · subst k13
        rw [show spX2_isColumn (nI 13 - 1) = 0 by decide, if_pos rfl, show ((nI 13 - 1 + 12) - (nI 13 - 1 + 12) / 12 * 12 : Int32) = 0 by decide, if_neg (show ¬ (0 : Int32) < 0 by decide), if_pos (show (0 : Int32) ≤ nI 13 - 1 by decide), cell 11 11 rfl (by decide), cell 0 0 rfl (by decide)]
        unfold ma_s
        rw [if_neg (by omega : ¬ (1 ≤ 13 ∧ 13 ≤ 12)), if_neg (by decide : ¬ 13 = 0), if_neg (by decide : ¬ 13 = 0), ma_x_s (by omega), ma_x_s (by omega)]
        by_cases s1 : si = 1
        · rw [if_pos s1, if_pos s1]
        · rw [if_neg s1, if_neg s1]
          by_cases s2 : si = 2
          · rw [if_pos s2, if_pos s2]
          · rw [if_neg s2, if_neg s2]; rfl
      · obtain ⟨c, rfl⟩ : ∃ c, K = c + 1 := ⟨K - 1, by omega⟩
        rw [nI_pred]
        have hcol : spX2_isColumn (nI c) = 1 := by
          unfold spX2_isColumn
          rw [if_neg (nI_pos (by omega)), if_neg (show ¬ (12 : Int32) ≤ nI c from nI_ge (b := 12) (by omega) (by decide))]
        rw [hcol, if_neg (by decide : ¬ (1 : Int32) = 0), if_neg (nI_pos (by omega)), cell (nI c) c rfl (by omega)]
        unfold ma_s
        rw [if_pos (by omega), ma_x_s (by omega)]
        rfl
  · simp only [if_neg hr, ite_self]
    rw [ma_s_0 (fun k => ma_x_o hr k)]
    rfl
section MMR
variable {g be : Nat → Int32} {si ge cu pl br th : Int32} {w : Nat} {L C : Nat → Nat → Bool}
theorem nI_s1 (r : Nat) : nI r = nI (r + 1) - 1 := (nI_pred r).symm
theorem nI_s2 (r : Nat) : nI r + 1 = nI (r + 2) - 1 := by rw [nI_pred, nI_1]
theorem mm_three (hG : mG g w L C) (hw : w < 62) {R c : Nat} (hR : R ≤ 9) (hc : c < 12) : spX2_threeIn g be si ge cu pl br th w (nI R - 1) (nI c) = nI (ma_3 (ma_s si (ma_x L R)) c) := by
  rw [spX2_threeIn_e, gv_e1, gv_e1, gv_e1, mm_leafAt hG hw hR (by omega), nI_s2 c, mm_leafAt hG hw hR (by omega)]
  rw [show spX2_leafAt g be si ge cu pl br th w (nI R - 1) (nI c) = nI (ma_s si (ma_x L R) (c + 1)).toNat by rw [nI_s1 c]; exact mm_leafAt hG hw hR (by omega), nI_add, nI_add]
  rfl
theorem mm_holders (hG : mG g w L C) (hw : w < 62) {r c : Nat} (hr : r < 8) (hc : c < 12) : spX2_holders g be si ge cu pl br th w (nI r) (nI c) = nI (ma_ho si L r c) := by
  rw [spX2_holders_e, gv_e1, mm_three hG hw (by omega) hc]
  rfl
theorem mm_neigh (hG : mG g w L C) (hw : w < 62) {r c : Nat} (hr : r < 8) (hc : c < 12) : spX2_neighbours g be si ge cu pl br th w (nI r) (nI c) = nI (ma_ne si L r c) := by
  rw [spX2_neighbours_e, gv_e1, gv_e1, gv_e1, gv_e1, mm_three hG hw (by omega) hc, nI_s2 r, mm_three hG hw (by omega) hc, nI_s2 c]
  rw [show spX2_leafAt g be si ge cu pl br th w (nI r) (nI c - 1) = nI (ma_s si (ma_x L (r + 1)) c).toNat by rw [nI_s1 r]; exact mm_leafAt hG hw (by omega) (by omega)]
  rw [show spX2_leafAt g be si ge cu pl br th w (nI r) (nI (c + 2) - 1) = nI (ma_s si (ma_x L (r + 1)) (c + 2)).toNat by rw [nI_s1 r]; exact mm_leafAt hG hw (by omega) (by omega)]
  rw [nI_add, nI_add, nI_add]
  unfold ma_ne
  congr 1
  omega
theorem mm_leafIn (hG : mG g w L C) (hw : w < 62) {r c : Nat} (hr : r < 8) (hc : c < 12) : spX2_leafAt g be si ge cu pl br th w (nI r) (nI c) = nI (L r c).toNat := by
  rw [nI_s1 r, nI_s1 c, mm_leafAt hG hw (by omega) (by omega)]
  unfold ma_s
  rw [if_pos (by omega), ma_x_s hr]
  rfl
theorem mm_shade_l (hG : mG g w L C) (hw : w < 62) {c : Nat} (hc : c < 12) : ∀ (n i a : Nat), i + n = 8 → lpX2_shade_8 w (nI c) g be si ge cu pl br th n i (nI a) = nI (a + ma_u (fun q => L q c) n i)
  | 0, _, _, _ => rfl
  | n + 1, i, a, hi => by
    rw [lpX2_shade_8_s, gv_e1, mm_leafIn hG hw (by omega) hc, nI_add, mm_shade_l hG hw hc n (i + 1) _ (by omega), ma_u, Nat.add_assoc]
theorem mm_shade (hG : mG g w L C) (hw : w < 62) {k c : Nat} (hk : k ≤ 8) (hc : c < 12) : spX2_shade g be si ge cu pl br th w k (nI c) = nI (ma_sd L k c) := by
  have h1 := mm_shade_l (be := be) (si := si) (ge := ge) (cu := cu) (pl := pl) (br := br) (th := th) hG hw hc (8 - k) k 0 (by omega)
  rw [Nat.zero_add] at h1
  rw [spX2_shade_e]
  exact h1
theorem mm_col (hG : mG g w L C) (hw : w < 62) {c : Nat} (hc : c < 12) : spX2_inColumn g be si ge cu pl br th w (nI c) = nI (ma_sd L 0 c) := by
  rw [spX2_inColumn_e, gv_e1, gv_e1, mm_shade hG hw (by omega) hc]
  rw [show spX2_leafAt g be si ge cu pl br th w 0 (nI c) = nI (L 0 c).toNat from mm_leafIn (r := 0) hG hw (by decide) hc, nI_add]
  rfl
theorem mm_becomes (hG : mG g w L C) (hLC : ∀ r c, C r c = true → L r c = false) (hw : w < 62) {r c : Nat} (hr : r < 8) (hc : c < 12) : spX2_becomes g be si ge cu pl br th w r c = mv_ (ma_nx si L C r c) false := by
  have h1 : ma_ho si L r c ≤ 3 := ma_3_le _ _
  have h2 := ma_ne_le si L r c
  have h3 : ma_sd L (r + 1) c ≤ 8 := Nat.le_trans (ma_u_le _ _ _) (by omega)
  rw [spX2_becomes_e, hG r c hr hc, gv_e1, gv_e1, gv_e1, mm_holders hG hw hr hc, mm_neigh hG hw hr hc, mm_shade hG hw (by omega) hc]
  unfold ma_nx
  generalize ma_ho si L r c = ho at h1 ⊢
  generalize ma_ne si L r c = ne at h2 ⊢
  generalize ma_sd L (r + 1) c = sd at h3 ⊢
  have hl := hLC r c
  have k0 : (nI ho = 0) = (ho = 0) := propext (nI_eq (b := 0) (by omega) (by decide))
  have k1 : (nI ho = 1) = (ho = 1) := propext (nI_eq (b := 1) (by omega) (by decide))
  have k2 : (nI ho = 2) = (ho = 2) := propext (nI_eq (b := 2) (by omega) (by decide))
  have k3 : ((3 : Int32) < nI ne) = (3 < ne) := propext (nI_ltI (a := 3) (by decide) (by omega))
  have k5 : ((5 : Int32) < nI ne) = (5 < ne) := propext (nI_ltI (a := 5) (by decide) (by omega))
  have s2 : ((2 : Int32) < nI sd) = (2 < sd) := propext (nI_ltI (a := 2) (by decide) (by omega))
  have s4 : (nI sd ≤ (4 : Int32)) = (sd ≤ 4) := propext (nI_leI (b := 4) (by omega) (by decide))
  have r0 : (nI r = 0) = (r = 0) := propext (nI_eq (b := 0) (by omega) (by decide))
  simp only [mv_1, mv_2, mv_0, k0, k1, k2, k3, k5, s2, s4, r0]
  unfold ma_r
  by_cases hr0 : r = 0
  · subst hr0
    simp only [if_pos rfl]
    cases hL : L 0 c <;> cases hC : C 0 c <;> simp [mv_]
  · simp only [if_neg hr0]
    cases hL : L r c with
    | true =>
      have hC : C r c = false := by
        cases hC : C r c with
        | false => rfl
        | true => rw [hl hC] at hL; cases hL
      rw [hC]
      by_cases a0 : ho = 0
      · simp [a0, mv_]
      · by_cases a1 : 5 < ne
        · have a2 : ¬ ne ≤ 5 := by omega
          simp [a0, a1, a2, mv_]
        · have a2 : ne ≤ 5 := by omega
          by_cases a3 : sd ≤ 4
          · simp [a0, a1, a2, a3, mv_]
          · simp [a0, a1, a2, a3, mv_]
    | false =>
      cases hC : C r c with
      | true =>
        by_cases a0 : ho = 0 <;> simp [a0, mv_]
      | false =>
        by_cases a0 : ho = 0
        · subst a0; simp [mv_]
        · by_cases a1 : 3 < ne
          · have a2 : ¬ ne ≤ 3 := by omega
            simp [a0, a1, a2, mv_]
          · have a2 : ne ≤ 3 := by omega
            by_cases a3 : 2 < sd
            · have a4 : ¬ sd ≤ 2 := by omega
              simp [a0, a1, a2, a3, a4, mv_]
            · have a4 : sd ≤ 2 := by omega
              by_cases b1 : ho = 1
              · subst b1; simp [a1, a2, a3, a4, mv_]
              · by_cases b2 : ho = 2
                · subst b2; simp [a1, a2, a3, a4, mv_]
                · have b3 : ¬ ho ≤ 2 := by omega
                  simp [a0, b1, b2, b3, mv_]
end MMR
