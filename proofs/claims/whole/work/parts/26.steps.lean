/-! One call of each kind: both sides answer alike, and stay alike. -/
theorem gw_el {α β : Type} (E : String) (kx : String → β) (k : α → β) : gw_b (.inl E : String ⊕ α) kx k = kx E := rfl
theorem gw_er {α β : Type} (u : α) (kx : String → β) (k : α → β) : gw_b (.inr u : String ⊕ α) kx k = k u := rfl
theorem gx_el {α β : Type} (E : String) (k : α → String ⊕ β) : gx_b (.inl E : String ⊕ α) k = .inl E := rfl
theorem gx_er {α β : Type} (u : α) (k : α → String ⊕ β) : gx_b (.inr u : String ⊕ α) k = k u := rfl
theorem gE_1 : ¬ gE_S = gE_A := by decide
theorem gE_2 : ¬ gE_S = gE_I := by decide
theorem gE_3 : ¬ gE_A = gE_I := by decide
theorem mx_lt {c n : Nat} (h : c < n) (hn : n < 2 ^ 31) : ¬ nI n ≤ nI c := nI_ge h hn
theorem mx_colM (a : Int32) : (∃ c, c < 12 ∧ a = nI c ∧ spX1_requireColumn a = .inr () ∧ spX2_isColumn a = 1) ∨ (spX1_requireColumn a = .inl gE_I ∧ spX2_isColumn a = 0) := by
  rw [spX1_requireColumn_e, spX2_isColumn_e]
  rcases pk_ix a (n := 12) (by decide) with h | h | ⟨j, hj, rfl⟩
  · rw [if_pos h, if_pos h]; exact Or.inr ⟨rfl, rfl⟩
  · by_cases h0 : a < 0
    · rw [if_pos h0, if_pos h0]; exact Or.inr ⟨rfl, rfl⟩
    · rw [if_neg h0, if_neg h0, if_pos (show (12 : Int32) ≤ a from h), if_neg (show ¬ a < (12 : Int32) from Int32.not_lt.mpr h)]; exact Or.inr ⟨rfl, rfl⟩
  · rw [if_neg (nI_pos (by omega)), if_neg (nI_pos (by omega)), if_pos (show nI j < (12 : Int32) from nI_lt (b := 12) hj (by decide)), if_neg (show ¬ (12 : Int32) ≤ nI j from nI_ge (b := 12) hj (by decide))]
    exact Or.inl ⟨j, hj, rfl, rfl, rfl⟩
theorem mx_cellM (a b : Int32) : (∃ r c, r < 8 ∧ c < 12 ∧ a = nI r ∧ b = nI c ∧ spX1_requireCell a b = .inr () ∧ spX2_isCell a b = 1) ∨ (spX1_requireCell a b = .inl gE_I ∧ spX2_isCell a b = 0) := by
  rw [spX1_requireCell_e, spX2_isCell_e, spX1_isCell_e, spX2_isColumn_e, gv_e1, gv_e1]
  rcases pk_ix a (n := 8) (by decide) with h | h | ⟨r, hr, rfl⟩
  · rw [if_pos h, if_pos h]; exact Or.inr ⟨rfl, rfl⟩
  · by_cases h0 : a < 0
    · rw [if_pos h0, if_pos h0]; exact Or.inr ⟨rfl, rfl⟩
    · rw [if_neg h0, if_neg h0, if_pos (show (8 : Int32) ≤ a from h), if_pos (show (8 : Int32) ≤ a from h)]; exact Or.inr ⟨rfl, rfl⟩
  · rw [if_neg (nI_pos (by omega)), if_neg (nI_pos (by omega)), if_neg (show ¬ (8 : Int32) ≤ nI r from nI_ge (b := 8) hr (by decide)), if_neg (show ¬ (8 : Int32) ≤ nI r from nI_ge (b := 8) hr (by decide))]
    rcases pk_ix b (n := 12) (by decide) with h | h | ⟨j, hj, rfl⟩
    · rw [if_pos h]; exact Or.inr ⟨rfl, rfl⟩
    · by_cases h0 : b < 0
      · rw [if_pos h0]; exact Or.inr ⟨rfl, rfl⟩
      · rw [if_neg h0, if_pos (show (12 : Int32) ≤ b from h)]; exact Or.inr ⟨rfl, rfl⟩
    · rw [if_neg (nI_pos (n := j) (by omega)), if_neg (show ¬ (12 : Int32) ≤ nI j from nI_ge (b := 12) hj (by decide))]
      exact Or.inl ⟨r, j, hr, hj, rfl, rfl, rfl, rfl⟩
theorem mc_bareAt {f h : Nat → Int32} {L C : Nat → Nat → Bool} (hf : mF f L) (hh : mF h C) {r c : Nat} (hr : r < 8) (hc : c < 12) : spX0_isBareAt f h (nI r) (nI c) = if L r c = false ∧ C r c = false then 1 else 0 := by
  rw [spX0_isBareAt_e, gv_e1, gv_e1, mc_leafAt hf hr hc, mc_cutAt hh hr hc]
  cases L r c <;> cases C r c <;> decide
theorem mc_holdersAt {f h : Nat → Int32} {L : Nat → Nat → Bool} (hf : mF f L) (s : Int32) {r c : Nat} (hr : r < 8) (hc : c < 12) : spX0_holdersAt f h (nI r) (nI c) s = nI (ma_ho s L r c) := by
  rw [spX0_holdersAt_e, gv_e1, gv_e1, mc_seen hf (by omega), mb_holders hc]
  rfl
theorem mc_neighAt {f h : Nat → Int32} {L : Nat → Nat → Bool} (hf : mF f L) (s : Int32) {r c : Nat} (hr : r < 8) (hc : c < 12) : spX0_neighboursAt f h (nI r) (nI c) s = nI (ma_ne s L r c) := by
  have e1 := mc_seen (h := h) hf (R := r + 1) (by omega) s
  have e2 := mc_seen (h := h) hf (R := r + 2) (by omega) s
  rw [nI_pred] at e1
  rw [show nI (r + 2) - 1 = nI r + 1 by rw [nI_pred, nI_1]] at e2
  rw [spX0_neighboursAt_e, gv_e1, gv_e1, gv_e1, gv_e1, mc_seen hf (by omega), e1, e2, mb_neigh hc]
  rfl
theorem mG_put {g : Nat → Int32} {L C : Nat → Nat → Bool} (hG : mG g 0 L C) {r c : Nat} (hr : r < 8) (hc : c < 12) : mG (upd g (12 * r + c) 1) 0 (fun q k => if q = r ∧ k = c then true else L q k) C := by
  intro q k hq hk
  have h1 := hG q k hq hk
  unfold upd
  dsimp only
  by_cases e : q = r ∧ k = c
  · rw [if_pos (by omega), if_pos e]; rfl
  · rw [if_neg (by omega), if_neg e]; exact h1
theorem mG_cut {g : Nat → Int32} {L C : Nat → Nat → Bool} (hG : mG g 0 L C) {r c : Nat} (hr : r < 8) (hc : c < 12) : mG (upd g (12 * r + c) 2) 0 (fun q k => if q = r ∧ k = c then false else L q k) (fun q k => if q = r ∧ k = c then true else C q k) := by
  intro q k hq hk
  have h1 := hG q k hq hk
  unfold upd
  dsimp only
  by_cases e : q = r ∧ k = c
  · rw [if_pos (by omega), if_pos e, if_pos e]; rfl
  · rw [if_neg (by omega), if_neg e, if_neg e]; exact h1
theorem mG_at {g : Nat → Int32} {L C : Nat → Nat → Bool} (hG : mG g 0 L C) {r c : Nat} (hr : r < 8) (hc : c < 12) : g (12 * r + c) = mv_ (L r c) (C r c) := by
  have z := hG r c hr hc
  rw [show 96 * 0 + 12 * r + c = 12 * r + c by omega] at z
  exact z
theorem mG_ix {r c : Nat} (hr : r < 8) (hc : c < 12) : ((12 * nI r) + nI c).toNatClampNeg = 12 * r + c := by
  rw [gn_add (gn_mul (a := 12) (rfl : (12 : Int32) = nI 12) rfl) rfl, nI_clamp (by omega)]
theorem mB_upd {be : Nat → Int32} {B : Nat → Nat} (hB : mB be B) {c t : Nat} (ht : t ≤ 8) : mB (upd be c (nI t)) (fun k => if k = c then t else B k) := by
  intro k hk
  unfold upd
  dsimp only
  by_cases e : k = c
  · rw [if_pos e, if_pos e]; exact ⟨rfl, ht⟩
  · rw [if_neg e, if_neg e]; exact hB k hk
def mR (f0 c0 be : Nat → Int32) (si pl cu ge fa : Int32) (g bm : Nat → Int32) (sim gem cum plm brm : Int32) : Prop :=
  ∃ (L C : Nat → Nat → Bool) (B : Nat → Nat) (p u n : Nat), mF f0 L ∧ mF c0 C ∧ mG g 0 L C ∧ (∀ r c, C r c = true → L r c = false) ∧ mB be B ∧ mB bm B ∧ sim = si ∧ (pl = nI p ∧ plm = nI p ∧ p ≤ 4) ∧ (cu = nI u ∧ cum = nI (3 - u) ∧ u ≤ 3) ∧ (ge = nI n ∧ gem = nI n ∧ n ≤ 60) ∧ brm = fa
section MST
variable {f0 c0 f1 c1 f2 c2 : Nat → Int32} {lo up : Nat → Int64} {be : Nat → Int32} {si pl cu ge fa : Int32} {g bm : Nat → Int32} {sim gem cum plm brm th : Int32} {ou : Nat → Int64} {p1 p2 : Int32}
theorem ms_sides (h : mR f0 c0 be si pl cu ge fa g bm sim gem cum plm brm) : ∃ k s', spL_sides f0 c0 f1 c1 f2 c2 lo up be si pl cu ge fa p1 = (k, s') ∧ spX2_sides g bm sim gem cum plm brm th p1 = (s', k) ∧ mR f0 c0 be s' pl cu ge fa g bm s' gem cum plm brm := by
  obtain ⟨L, C, B, p, u, n, hf, hc, hG, hLC, hB, hM, rfl, h1, h2, ⟨rfl, rfl, hn⟩, h4⟩ := h
  have R : ∀ s, mR f0 c0 be s pl cu (nI n) fa g bm s (nI n) cum plm brm := fun s => ⟨L, C, B, p, u, n, hf, hc, hG, hLC, hB, hM, rfl, h1, h2, ⟨rfl, rfl, hn⟩, h4⟩
  have stay : spX1_sides f0 c0 f1 c1 f2 c2 lo up be sim pl cu (nI n) fa p1 = .inl gE_A → spX2_sides g bm sim (nI n) cum plm brm th p1 = (sim, 1) → ∃ k s', spL_sides f0 c0 f1 c1 f2 c2 lo up be sim pl cu (nI n) fa p1 = (k, s') ∧ spX2_sides g bm sim (nI n) cum plm brm th p1 = (s', k) ∧ mR f0 c0 be s' pl cu (nI n) fa g bm s' (nI n) cum plm brm := by
    intro a b
    refine ⟨1, sim, ?_, b, R sim⟩
    rw [spL_sides_e, a, gw_el, if_pos rfl]
  have go : spX1_sides f0 c0 f1 c1 f2 c2 lo up be sim pl cu (nI n) fa p1 = (if nI n ≤ 0 then .inr p1 else .inl gE_S) → spX2_sides g bm sim (nI n) cum plm brm th p1 = (if nI n ≤ 0 then (p1, 0) else (sim, 2)) → ∃ k s', spL_sides f0 c0 f1 c1 f2 c2 lo up be sim pl cu (nI n) fa p1 = (k, s') ∧ spX2_sides g bm sim (nI n) cum plm brm th p1 = (s', k) ∧ mR f0 c0 be s' pl cu (nI n) fa g bm s' (nI n) cum plm brm := by
    intro a b
    by_cases z : nI n ≤ 0
    · rw [if_pos z] at a b
      exact ⟨0, p1, by rw [spL_sides_e, a, gw_er], b, R p1⟩
    · rw [if_neg z] at a b
      exact ⟨2, sim, by rw [spL_sides_e, a, gw_el, if_neg gE_1], b, R sim⟩
  rcases pk_ix p1 (n := 3) (by decide) with z | z | ⟨j, hj, rfl⟩
  · have e1 : spX1_sides f0 c0 f1 c1 f2 c2 lo up be sim pl cu (nI n) fa p1 = .inl gE_A := by
      rw [spX1_sides_e, if_neg (fun q => by rw [q] at z; exact absurd z (by decide)), if_neg (fun q => by rw [q] at z; exact absurd z (by decide)), if_neg (fun q => by rw [q] at z; exact absurd z (by decide))]
    exact stay e1 (by rw [spX2_sides_e, if_pos z])
  · have e1 : spX1_sides f0 c0 f1 c1 f2 c2 lo up be sim pl cu (nI n) fa p1 = .inl gE_A := by
      rw [spX1_sides_e, if_neg (fun q => by rw [q] at z; exact absurd z (by decide)), if_neg (fun q => by rw [q] at z; exact absurd z (by decide)), if_neg (fun q => by rw [q] at z; exact absurd z (by decide))]
    refine stay e1 ?_
    rw [spX2_sides_e]
    by_cases z0 : p1 < 0
    · rw [if_pos z0]
    · rw [if_neg z0, if_neg (fun q => absurd (Int32.le_trans z q) (by decide))]
  · obtain rfl | rfl | rfl : j = 0 ∨ j = 1 ∨ j = 2 := by omega
    · exact go (by rw [spX1_sides_e]; exact if_pos rfl) (by rw [spX2_sides_e, if_neg (by decide), if_pos (by decide)])
    · exact go (by rw [spX1_sides_e, if_neg (by decide)]; exact if_pos rfl) (by rw [spX2_sides_e, if_neg (by decide), if_pos (by decide)])
    · exact go (by rw [spX1_sides_e, if_neg (by decide), if_neg (by decide)]; exact if_pos rfl) (by rw [spX2_sides_e, if_neg (by decide), if_pos (by decide)])
theorem ms_plant (h : mR f0 c0 be si pl cu ge fa g bm sim gem cum plm brm) : ∃ k f' g' p', spL_plant f0 c0 f1 c1 f2 c2 lo up be si pl cu ge fa p1 = (k, f', p') ∧ spX2_plant g bm sim gem cum plm brm th p1 = (g', p', k) ∧ mR f' c0 be si p' cu ge fa g' bm sim gem cum p' brm := by
  obtain ⟨L, C, B, p, u, n, hf, hc, hG, hLC, hB, hM, rfl, ⟨rfl, rfl, hp⟩, ⟨rfl, rfl, hu⟩, ⟨rfl, rfl, hn⟩, rfl⟩ := h
  have R : mR f0 c0 be sim (nI p) (nI u) (nI n) brm g bm sim (nI n) (nI (3 - u)) (nI p) brm := ⟨L, C, B, p, u, n, hf, hc, hG, hLC, hB, hM, rfl, ⟨rfl, rfl, hp⟩, ⟨rfl, rfl, hu⟩, ⟨rfl, rfl, hn⟩, rfl⟩
  rw [spL_plant_e, spX1_plant_e, spX2_plant_e]
  simp only [gv_e1]
  rcases mx_colM p1 with ⟨c, hc1, rfl, e1, e2⟩ | ⟨e1, e2⟩
  · have hb := mc_bareAt hf hc (r := 0) (c := c) (by decide) hc1
    have hg := mG_at hG (r := 0) (c := c) (by decide) hc1
    rw [show 12 * 0 + c = c by omega] at hg
    rw [nI_0] at hb
    rw [e1, e2, gx_er, if_neg (by decide : ¬ (1 : Int32) = 0), hb, nI_clamp (by omega), hg]
    simp only [mv_0]
    by_cases z : L 0 c = false ∧ C 0 c = false
    · rw [if_pos z, if_pos z, if_neg (by decide : ¬ (1 : Int32) = 0)]
      by_cases y : p = 4
      · subst y
        rw [if_neg (by decide), if_pos (by decide), gw_el, if_neg gE_2]
        exact ⟨2, f0, g, nI 4, rfl, rfl, R⟩
      · rw [if_pos (show nI p < (4 : Int32) from nI_lt (b := 4) (by omega) (by decide)), if_neg (fun (q : nI p = (4 : Int32)) => y ((nI_eq (b := 4) (by omega) (by decide)).mp q)), gw_er, nI_1]
        have hput := mc_put (h := c0) hf (r := 0) (c := c) (by decide) hc1
        have hgp := mG_put hG (r := 0) (c := c) (by decide) hc1
        rw [nI_0] at hput
        rw [show 12 * 0 + c = c by omega] at hgp
        refine ⟨0, _, _, nI (p + 1), rfl, rfl, _, C, B, p + 1, u, n, hput, hc, hgp, ?_, hB, hM, rfl, ⟨rfl, rfl, by omega⟩, ⟨rfl, rfl, hu⟩, ⟨rfl, rfl, hn⟩, rfl⟩
        intro r k hk
        by_cases e : r = 0 ∧ k = c
        · obtain ⟨rfl, rfl⟩ := e
          rw [z.2] at hk
          exact absurd hk (by decide)
        · rw [if_neg e]; exact hLC r k hk
    · rw [if_neg z, if_neg z, if_pos rfl, gw_el, if_neg gE_2]
      exact ⟨2, f0, g, nI p, rfl, rfl, R⟩
  · rw [e1, e2, gx_el, gw_el, if_pos rfl, if_pos rfl]
    exact ⟨1, f0, g, nI p, rfl, rfl, R⟩
theorem ms_trellis (h : mR f0 c0 be si pl cu ge fa g bm sim gem cum plm brm) : ∃ k b be' bm' ou', spL_trellis f0 c0 f1 c1 f2 c2 lo up be si pl cu ge fa ou p1 p2 = (k, be', ou') ∧ spX2_trellis g bm sim gem cum plm brm th p1 p2 = (b, bm', k) ∧ (k = 0 → ou' 0 = Int32.toInt64 b) ∧ mR f0 c0 be' si pl cu ge fa g bm' sim gem cum plm brm := by
  obtain ⟨L, C, B, p, u, n, hf, hc, hG, hLC, hB, hM, rfl, ⟨rfl, rfl, hp⟩, ⟨rfl, rfl, hu⟩, ⟨rfl, rfl, hn⟩, rfl⟩ := h
  have R : mR f0 c0 be sim (nI p) (nI u) (nI n) brm g bm sim (nI n) (nI (3 - u)) (nI p) brm := ⟨L, C, B, p, u, n, hf, hc, hG, hLC, hB, hM, rfl, ⟨rfl, rfl, hp⟩, ⟨rfl, rfl, hu⟩, ⟨rfl, rfl, hn⟩, rfl⟩
  rw [spL_trellis_e, spX1_trellis_e, spX2_trellis_e]
  simp only [gv_e1]
  rcases mx_colM p1 with ⟨c, hc1, rfl, e1, e2⟩ | ⟨e1, e2⟩
  · rw [e1, e2, gx_er, if_neg (by decide : ¬ (1 : Int32) = 0), nI_clamp (by omega)]
    by_cases z : p2 < 1
    · rw [if_pos z, if_pos z, gw_el, if_neg gE_3]
      exact ⟨2, 0, be, bm, ou, rfl, rfl, fun q => absurd q (by decide), R⟩
    · rw [if_neg z, if_neg z]
      by_cases y : p2 ≤ 8
      · rw [if_pos y, if_pos y, gw_er]
        obtain ⟨t, ht, rfl⟩ := nI_of2 (M := 8) (n := 8) (by decide) (fun q => z (Int32.lt_trans q (by decide))) y
        refine ⟨0, _, _, _, _, rfl, rfl, fun _ => ?_, L, C, _, p, u, n, hf, hc, hG, hLC, mB_upd hB ht, mB_upd hM ht, rfl, ⟨rfl, rfl, hp⟩, ⟨rfl, rfl, hu⟩, ⟨rfl, rfl, hn⟩, rfl⟩
        rw [pk_uLs, (hB c hc1).1, (hM c hc1).1]
      · rw [if_neg y, if_neg y, gw_el, if_neg gE_3]
        exact ⟨2, 0, be, bm, ou, rfl, rfl, fun q => absurd q (by decide), R⟩
  · rw [e1, e2, gx_el, gw_el, if_pos rfl, if_pos rfl]
    exact ⟨1, 0, be, bm, ou, rfl, rfl, fun q => absurd q (by decide), R⟩
theorem ms_cut (h : mR f0 c0 be si pl cu ge fa g bm sim gem cum plm brm) : ∃ k b f' h' cu' g' cum' ou', spL_cut f0 c0 f1 c1 f2 c2 lo up be si pl cu ge fa ou p1 p2 = (k, f', h', cu', ou') ∧ spX2_cut g bm sim gem cum plm brm th p1 p2 = (b, g', cum', k) ∧ (k = 0 → ou' 0 = Int32.toInt64 b) ∧ mR f' h' be si pl cu' ge fa g' bm sim gem cum' plm brm := by
  obtain ⟨L, C, B, p, u, n, hf, hc, hG, hLC, hB, hM, rfl, ⟨rfl, rfl, hp⟩, ⟨rfl, rfl, hu⟩, ⟨rfl, rfl, hn⟩, rfl⟩ := h
  have R : mR f0 c0 be sim (nI p) (nI u) (nI n) brm g bm sim (nI n) (nI (3 - u)) (nI p) brm := ⟨L, C, B, p, u, n, hf, hc, hG, hLC, hB, hM, rfl, ⟨rfl, rfl, hp⟩, ⟨rfl, rfl, hu⟩, ⟨rfl, rfl, hn⟩, rfl⟩
  rw [spL_cut_e, spX1_cut_e, spX2_cut_e]
  simp only [gv_e1]
  rcases mx_cellM p1 p2 with ⟨r, c, hr, hc1, rfl, rfl, e1, e2⟩ | ⟨e1, e2⟩
  · rw [e1, e2, gx_er, if_neg (by decide : ¬ (1 : Int32) = 0), mc_leafAt hf hr hc1, mG_ix hr hc1, mG_at hG hr hc1]
    simp only [mv_1]
    by_cases z : L r c = true
    · rw [if_pos z, if_pos z, if_neg (by decide : ¬ (1 : Int32) = 0), spX1_cutsLeft_e, show (3 : Int32) - nI u = nI (3 - u) from pk_sub (a := 3) hu]
      by_cases y : u = 3
      · subst y
        rw [if_pos (by decide), if_pos (by decide), gw_el, if_neg gE_2]
        exact ⟨2, 0, f0, c0, nI 3, g, nI (3 - 3), ou, rfl, rfl, fun q => absurd q (by decide), R⟩
      · rw [if_neg (nI_ne0 (by omega) (by omega)), if_neg (nI_ne0 (by omega) (by omega))]
        obtain ⟨f', h', k1, k2, k3⟩ := mc_cut hf hc hr hc1
        rw [k1, gv_e2, gw_er, spX1_cutsLeft_e, nI_1, show (3 : Int32) - nI (u + 1) = nI (3 - (u + 1)) from pk_sub (a := 3) (by omega), show nI (3 - u) - 1 = nI (3 - (u + 1)) by rw [show 3 - u = 3 - (u + 1) + 1 by omega, nI_pred]]
        refine ⟨0, _, f', h', nI (u + 1), _, _, _, rfl, rfl, fun _ => pk_uLs, _, _, B, p, u + 1, n, k2, k3, mG_cut hG hr hc1, ?_, hB, hM, rfl, ⟨rfl, rfl, hp⟩, ⟨rfl, rfl, by omega⟩, ⟨rfl, rfl, hn⟩, rfl⟩
        intro q k hk
        by_cases e : q = r ∧ k = c
        · rw [if_pos e]
        · rw [if_neg e] at hk ⊢; exact hLC q k hk
    · rw [if_neg z, if_neg z, if_pos rfl, gw_el, if_neg gE_2]
      exact ⟨2, 0, f0, c0, nI u, g, nI (3 - u), ou, rfl, rfl, fun q => absurd q (by decide), R⟩
  · rw [e1, e2, gx_el, gw_el, if_pos rfl, if_pos rfl]
    exact ⟨1, 0, f0, c0, nI u, g, nI (3 - u), ou, rfl, rfl, fun q => absurd q (by decide), R⟩
theorem ms_grow (h : mR f0 c0 be si pl cu ge fa g bm sim gem cum plm brm) : ∃ k b f' h' f2' h2' cu' ge' fa' g' ge2 cum' br' ou', spL_grow f0 c0 f1 c1 f2 c2 lo up be si pl cu ge fa ou = (k, f', h', f2', h2', cu', ge', fa', ou') ∧ spX2_grow g bm sim gem cum plm brm th = (b, g', ge2, cum', br', k) ∧ (k = 0 → ou' 0 = Int32.toInt64 b) ∧ mR f' h' be si pl cu' ge' fa' g' bm sim ge2 cum' plm br' := by
  obtain ⟨L, C, B, p, u, n, hf, hc, hG, hLC, hB, hM, rfl, ⟨rfl, rfl, hp⟩, ⟨rfl, rfl, hu⟩, ⟨rfl, rfl, hn⟩, rfl⟩ := h
  have R : mR f0 c0 be sim (nI p) (nI u) (nI n) brm g bm sim (nI n) (nI (3 - u)) (nI p) brm := ⟨L, C, B, p, u, n, hf, hc, hG, hLC, hB, hM, rfl, ⟨rfl, rfl, hp⟩, ⟨rfl, rfl, hu⟩, ⟨rfl, rfl, hn⟩, rfl⟩
  rw [spL_grow_e, spX1_grow_e, spX2_grow_e]
  simp only [gv_e1]
  by_cases y : n = 60
  · subst y
    rw [if_neg (by decide), if_pos (by decide), gw_el]
    exact ⟨1, 0, f0, c0, f2, c2, nI u, nI 60, brm, g, nI 60, nI (3 - u), brm, ou, rfl, rfl, fun q => absurd q (by decide), R⟩
  · rw [if_pos (show nI n < (60 : Int32) from nI_lt (b := 60) (by omega) (by decide)), if_neg (fun (q : nI n = (60 : Int32)) => y ((nI_eq (b := 60) (by omega) (by decide)).mp q))]
    obtain ⟨fb, hb, b1, b2, b3⟩ := mc_grow (f := f2) (h := c2) hB hf hc sim
    obtain ⟨ft, ht, t1, t2, t3⟩ := mc_copy (f := f0) (h := c0) b2 b3
    obtain ⟨g', d1, d2, d3⟩ := mm_grow (g := g) (si := sim) (ge := nI n) (cu := nI (3 - u)) (pl := nI p) (br := brm) (th := 0) (a := 0) (b := 1) hM hLC (by omega) (by omega) (by omega) hG
    have hcG := mm_copyG (be := bm) (si := sim) (ge := nI n) (cu := nI (3 - u)) (pl := nI p) (br := brm + nI (ma_gn B (ma_nx sim L C) 12)) (th := 0) (show (1 : Nat) ≠ 0 by decide) d2
    rw [b1, gv_e3, t1, gv_e2, gw_er, d1, gv_e2, spX1_leaves_e, spX1_leaves_e, gv_e1, gv_e1, mc_leaves hf, mc_leaves t2, mm_leaves hG (by omega), mm_leaves hcG (by omega), nI_1]
    exact ⟨0, _, ft, ht, fb, hb, 0, nI (n + 1), _, _, nI (n + 1), 3, _, _, rfl, rfl, fun _ => pk_uLs, _, _, B, p, 0, n + 1, t2, t3, hcG, fun _ _ q => absurd (show (false = true) from q) (by decide), hB, hM, rfl, ⟨rfl, rfl, hp⟩, ⟨rfl, rfl, by omega⟩, ⟨rfl, rfl, by omega⟩, rfl⟩
theorem ms_look (h : mR f0 c0 be si pl cu ge fa g bm sim gem cum plm brm) : ∃ k b ou', spL_look f0 c0 f1 c1 f2 c2 lo up be si pl cu ge fa ou p1 p2 = (k, ou') ∧ spX2_look g bm sim gem cum plm brm th p1 p2 = (b, k) ∧ (k = 0 → ou' 0 = Int32.toInt64 b) := by
  obtain ⟨L, C, B, p, u, n, hf, hc, hG, hLC, hB, hM, rfl, ⟨rfl, rfl, hp⟩, ⟨rfl, rfl, hu⟩, ⟨rfl, rfl, hn⟩, rfl⟩ := h
  rw [spL_look_e, spX1_look_e, spX2_look_e]
  simp only [gv_e1]
  rcases mx_cellM p1 p2 with ⟨r, c, hr, hc1, rfl, rfl, e1, e2⟩ | ⟨e1, e2⟩
  · rw [e1, e2, gx_er, if_neg (by decide : ¬ (1 : Int32) = 0), mc_leafAt hf hr hc1, mc_bareAt hf hc hr hc1, mG_ix hr hc1, mG_at hG hr hc1]
    cases L r c
    · cases C r c
      · exact ⟨0, 46, _, rfl, rfl, fun _ => pk_uLs⟩
      · exact ⟨0, 120, _, rfl, rfl, fun _ => pk_uLs⟩
    · exact ⟨0, 35, _, rfl, rfl, fun _ => pk_uLs⟩
  · rw [e1, e2, gx_el, gw_el, if_pos rfl]
    exact ⟨1, 46, ou, rfl, rfl, fun q => absurd q (by decide)⟩
theorem ms_shadeOf (h : mR f0 c0 be si pl cu ge fa g bm sim gem cum plm brm) : ∃ k b ou', spL_shadeOf f0 c0 f1 c1 f2 c2 lo up be si pl cu ge fa ou p1 p2 = (k, ou') ∧ spX2_shadeOf g bm sim gem cum plm brm th p1 p2 = (b, k) ∧ (k = 0 → ou' 0 = Int32.toInt64 b) := by
  obtain ⟨L, C, B, p, u, n, hf, hc, hG, hLC, hB, hM, rfl, ⟨rfl, rfl, hp⟩, ⟨rfl, rfl, hu⟩, ⟨rfl, rfl, hn⟩, rfl⟩ := h
  rw [spL_shadeOf_e, spX1_shadeOf_e, spX2_shadeOf_e]
  simp only [gv_e1]
  rcases mx_cellM p1 p2 with ⟨r, c, hr, hc1, rfl, rfl, e1, e2⟩ | ⟨e1, e2⟩
  · rw [e1, e2, gx_er, gw_er, if_neg (by decide : ¬ (1 : Int32) = 0), nI_clamp (by omega), mc_shade hf (by omega) hc1, mm_shade hG (by omega) (by omega) hc1]
    exact ⟨0, _, _, rfl, rfl, fun _ => pk_uLs⟩
  · rw [e1, e2, gx_el, gw_el, if_pos rfl]
    exact ⟨1, 0, ou, rfl, rfl, fun q => absurd q (by decide)⟩
theorem ms_holdersOf (h : mR f0 c0 be si pl cu ge fa g bm sim gem cum plm brm) : ∃ k b ou', spL_holdersOf f0 c0 f1 c1 f2 c2 lo up be si pl cu ge fa ou p1 p2 = (k, ou') ∧ spX2_holdersOf g bm sim gem cum plm brm th p1 p2 = (b, k) ∧ (k = 0 → ou' 0 = Int32.toInt64 b) := by
  obtain ⟨L, C, B, p, u, n, hf, hc, hG, hLC, hB, hM, rfl, ⟨rfl, rfl, hp⟩, ⟨rfl, rfl, hu⟩, ⟨rfl, rfl, hn⟩, rfl⟩ := h
  rw [spL_holdersOf_e, spX1_holdersOf_e, spX2_holdersOf_e]
  simp only [gv_e1]
  rcases mx_cellM p1 p2 with ⟨r, c, hr, hc1, rfl, rfl, e1, e2⟩ | ⟨e1, e2⟩
  · rw [e1, e2, gx_er, gw_er, if_neg (by decide : ¬ (1 : Int32) = 0), mc_holdersAt hf sim hr hc1, mm_holders hG (by omega) hr hc1]
    exact ⟨0, _, _, rfl, rfl, fun _ => pk_uLs⟩
  · rw [e1, e2, gx_el, gw_el, if_pos rfl]
    exact ⟨1, 0, ou, rfl, rfl, fun q => absurd q (by decide)⟩
theorem ms_neighboursOf (h : mR f0 c0 be si pl cu ge fa g bm sim gem cum plm brm) : ∃ k b ou', spL_neighboursOf f0 c0 f1 c1 f2 c2 lo up be si pl cu ge fa ou p1 p2 = (k, ou') ∧ spX2_neighboursOf g bm sim gem cum plm brm th p1 p2 = (b, k) ∧ (k = 0 → ou' 0 = Int32.toInt64 b) := by
  obtain ⟨L, C, B, p, u, n, hf, hc, hG, hLC, hB, hM, rfl, ⟨rfl, rfl, hp⟩, ⟨rfl, rfl, hu⟩, ⟨rfl, rfl, hn⟩, rfl⟩ := h
  rw [spL_neighboursOf_e, spX1_neighboursOf_e, spX2_neighboursOf_e]
  simp only [gv_e1]
  rcases mx_cellM p1 p2 with ⟨r, c, hr, hc1, rfl, rfl, e1, e2⟩ | ⟨e1, e2⟩
  · rw [e1, e2, gx_er, gw_er, if_neg (by decide : ¬ (1 : Int32) = 0), mc_neighAt hf sim hr hc1, mm_neigh hG (by omega) hr hc1]
    exact ⟨0, _, _, rfl, rfl, fun _ => pk_uLs⟩
  · rw [e1, e2, gx_el, gw_el, if_pos rfl]
    exact ⟨1, 0, ou, rfl, rfl, fun q => absurd q (by decide)⟩
theorem ms_leavesIn (h : mR f0 c0 be si pl cu ge fa g bm sim gem cum plm brm) : ∃ k b ou', spL_leavesIn f0 c0 f1 c1 f2 c2 lo up be si pl cu ge fa ou p1 = (k, ou') ∧ spX2_leavesIn g bm sim gem cum plm brm th p1 = (b, k) ∧ (k = 0 → ou' 0 = Int32.toInt64 b) := by
  obtain ⟨L, C, B, p, u, n, hf, hc, hG, hLC, hB, hM, rfl, ⟨rfl, rfl, hp⟩, ⟨rfl, rfl, hu⟩, ⟨rfl, rfl, hn⟩, rfl⟩ := h
  rw [spL_leavesIn_e, spX1_leavesIn_e, spX2_leavesIn_e]
  simp only [gv_e1]
  rcases mx_colM p1 with ⟨c, hc1, rfl, e1, e2⟩ | ⟨e1, e2⟩
  · rw [e1, e2, gx_er, gw_er, if_neg (by decide : ¬ (1 : Int32) = 0), mc_col hf hc1, mm_col hG (by omega) hc1]
    exact ⟨0, _, _, rfl, rfl, fun _ => pk_uLs⟩
  · rw [e1, e2, gx_el, gw_el, if_pos rfl]
    exact ⟨1, 0, ou, rfl, rfl, fun q => absurd q (by decide)⟩
theorem ms_leaves (h : mR f0 c0 be si pl cu ge fa g bm sim gem cum plm brm) : spX2_leaves g bm sim gem cum plm brm th = (spX1_leaves f0 c0 f1 c1 f2 c2 lo up be si pl cu ge fa, 0) := by
  obtain ⟨L, C, B, p, u, n, hf, hc, hG, hLC, hB, hM, rfl, ⟨rfl, rfl, hp⟩, ⟨rfl, rfl, hu⟩, ⟨rfl, rfl, hn⟩, rfl⟩ := h
  rw [spX2_leaves_e, spX1_leaves_e, gv_e1, gv_e1, mc_leaves hf, mm_leaves hG (by omega)]
theorem ms_lit (h : mR f0 c0 be si pl cu ge fa g bm sim gem cum plm brm) : spX2_lit g bm sim gem cum plm brm th = (spX1_lit f0 c0 f1 c1 f2 c2 lo up be si pl cu ge fa, 0) := by
  obtain ⟨L, C, B, p, u, n, hf, hc, hG, hLC, hB, hM, rfl, ⟨rfl, rfl, hp⟩, ⟨rfl, rfl, hu⟩, ⟨rfl, rfl, hn⟩, rfl⟩ := h
  rw [spX2_lit_e, spX1_lit_e, gv_e1, gv_e1, mc_lit hf, mm_lit hG (by omega)]
theorem ms_generation (h : mR f0 c0 be si pl cu ge fa g bm sim gem cum plm brm) : spX2_generation g bm sim gem cum plm brm th = (spX1_generation f0 c0 f1 c1 f2 c2 lo up be si pl cu ge fa, 0) := by
  obtain ⟨L, C, B, p, u, n, hf, hc, hG, hLC, hB, hM, rfl, ⟨rfl, rfl, hp⟩, ⟨rfl, rfl, hu⟩, ⟨rfl, rfl, hn⟩, rfl⟩ := h
  rfl
theorem ms_cutsLeft (h : mR f0 c0 be si pl cu ge fa g bm sim gem cum plm brm) : spX2_cutsLeft g bm sim gem cum plm brm th = (spX1_cutsLeft f0 c0 f1 c1 f2 c2 lo up be si pl cu ge fa, 0) := by
  obtain ⟨L, C, B, p, u, n, hf, hc, hG, hLC, hB, hM, rfl, ⟨rfl, rfl, hp⟩, ⟨rfl, rfl, hu⟩, ⟨rfl, rfl, hn⟩, rfl⟩ := h
  rw [spX2_cutsLeft_e, spX1_cutsLeft_e, show (3 : Int32) - nI u = nI (3 - u) from pk_sub (a := 3) hu]
theorem ms_broken (h : mR f0 c0 be si pl cu ge fa g bm sim gem cum plm brm) : spX2_broken g bm sim gem cum plm brm th = (spX1_broken f0 c0 f1 c1 f2 c2 lo up be si pl cu ge fa, 0) := by
  obtain ⟨L, C, B, p, u, n, hf, hc, hG, hLC, hB, hM, rfl, ⟨rfl, rfl, hp⟩, ⟨rfl, rfl, hu⟩, ⟨rfl, rfl, hn⟩, rfl⟩ := h
  rfl
theorem ms_leavesNext (h : mR f0 c0 be si pl cu ge fa g bm sim gem cum plm brm) : ∃ k f2' h2' g', spX1_leavesNext f0 c0 f1 c1 f2 c2 lo up be si pl cu ge fa = (k, f2', h2') ∧ spX2_leavesNext g bm sim gem cum plm brm th = (k, g', 0) ∧ mR f0 c0 be si pl cu ge fa g' bm sim gem cum plm brm := by
  obtain ⟨L, C, B, p, u, n, hf, hc, hG, hLC, hB, hM, rfl, ⟨rfl, rfl, hp⟩, ⟨rfl, rfl, hu⟩, ⟨rfl, rfl, hn⟩, rfl⟩ := h
  obtain ⟨fb, hb, b1, b2, b3⟩ := mc_grow (f := f2) (h := c2) hB hf hc sim
  obtain ⟨g', d1, d2, d3⟩ := mm_grow (g := g) (si := sim) (ge := nI n) (cu := nI (3 - u)) (pl := nI p) (br := brm) (th := 0) (a := 0) (b := 1) hM hLC (by omega) (by omega) (by omega) hG
  rw [spX1_leavesNext_e, spX2_leavesNext_e, b1, gv_e3, gv_e1, d1, gv_e2, gv_e1, mc_leaves b2, mm_leaves d2 (by omega)]
  refine ⟨_, fb, hb, g', rfl, rfl, L, C, B, p, u, n, hf, hc, ?_, hLC, hB, hM, rfl, ⟨rfl, rfl, hp⟩, ⟨rfl, rfl, hu⟩, ⟨rfl, rfl, hn⟩, rfl⟩
  intro r k hr hk
  rw [d3 _ (by omega)]
  exact hG r k hr hk
theorem ms_repeatsIn (h : mR f0 c0 be si pl cu ge fa g bm sim gem cum plm brm) : ∃ k f1' h1' f2' h2' lo' up' g', spX1_repeatsIn f0 c0 f1 c1 f2 c2 lo up be si pl cu ge fa = (k, f1', h1', f2', h2', lo', up') ∧ spX2_repeatsIn g bm sim gem cum plm brm th = (k, g', 0) ∧ mR f0 c0 be si pl cu ge fa g' bm sim gem cum plm brm := by
  obtain ⟨L, C, B, p, u, n, hf, hc, hG, hLC, hB, hM, rfl, ⟨rfl, rfl, hp⟩, ⟨rfl, rfl, hu⟩, ⟨rfl, rfl, hn⟩, rfl⟩ := h
  obtain ⟨r, f1', c1', f2', c2', lo', up', g', k1, k2, k3⟩ := mr_repeats (f1 := f1) (c1 := c1) (f2 := f2) (c2 := c2) (lo := lo) (up := up) (si := sim) (pl := nI p) (cu := nI u) (ge := nI n) (fa := brm) (gem := nI n) (cum := nI (3 - u)) (plm := nI p) (brm := brm) (th := th) hB hM hLC hf hc hG
  refine ⟨r, f1', c1', f2', c2', lo', up', g', k1, k2, L, C, B, p, u, n, hf, hc, ?_, hLC, hB, hM, rfl, ⟨rfl, rfl, hp⟩, ⟨rfl, rfl, hu⟩, ⟨rfl, rfl, hn⟩, rfl⟩
  intro r k hr hk
  rw [k3 _ (by omega)]
  exact hG r k hr hk
theorem ms_bestCut (h : mR f0 c0 be si pl cu ge fa g bm sim gem cum plm brm) : ∃ k f1' h1' f2' h2' g', spX1_bestCut f0 c0 f1 c1 f2 c2 lo up be si pl cu ge fa = (k, f1', h1', f2', h2') ∧ spX2_bestCut g bm sim gem cum plm brm th = (k, g', 0) ∧ mR f0 c0 be si pl cu ge fa g' bm sim gem cum plm brm := by
  obtain ⟨L, C, B, p, u, n, hf, hc, hG, hLC, hB, hM, rfl, ⟨rfl, rfl, hp⟩, ⟨rfl, rfl, hu⟩, ⟨rfl, rfl, hn⟩, rfl⟩ := h
  obtain ⟨r, f1', c1', f2', c2', g', k1, k2, k3⟩ := mb_joint (lo := lo) (up := up) (si := sim) (pl := nI p) (cu := nI u) (ge := nI n) (fa := brm) (gem := nI n) (cum := nI (3 - u)) (plm := nI p) (brm := brm) (th := 0) hB hM hLC hf hc 96 0 (-1) (-1) f1 c1 f2 c2 g rfl hG
  refine ⟨r, f1', c1', f2', c2', g', ?_, ?_, L, C, B, p, u, n, hf, hc, ?_, hLC, hB, hM, rfl, ⟨rfl, rfl, hp⟩, ⟨rfl, rfl, hu⟩, ⟨rfl, rfl, hn⟩, rfl⟩
  · rw [spX1_bestCut_e]; exact k1
  · rw [spX2_bestCut_e]; exact k2
  · intro r k hr hk
    rw [k3 _ (by omega)]
    exact hG r k hr hk
theorem mm_clear_l : ∀ (n i : Nat) (g : Nat → Int32), i + n = 96 → (∀ j, j < i → g j = 0) → ∃ g', lpX2_clear_7 bm sim gem cum plm brm th n i g = (g', 0, 3, 0, 0, th) ∧ ∀ j, j < 96 → g' j = 0
  | 0, i, g, hi, hg => ⟨g, rfl, fun j hj => hg j (by omega)⟩
  | n + 1, i, g, hi, hg => by
    rw [lpX2_clear_7_s]
    refine mm_clear_l n (i + 1) _ (by omega) (fun j hj => ?_)
    unfold upd
    by_cases e : j = i
    · rw [if_pos e]
    · rw [if_neg e]; exact hg j (by omega)
theorem ms_clear (h : mR f0 c0 be si pl cu ge fa g bm sim gem cum plm brm) : ∃ f' h' g', spX1_clear f0 c0 f1 c1 f2 c2 lo up be si pl cu ge fa = (f', h', 0, 0, 0, 0) ∧ spX2_clear g bm sim gem cum plm brm th = (g', 0, 3, 0, 0, 0) ∧ mR f' h' be si 0 0 0 0 g' bm sim 0 3 0 0 := by
  obtain ⟨L, C, B, p, u, n, hf, hc, hG, hLC, hB, hM, rfl, ⟨rfl, rfl, hp⟩, ⟨rfl, rfl, hu⟩, ⟨rfl, rfl, hn⟩, rfl⟩ := h
  obtain ⟨f', h', s1, s2, s3⟩ := mc_strip f0 c0
  obtain ⟨g', d1, d2⟩ := mm_clear_l (bm := bm) (sim := sim) (gem := nI n) (cum := nI (3 - u)) (plm := nI p) (brm := brm) (th := 0) 96 0 g rfl (fun j hj => absurd hj (Nat.not_lt_zero j))
  refine ⟨f', h', g', ?_, ?_, ma_C0, ma_C0, B, 0, 0, 0, s2, s3, ?_, fun _ _ q => absurd (show (false = true) from q) (by decide), hB, hM, rfl, ⟨rfl, rfl, by omega⟩, ⟨rfl, rfl, by omega⟩, ⟨rfl, rfl, by omega⟩, rfl⟩
  · rw [spX1_clear_e, s1, gv_e2]
  · rw [spX2_clear_e]; exact d1
  · intro r k hr hk
    rw [d2 _ (by omega)]
    rfl
end MST
