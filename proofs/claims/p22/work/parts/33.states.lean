/-! What holds between both walls, and that each turn keeps it. -/
def gm_J (f0 c0 be g0 d0 bg bb : Nat → Int32) (cu ge fa cg gg fg : Int32) : Prop := ∃ (L C M D : Nat → Nat → Bool) (B E : Nat → Nat) (u n x : Nat), mF f0 L ∧ mF c0 C ∧ mF g0 M ∧ mF d0 D ∧ mX L M ∧ mX C D ∧ mB be B ∧ mB bg E ∧ mB bb B ∧ (∀ k, k < 12 → E k = B (11 - k)) ∧ (cu = nI u ∧ cg = nI u ∧ u ≤ 3) ∧ (ge = nI n ∧ gg = nI n ∧ n ≤ 60) ∧ (fa = nI x ∧ fg = nI x ∧ x ≤ 96 * n)
section SJ
variable {f0 c0 f1 c1 f2 c2 : Nat → Int32} {lo up : Nat → Int64} {be : Nat → Int32} {si pl cu ge fa : Int32} {g0 d0 g1 d1 g2 d2 : Nat → Int32} {lp uq : Nat → Int64} {bg bb : Nat → Int32} {cg gg fg : Int32}
theorem sj_cut (hJ : gm_J f0 c0 be g0 d0 bg bb cu ge fa cg gg fg) {r k : Nat} (hr : r < 8) (hk : k < 12) {q q' u' v' : Int32} {f' h' g' d' : Nat → Int32} (e1 : (q, f', h', u') = spL_cutsAfter f0 c0 f1 c1 f2 c2 lo up be si pl cu ge fa r k) (e2 : (q', g', d', v') = spL_cutsAfter g0 d0 g1 d1 g2 d2 lp uq bg si pl cg gg fg r (11 - k)) : q = q' ∧ gm_J f' h' be g' d' bg bb u' ge fa v' gg fg := by
  obtain ⟨L, C, M, D, B, E, u, n, x, hf, hc, hg, hd, h1, h2, hB, hE, hb, h3, ⟨rfl, rfl, hu⟩, ⟨rfl, rfl, hn⟩, ⟨rfl, rfl, hx⟩⟩ := hJ
  rw [spL_cutsAfter_e] at e1 e2
  have hM : M r (11 - k) = L r k := by rw [h1 r (11 - k) (by omega), show 11 - (11 - k) = k by omega]
  rcases sv_cutIf (f1 := f1) (c1 := c1) (f2 := f2) (c2 := c2) (lo := lo) (up := up) (be := be) (si := si) (pl := pl) (ge := nI n) (fa := nI x) hf hc rfl hu hr hk with ⟨a, a2, fa', ha', a3, a4, a5⟩ | ⟨a, a3⟩
  · rcases sv_cutIf (f1 := g1) (c1 := d1) (f2 := g2) (c2 := d2) (lo := lp) (up := uq) (be := bg) (si := si) (pl := pl) (ge := nI n) (fa := nI x) hg hd rfl hu hr (show 11 - k < 12 by omega) with ⟨b, b2, fb', hb', b3, b4, b5⟩ | ⟨b, b3⟩
    · rw [a3, gw_er] at e1
      rw [b3, gw_er] at e2
      obtain ⟨p1, p2⟩ := Prod.mk.inj e1
      obtain ⟨p2, p3⟩ := Prod.mk.inj p2
      obtain ⟨p3, p4⟩ := Prod.mk.inj p3
      obtain ⟨r1, r2⟩ := Prod.mk.inj e2
      obtain ⟨r2, r3⟩ := Prod.mk.inj r2
      obtain ⟨r3, r4⟩ := Prod.mk.inj r3
      rw [p1, p2, p3, p4, r1, r2, r3, r4]
      exact ⟨rfl, _, _, _, _, B, E, u + 1, n, x, a4, a5, b4, b5, mx_cutL h1 hk, mx_cutC h2 hk, hB, hE, hb, h3, ⟨rfl, rfl, by omega⟩, ⟨rfl, rfl, hn⟩, ⟨rfl, rfl, hx⟩⟩
    · exact absurd ⟨by rw [hM]; exact a, a2⟩ b
  · rcases sv_cutIf (f1 := g1) (c1 := d1) (f2 := g2) (c2 := d2) (lo := lp) (up := uq) (be := bg) (si := si) (pl := pl) (ge := nI n) (fa := nI x) hg hd rfl hu hr (show 11 - k < 12 by omega) with ⟨b, b2, fb', hb', b3, b4, b5⟩ | ⟨b, b3⟩
    · exact absurd ⟨by rw [← hM]; exact b, b2⟩ a
    · rw [a3, gw_el] at e1
      rw [b3, gw_el] at e2
      obtain ⟨p1, p2⟩ := Prod.mk.inj e1
      obtain ⟨p2, p3⟩ := Prod.mk.inj p2
      obtain ⟨p3, p4⟩ := Prod.mk.inj p3
      obtain ⟨r1, r2⟩ := Prod.mk.inj e2
      obtain ⟨r2, r3⟩ := Prod.mk.inj r2
      obtain ⟨r3, r4⟩ := Prod.mk.inj r3
      rw [p1, p2, p3, p4, r1, r2, r3, r4]
      exact ⟨rfl, L, C, M, D, B, E, u, n, x, hf, hc, hg, hd, h1, h2, hB, hE, hb, h3, ⟨rfl, rfl, hu⟩, ⟨rfl, rfl, hn⟩, ⟨rfl, rfl, hx⟩⟩
theorem sj_trel (hJ : gm_J f0 c0 be g0 d0 bg bb cu ge fa cg gg fg) {k w : Nat} (hk : k < 12) (hw : w ≤ 8) {q q' : Int32} {be' bg' : Nat → Int32} (e1 : (q, be') = spX1_trellis f0 c0 f1 c1 f2 c2 lo up be si pl cu ge fa k w) (e2 : (q', bg') = spX1_trellis g0 d0 g1 d1 g2 d2 lp uq bg si pl cg gg fg (11 - k) w) : q = bb k ∧ q' = bb k ∧ ∀ z, z = nI w → gm_J f0 c0 be' g0 d0 bg' (upd bb k z) cu ge fa cg gg fg := by
  obtain ⟨L, C, M, D, B, E, u, n, x, hf, hc, hg, hd, h1, h2, hB, hE, hb, h3, hu, hn, hx⟩ := hJ
  rw [spX1_trellis_e] at e1 e2
  obtain ⟨p1, p2⟩ := Prod.mk.inj e1
  obtain ⟨r1, r2⟩ := Prod.mk.inj e2
  rw [p1, p2, r1, r2]
  refine ⟨by rw [(hB k hk).1, (hb k hk).1], by rw [(hE (11 - k) (by omega)).1, (hb k hk).1, h3 (11 - k) (by omega), show 11 - (11 - k) = k by omega], fun z hz => ?_⟩
  subst hz
  refine ⟨L, C, M, D, fun j => if j = k then w else B j, fun j => if j = 11 - k then w else E j, u, n, x, hf, hc, hg, hd, h1, h2, mB_upd hB hw, mB_upd hE hw, mB_upd hb hw, fun j hj => ?_, hu, hn, hx⟩
  dsimp only
  by_cases e : j = 11 - k
  · rw [if_pos e, if_pos (show 11 - j = k by omega)]
  · rw [if_neg e, if_neg (show ¬ 11 - j = k by omega), h3 j hj]
theorem sj_tr1 (hJ : gm_J f0 c0 be g0 d0 bg bb cu ge fa cg gg fg) {k w : Nat} (hk : k < 12) {q : Int32} {be' : Nat → Int32} (e1 : (q, be') = spX1_trellis f0 c0 f1 c1 f2 c2 lo up be si pl cu ge fa k w) : q = bb k := by
  obtain ⟨L, C, M, D, B, E, u, n, x, hf, hc, hg, hd, h1, h2, hB, hE, hb, h3, hu, hn, hx⟩ := hJ
  rw [spX1_trellis_e] at e1
  obtain ⟨p1, p2⟩ := Prod.mk.inj e1
  rw [p1, (hB k hk).1, (hb k hk).1]
theorem sj_si {q : Int32} {j : Nat} (hj : j < 3) (e : q = nI j) : q = 0 ∨ q = 1 ∨ q = 2 := by
  subst e
  obtain rfl | rfl | rfl : j = 0 ∨ j = 1 ∨ j = 2 := by omega
  · exact Or.inl rfl
  · exact Or.inr (Or.inl rfl)
  · exact Or.inr (Or.inr rfl)
theorem sj_99 {a b : Nat} (ha : a ≤ 96) (hb : b ≤ 96) : ¬ nI a - nI b = -99 := by
  intro z
  have e := congrArg Int32.toInt z
  rw [pk_sub_toInt (by omega) (by omega), show (-99 : Int32).toInt = -99 by decide] at e
  omega
theorem sj_grow (hJ : gm_J f0 c0 be g0 d0 bg bb cu ge fa cg gg fg) {ql qn qg qh : Int32} {a1 a2 : Nat → Int32} (el : ql = spX1_leaves f0 c0 f1 c1 f2 c2 lo up be si pl cu ge fa) (en : (qn, a1, a2) = spX1_leavesNext f0 c0 f1 c1 f2 c2 lo up be si pl cu ge fa) {f' h' f2' h2' g' d' g2' d2' : Nat → Int32} {cu' ge' fa' cg' gg' fg' : Int32} (e1 : (qg, f', h', f2', h2', cu', ge', fa') = spL_grownBy f0 c0 f1 c1 a1 a2 lo up be si pl cu ge fa) (e2 : (qh, g', d', g2', d2', cg', gg', fg') = spL_grownBy g0 d0 g1 d1 g2 d2 lp uq bg si pl cg gg fg) : qh = qg ∧ gm_J f' h' be g' d' bg bb cu' ge' fa' cg' gg' fg' ∧ ((qg = -99 ∧ ge' = 60) ∨ (¬ qg = -99 ∧ qg = qn - ql ∧ ¬ fa' < fa ∧ ∃ (L : Nat → Nat → Bool) (B : Nat → Nat), mF f' L ∧ mF h' ma_C0 ∧ mB bb B ∧ (∀ k, k < 12 → ma_sd L 0 k ≤ B k) ∧ cu' = 0)) := by
  obtain ⟨L, C, M, D, B, E, u, n, x, hf, hc, hg, hd, h1, h2, hB, hE, hb, h3, ⟨rfl, rfl, hu⟩, ⟨rfl, rfl, hn⟩, ⟨rfl, rfl, hx⟩⟩ := hJ
  have hql := el.trans (sv_leaves hf)
  have hqn := sv_next hB hf hc en
  rw [spL_grownBy_e] at e1 e2
  have x1 := ma_all_le L 12
  have x2 := ma_all_le (ma_gr B (ma_nx si L C) 12) 12
  have x3 := ma_gn_le B (ma_nx si L C) 12
  have hN := mx_nx (s := si) h1 h2
  have y1 := mx_all h1
  have y2 := mx_all (mx_gr hN h3)
  have y3 := mx_gn hN h3
  rcases sv_growIf (f1 := f1) (c1 := c1) (f2 := a1) (c2 := a2) (lo := lo) (up := up) (si := si) (pl := pl) (cu := nI u) (ge := nI n) (fa := nI x) hB hf hc rfl hn rfl with ⟨a, fa', ha', fb', hb', a3, a4, a5⟩ | ⟨a, a3⟩
  · rcases sv_growIf (f1 := g1) (c1 := d1) (f2 := g2) (c2 := d2) (lo := lp) (up := uq) (si := si) (pl := pl) (cu := nI u) (ge := nI n) (fa := nI x) hE hg hd rfl hn rfl with ⟨b, fc', hc', fd', hd', b3, b4, b5⟩ | ⟨b, b3⟩
    · rw [a3, gw_er] at e1
      rw [b3, gw_er, y1, y2, y3] at e2
      obtain ⟨p1, p2⟩ := Prod.mk.inj e1
      obtain ⟨p2, p3⟩ := Prod.mk.inj p2
      obtain ⟨p3, p4⟩ := Prod.mk.inj p3
      obtain ⟨p4, p5⟩ := Prod.mk.inj p4
      obtain ⟨p5, p6⟩ := Prod.mk.inj p5
      obtain ⟨p6, p7⟩ := Prod.mk.inj p6
      obtain ⟨p7, p8⟩ := Prod.mk.inj p7
      obtain ⟨r1, r2⟩ := Prod.mk.inj e2
      obtain ⟨r2, r3⟩ := Prod.mk.inj r2
      obtain ⟨r3, r4⟩ := Prod.mk.inj r3
      obtain ⟨r4, r5⟩ := Prod.mk.inj r4
      obtain ⟨r5, r6⟩ := Prod.mk.inj r5
      obtain ⟨r6, r7⟩ := Prod.mk.inj r6
      obtain ⟨r7, r8⟩ := Prod.mk.inj r7
      rw [p1, p2, p3, p6, p7, p8, r1, r2, r3, r6, r7, r8, hql, hqn]
      refine ⟨rfl, ⟨_, _, _, _, B, E, 0, n + 1, x + ma_gn B (ma_nx si L C) 12, a4, a5, b4, b5, mx_gr hN h3, mx_0, hB, hE, hb, h3, ⟨rfl, rfl, by omega⟩, ⟨rfl, rfl, by omega⟩, ⟨rfl, rfl, by omega⟩⟩, Or.inr ⟨sj_99 (by omega) (by omega), rfl, nI_nlt (by omega) (by omega), _, B, a4, a5, hb, fun k hk => ma_bears B _ hk, rfl⟩⟩
    · omega
  · rcases sv_growIf (f1 := g1) (c1 := d1) (f2 := g2) (c2 := d2) (lo := lp) (up := uq) (si := si) (pl := pl) (cu := nI u) (ge := nI n) (fa := nI x) hE hg hd rfl hn rfl with ⟨b, fc', hc', fd', hd', b3, b4, b5⟩ | ⟨b, b3⟩
    · omega
    · rw [a3, gw_el] at e1
      rw [b3, gw_el] at e2
      obtain ⟨p1, p2⟩ := Prod.mk.inj e1
      obtain ⟨p2, p3⟩ := Prod.mk.inj p2
      obtain ⟨p3, p4⟩ := Prod.mk.inj p3
      obtain ⟨p4, p5⟩ := Prod.mk.inj p4
      obtain ⟨p5, p6⟩ := Prod.mk.inj p5
      obtain ⟨p6, p7⟩ := Prod.mk.inj p6
      obtain ⟨p7, p8⟩ := Prod.mk.inj p7
      obtain ⟨r1, r2⟩ := Prod.mk.inj e2
      obtain ⟨r2, r3⟩ := Prod.mk.inj r2
      obtain ⟨r3, r4⟩ := Prod.mk.inj r3
      obtain ⟨r4, r5⟩ := Prod.mk.inj r4
      obtain ⟨r5, r6⟩ := Prod.mk.inj r5
      obtain ⟨r6, r7⟩ := Prod.mk.inj r6
      obtain ⟨r7, r8⟩ := Prod.mk.inj r7
      rw [p1, p2, p3, p6, p7, p8, r1, r2, r3, r6, r7, r8]
      exact ⟨rfl, ⟨L, C, M, D, B, E, u, n, x, hf, hc, hg, hd, h1, h2, hB, hE, hb, h3, ⟨rfl, rfl, hu⟩, ⟨rfl, rfl, hn⟩, ⟨rfl, rfl, hx⟩⟩, Or.inl ⟨rfl, by rw [a]; rfl⟩⟩
theorem sj_bare (hJ : gm_J f0 c0 be g0 d0 bg bb cu ge fa cg gg fg) {k : Nat} (hk : k < 12) {q : Int32} (e : q = spX1_look f0 c0 f1 c1 f2 c2 lo up be si pl cu ge fa 0 k) (z : q = 46) : spX0_isBareAt f0 c0 0 (nI k) = 1 ∧ spX0_isBareAt g0 d0 0 (nI (11 - k)) = 1 := by
  obtain ⟨L, C, M, D, B, E, u, n, x, hf, hc, hg, hd, h1, h2, hB, hE, hb, h3, hu, hn, hx⟩ := hJ
  have e := z.symm.trans (e.trans (sv_look hf hc (by decide) hk))
  have h : L 0 k = false ∧ C 0 k = false := by
    revert e
    cases L 0 k <;> cases C 0 k <;> decide
  have a := mc_bareAt hf hc (r := 0) (c := k) (by decide) hk
  have b := mc_bareAt hg hd (r := 0) (c := 11 - k) (by decide) (by omega)
  rw [nI_0] at a b
  rw [h1 0 (11 - k) (by omega), h2 0 (11 - k) (by omega), show 11 - (11 - k) = k by omega] at b
  exact ⟨a.trans (if_pos h), b.trans (if_pos h)⟩
theorem sj_plant (hJ : gm_J f0 c0 be g0 d0 bg bb cu ge fa cg gg fg) {k : Nat} (hk : k < 12) {f' g' : Nat → Int32} {p' p'' : Int32} (e1 : (f', p') = spX1_plant f0 c0 f1 c1 f2 c2 lo up be si pl cu ge fa k) (e2 : (g', p'') = spX1_plant g0 d0 g1 d1 g2 d2 lp uq bg si pl cg gg fg (11 - k)) : gm_J f' c0 be g' d0 bg bb cu ge fa cg gg fg ∧ p' = pl + 1 ∧ p'' = p' := by
  obtain ⟨L, C, M, D, B, E, u, n, x, hf, hc, hg, hd, h1, h2, hB, hE, hb, h3, hu, hn, hx⟩ := hJ
  rw [spX1_plant_e, gv_e1, gv_e1] at e1 e2
  obtain ⟨p1, p2⟩ := Prod.mk.inj e1
  obtain ⟨r1, r2⟩ := Prod.mk.inj e2
  have a := mc_put (h := c0) hf (r := 0) (c := k) (by decide) hk
  have b := mc_put (h := d0) hg (r := 0) (c := 11 - k) (by decide) (by omega)
  rw [nI_0] at a b
  rw [p1, r1, p2, r2]
  exact ⟨⟨_, C, _, D, B, E, u, n, x, a, hc, b, hd, mx_cutC h1 hk, h2, hB, hE, hb, h3, hu, hn, hx⟩, rfl, rfl⟩
theorem sj_rep (hJ : gm_J f0 c0 be g0 d0 bg bb cu ge fa cg gg fg) {q q' : Int32} {a1 a2 a3 a4 e1 e2 e3 e4 : Nat → Int32} {a5 a6 e5 e6 : Nat → Int64} (hw : (q, a1, a2, a3, a4, a5, a6) = spX1_repeatsIn f0 c0 f1 c1 f2 c2 lo up be si pl cu ge fa) (hw' : (q', e1, e2, e3, e4, e5, e6) = spX1_repeatsIn g0 d0 g1 d1 g2 d2 lp uq bg si pl cg gg fg) : q = q' := by
  obtain ⟨L, C, M, D, B, E, u, n, x, hf, hc, hg, hd, h1, h2, hB, hE, hb, h3, hu, hn, hx⟩ := hJ
  exact mx_rep h1 h2 h3 (sv_rep hB hf hc hw) (sv_rep hE hg hd hw')
theorem sj_start (h1 : ∀ k, k < 12 → be k = 5) (h2 : ∀ k, k < 12 → bg k = 5) (h3 : ∀ k, k < 12 → bb k = 5) : gm_J (fun _ => 0) (fun _ => 0) be (fun _ => 0) (fun _ => 0) bg bb 0 0 0 0 0 0 := by
  have z : mF (fun _ => 0) ma_C0 := fun r _ => show (0 : Int32) = nI (ma_b (fun _ => false) 12) by decide
  exact ⟨ma_C0, ma_C0, ma_C0, ma_C0, fun _ => 5, fun _ => 5, 0, 0, 0, z, z, z, z, mx_0, mx_0, fun k hk => ⟨h1 k hk, show 5 ≤ 8 by decide⟩, fun k hk => ⟨h2 k hk, show 5 ≤ 8 by decide⟩, fun k hk => ⟨h3 k hk, show 5 ≤ 8 by decide⟩, fun _ _ => rfl, ⟨rfl, rfl, by omega⟩, ⟨rfl, rfl, by omega⟩, ⟨rfl, rfl, by omega⟩⟩
end SJ
