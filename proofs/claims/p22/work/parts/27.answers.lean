/-! What each call answers, and that both walls answer alike. -/
theorem mc_bareAt {f h : Nat → Int32} {L C : Nat → Nat → Bool} (hf : mF f L) (hh : mF h C) {r c : Nat} (hr : r < 8) (hc : c < 12) : spX0_isBareAt f h (nI r) (nI c) = if L r c = false ∧ C r c = false then 1 else 0 := by
  rw [spX0_isBareAt_e, gv_e1, gv_e1, mc_leafAt hf hr hc, mc_cutAt hh hr hc]
  cases L r c <;> cases C r c <;> decide
theorem mc_holdersAt {f h : Nat → Int32} {L : Nat → Nat → Bool} (hf : mF f L) (s : Int32) {r c : Nat} (hr : r < 8) (hc : c < 12) : spX0_holdersAt f h (nI r) (nI c) s = nI (ma_ho s L r c) := by
  rw [spX0_holdersAt_e, gv_e1, gv_e1, mc_seen hf (by omega), mb_holders hc]
  rfl
theorem mc_neighAt {f h : Nat → Int32} {L : Nat → Nat → Bool} (hf : mF f L) (s : Int32) {r c : Nat} (hr : r < 8) (hc : c < 12) : spX0_neighboursAt f h (nI r) (nI c) s = nI (ma_ne s L r c) := by
  have e1 := mc_seen (h := h) hf (R := r + 1) (by omega) s
  have e2 := mc_seen (h := h) hf (R := r + 2) (by omega) s
  rw [nI_pred] at e1
  rw [show nI (r + 2) - 1 = nI r + 1 by rw [nI_pred, nI_1]] at e2
  rw [spX0_neighboursAt_e, gv_e1, gv_e1, gv_e1, gv_e1, mc_seen hf (by omega), e1, e2, mb_neigh hc]
  rfl
theorem mB_upd {be : Nat → Int32} {B : Nat → Nat} (hB : mB be B) {c t : Nat} (ht : t ≤ 8) : mB (upd be c (nI t)) (fun k => if k = c then t else B k) := by
  intro k hk
  unfold upd
  dsimp only
  by_cases e : k = c
  · rw [if_pos e, if_pos e]; exact ⟨rfl, ht⟩
  · rw [if_neg e, if_neg e]; exact hB k hk
def mk_ (l c : Bool) : Int32 := if l then 35 else if c then 120 else 46
section SVA
variable {f0 c0 f1 c1 f2 c2 : Nat → Int32} {lo up : Nat → Int64} {be : Nat → Int32} {si pl cu ge fa : Int32}
variable {L C M D : Nat → Nat → Bool} {B E : Nat → Nat}
theorem sv_look (hf : mF f0 L) (hc : mF c0 C) {r c : Nat} (hr : r < 8) (hk : c < 12) : spX1_look f0 c0 f1 c1 f2 c2 lo up be si pl cu ge fa r c = mk_ (L r c) (C r c) := by
  rw [spX1_look_e]
  simp only [gv_e1]
  rw [mc_leafAt hf hr hk, mc_bareAt hf hc hr hk]
  cases L r c <;> cases C r c <;> decide
theorem sv_shade (hf : mF f0 L) {r c : Nat} (hr : r < 8) (hk : c < 12) : spX1_shadeOf f0 c0 f1 c1 f2 c2 lo up be si pl cu ge fa r c = nI (ma_sd L (r + 1) c) := by
  rw [spX1_shadeOf_e]
  rw [gv_e1]
  exact mc_shade hf (by omega) hk
theorem sv_holders (hf : mF f0 L) {r c : Nat} (hr : r < 8) (hk : c < 12) : spX1_holdersOf f0 c0 f1 c1 f2 c2 lo up be si pl cu ge fa r c = nI (ma_ho si L r c) := by
  rw [spX1_holdersOf_e]
  rw [gv_e1]
  exact mc_holdersAt hf si hr hk
theorem sv_neigh (hf : mF f0 L) {r c : Nat} (hr : r < 8) (hk : c < 12) : spX1_neighboursOf f0 c0 f1 c1 f2 c2 lo up be si pl cu ge fa r c = nI (ma_ne si L r c) := by
  rw [spX1_neighboursOf_e]
  rw [gv_e1]
  exact mc_neighAt hf si hr hk
theorem sv_in (hf : mF f0 L) {c : Nat} (hk : c < 12) : spX1_leavesIn f0 c0 f1 c1 f2 c2 lo up be si pl cu ge fa c = nI (ma_sd L 0 c) := by
  rw [spX1_leavesIn_e]
  rw [gv_e1]
  exact mc_col hf hk
theorem sv_leaves (hf : mF f0 L) : spX1_leaves f0 c0 f1 c1 f2 c2 lo up be si pl cu ge fa = nI (ma_all L 12) := by
  rw [spX1_leaves_e, gv_e1]
  exact mc_leaves hf
theorem sv_lit (hf : mF f0 L) : spX1_lit f0 c0 f1 c1 f2 c2 lo up be si pl cu ge fa = nI (ma_ct (ma_any L 8) 12) := by
  rw [spX1_lit_e, gv_e1]
  exact mc_lit hf
theorem sv_next (hB : mB be B) (hf : mF f0 L) (hc : mF c0 C) {q : Int32} {f' h' : Nat → Int32} (hw : (q, f', h') = spX1_leavesNext f0 c0 f1 c1 f2 c2 lo up be si pl cu ge fa) : q = nI (ma_all (ma_gr B (ma_nx si L C) 12) 12) := by
  obtain ⟨fb, hb, b1, b2, b3⟩ := mc_grow (f := f2) (h := c2) hB hf hc si
  rw [spX1_leavesNext_e, b1, gv_e3, gv_e1, mc_leaves b2] at hw
  exact congrArg Prod.fst hw
theorem sv_best (hB : mB be B) (hf : mF f0 L) (hc : mF c0 C) {q : Int32} {a1 a2 a3 a4 : Nat → Int32} (hw : (q, a1, a2, a3, a4) = spX1_bestCut f0 c0 f1 c1 f2 c2 lo up be si pl cu ge fa) : q = mbv (mbF (mbp si B L C) 96 0 0 0).1 (mbF (mbp si B L C) 96 0 0 0).2 := by
  obtain ⟨b1, b2, b3, b4, k⟩ := mb_best (f1 := f1) (c1 := c1) (f2 := f2) (c2 := c2) (lo := lo) (up := up) (si := si) (pl := pl) (cu := cu) (ge := ge) (fa := fa) hB hf hc
  rw [k] at hw
  exact congrArg Prod.fst hw
theorem sv_rep (hB : mB be B) (hf : mF f0 L) (hc : mF c0 C) {q : Int32} {a1 a2 a3 a4 : Nat → Int32} {a5 a6 : Nat → Int64} (hw : (q, a1, a2, a3, a4, a5, a6) = spX1_repeatsIn f0 c0 f1 c1 f2 c2 lo up be si pl cu ge fa) : mRp (mEx si B L C) 60 0 q := by
  obtain ⟨r, b1, b2, b3, b4, b5, b6, k, k2⟩ := mr_repeats (f1 := f1) (c1 := c1) (f2 := f2) (c2 := c2) (lo := lo) (up := up) (si := si) (pl := pl) (cu := cu) (ge := ge) (fa := fa) hB hf hc
  rw [k] at hw
  have e : q = r := congrArg Prod.fst hw
  rw [e]
  exact k2
theorem sv_cutIf (hf : mF f0 L) (hc : mF c0 C) {u r c : Nat} (hu : cu = nI u) (hu3 : u ≤ 3) (hr : r < 8) (hk : c < 12) : (L r c = true ∧ u < 3 ∧ ∃ f' h', spX1_cut f0 c0 f1 c1 f2 c2 lo up be si pl cu ge fa r c = .inr (nI (3 - (u + 1)), f', h', nI (u + 1)) ∧ mF f' (fun q k => if q = r ∧ k = c then false else L q k) ∧ mF h' (fun q k => if q = r ∧ k = c then true else C q k)) ∨ (¬ (L r c = true ∧ u < 3) ∧ spX1_cut f0 c0 f1 c1 f2 c2 lo up be si pl cu ge fa r c = .inl gE_S) := by
  subst hu
  rw [spX1_cut_e]
  simp only [gv_e1]
  rw [mc_leafAt hf hr hk]
  by_cases z : L r c = true
  · rw [if_pos z, if_neg (by decide : ¬ (1 : Int32) = 0), spX1_cutsLeft_e, show (3 : Int32) - nI u = nI (3 - u) from pk_sub (a := 3) hu3]
    by_cases y : u = 3
    · subst y
      rw [if_pos (by decide)]
      exact Or.inr ⟨fun q => absurd q.2 (by decide), rfl⟩
    · obtain ⟨f', h', k1, k2, k3⟩ := mc_cut hf hc hr hk
      rw [if_neg (nI_ne0 (by omega) (by omega)), k1, gv_e2, spX1_cutsLeft_e, nI_1, show (3 : Int32) - nI (u + 1) = nI (3 - (u + 1)) from pk_sub (a := 3) (by omega)]
      exact Or.inl ⟨z, by omega, f', h', rfl, k2, k3⟩
  · rw [if_neg z, if_pos rfl]
    exact Or.inr ⟨fun q => z q.1, rfl⟩
theorem sv_growIf (hB : mB be B) (hf : mF f0 L) (hc : mF c0 C) {n x : Nat} (hn : ge = nI n) (hn6 : n ≤ 60) (hx : fa = nI x) : (n < 60 ∧ ∃ f' h' f2' h2', spX1_grow f0 c0 f1 c1 f2 c2 lo up be si pl cu ge fa = .inr (nI (ma_all (ma_gr B (ma_nx si L C) 12) 12) - nI (ma_all L 12), f', h', f2', h2', 0, nI (n + 1), nI (x + ma_gn B (ma_nx si L C) 12)) ∧ mF f' (ma_gr B (ma_nx si L C) 12) ∧ mF h' ma_C0) ∨ (n = 60 ∧ spX1_grow f0 c0 f1 c1 f2 c2 lo up be si pl cu ge fa = .inl gE_S) := by
  subst hn
  subst hx
  rw [spX1_grow_e]
  simp only [gv_e1]
  by_cases y : n = 60
  · subst y
    rw [if_neg (by decide)]
    exact Or.inr ⟨rfl, rfl⟩
  · obtain ⟨fb, hb, b1, b2, b3⟩ := mc_grow (f := f2) (h := c2) hB hf hc si
    obtain ⟨ft, ht, t1, t2, t3⟩ := mc_copy (f := f0) (h := c0) b2 b3
    rw [if_pos (show nI n < (60 : Int32) from nI_lt (b := 60) (by omega) (by decide)), b1, gv_e3, t1, gv_e2, spX1_leaves_e, spX1_leaves_e, gv_e1, gv_e1, mc_leaves hf, mc_leaves t2, nI_1, nI_add]
    exact Or.inl ⟨by omega, ft, ht, fb, hb, rfl, t2, t3⟩
variable {g0 d0 g1 d1 g2 d2 : Nat → Int32} {lp uq : Nat → Int64} {bg : Nat → Int32}
theorem mz_leaves (hf : mF f0 L) (hg : mF g0 M) (h : mX L M) : spX1_leaves f0 c0 f1 c1 f2 c2 lo up be si pl cu ge fa = spX1_leaves g0 d0 g1 d1 g2 d2 lp uq bg si pl cu ge fa := by rw [sv_leaves hf, sv_leaves hg, mx_all h]
theorem mz_lit (hf : mF f0 L) (hg : mF g0 M) (h : mX L M) : spX1_lit f0 c0 f1 c1 f2 c2 lo up be si pl cu ge fa = spX1_lit g0 d0 g1 d1 g2 d2 lp uq bg si pl cu ge fa := by rw [sv_lit hf, sv_lit hg, mx_lit h]
theorem mz_look (hf : mF f0 L) (hc : mF c0 C) (hg : mF g0 M) (hd : mF d0 D) (h : mX L M) (h2 : mX C D) {r c : Nat} (hr : r < 8) (hk : c < 12) : spX1_look f0 c0 f1 c1 f2 c2 lo up be si pl cu ge fa r c = spX1_look g0 d0 g1 d1 g2 d2 lp uq bg si pl cu ge fa r (11 - c) := by
  rw [sv_look hf hc hr hk, sv_look hg hd hr (by omega), h r (11 - c) (by omega), h2 r (11 - c) (by omega), show 11 - (11 - c) = c by omega]
theorem mz_shade (hf : mF f0 L) (hg : mF g0 M) (h : mX L M) {r c : Nat} (hr : r < 8) (hk : c < 12) : spX1_shadeOf f0 c0 f1 c1 f2 c2 lo up be si pl cu ge fa r c = spX1_shadeOf g0 d0 g1 d1 g2 d2 lp uq bg si pl cu ge fa r (11 - c) := by
  rw [sv_shade hf hr hk, sv_shade hg hr (by omega), mx_sd h (show 11 - c < 12 by omega), show 11 - (11 - c) = c by omega]
theorem mz_holders (hf : mF f0 L) (hg : mF g0 M) (h : mX L M) {r c : Nat} (hr : r < 8) (hk : c < 12) : spX1_holdersOf f0 c0 f1 c1 f2 c2 lo up be si pl cu ge fa r c = spX1_holdersOf g0 d0 g1 d1 g2 d2 lp uq bg si pl cu ge fa r (11 - c) := by
  rw [sv_holders hf hr hk, sv_holders hg hr (by omega), mx_ho h (show 11 - c < 12 by omega), show 11 - (11 - c) = c by omega]
theorem mz_neigh (hf : mF f0 L) (hg : mF g0 M) (h : mX L M) {r c : Nat} (hr : r < 8) (hk : c < 12) : spX1_neighboursOf f0 c0 f1 c1 f2 c2 lo up be si pl cu ge fa r c = spX1_neighboursOf g0 d0 g1 d1 g2 d2 lp uq bg si pl cu ge fa r (11 - c) := by
  rw [sv_neigh hf hr hk, sv_neigh hg hr (by omega), mx_ne h (show 11 - c < 12 by omega), show 11 - (11 - c) = c by omega]
theorem mz_in (hf : mF f0 L) (hg : mF g0 M) (h : mX L M) {c : Nat} (hk : c < 12) : spX1_leavesIn f0 c0 f1 c1 f2 c2 lo up be si pl cu ge fa c = spX1_leavesIn g0 d0 g1 d1 g2 d2 lp uq bg si pl cu ge fa (11 - c) := by
  rw [sv_in hf hk, sv_in hg (by omega), mx_sd h (show 11 - c < 12 by omega), show 11 - (11 - c) = c by omega]
theorem mz_next (hB : mB be B) (hf : mF f0 L) (hc : mF c0 C) (hE : mB bg E) (hg : mF g0 M) (hd : mF d0 D) (h : mX L M) (h2 : mX C D) (h3 : ∀ k, k < 12 → E k = B (11 - k)) {q q' : Int32} {f' h' f'' h'' : Nat → Int32} (hw : (q, f', h') = spX1_leavesNext f0 c0 f1 c1 f2 c2 lo up be si pl cu ge fa) (hw' : (q', f'', h'') = spX1_leavesNext g0 d0 g1 d1 g2 d2 lp uq bg si pl cu ge fa) : q = q' := by
  rw [sv_next hB hf hc hw, sv_next hE hg hd hw', mx_all (mx_gr (mx_nx h h2) h3)]
theorem mz_rep (hB : mB be B) (hf : mF f0 L) (hc : mF c0 C) (hE : mB bg E) (hg : mF g0 M) (hd : mF d0 D) (h : mX L M) (h2 : mX C D) (h3 : ∀ k, k < 12 → E k = B (11 - k)) {q q' : Int32} {a1 a2 a3 a4 e1 e2 e3 e4 : Nat → Int32} {a5 a6 e5 e6 : Nat → Int64} (hw : (q, a1, a2, a3, a4, a5, a6) = spX1_repeatsIn f0 c0 f1 c1 f2 c2 lo up be si pl cu ge fa) (hw' : (q', e1, e2, e3, e4, e5, e6) = spX1_repeatsIn g0 d0 g1 d1 g2 d2 lp uq bg si pl cu ge fa) : q = q' := mx_rep h h2 h3 (sv_rep hB hf hc hw) (sv_rep hE hg hd hw')
end SVA
