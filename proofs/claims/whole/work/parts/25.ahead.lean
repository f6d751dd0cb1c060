/-! When a wall comes again; the best cut. -/
theorem gv_e5 {α0 α1 α2 α3 α4 β : Type} (a : α0) (b : α1) (c : α2) (d : α3) (e : α4) (k : α0 → α1 → α2 → α3 → α4 → β) : gv_b5 (a, b, c, d, e) k = k a b c d e := rfl
def mC_ (C : Nat → Nat → Bool) (n : Nat) : Nat → Nat → Bool := if n = 0 then C else ma_C0
def mS (s : Int32) (B : Nat → Nat) (L C : Nat → Nat → Bool) : Nat → Nat → Nat → Bool
  | 0 => L
  | n + 1 => ma_gr B (ma_nx s (mS s B L C n) (mC_ C n)) 12
def mE (L M : Nat → Nat → Bool) : Prop := ∀ r c, r < 8 → c < 12 → L r c = M r c
theorem mh_eq {L M : Nat → Nat → Bool} : (lN (ma_pk L 4 0 0) = lN (ma_pk M 4 0 0) ∧ lN (ma_pk L 4 4 0) = lN (ma_pk M 4 4 0)) ↔ mE L M := by
  rw [ma_pk_inj, ma_pk_inj]
  constructor
  · intro h r c hr hc
    by_cases e : r < 4
    · exact h.1 r (Nat.zero_le r) (by omega) c hc
    · exact h.2 r (by omega) (by omega) c hc
  · exact fun h => ⟨fun r _ h2 c hc => h r c (by omega) hc, fun r _ h2 c hc => h r c (by omega) hc⟩
section MLK
variable {f0 c0 f1 c1 f2 c2 : Nat → Int32} {lo up : Nat → Int64} {be : Nat → Int32} {si pl cu ge fa : Int32}
theorem mk_look {i : Nat} : ∀ n j, (lpX1_looksAsBefore_2 i f0 c0 f1 c1 f2 c2 lo up be si pl cu ge fa n j = 0) ↔ ¬ ∃ k, j ≤ k ∧ k < j + n ∧ lo k = lo i ∧ up k = up i
  | 0, j => by
    rw [lpX1_looksAsBefore_2_0]
    exact ⟨fun _ h => by obtain ⟨k, h1, h2, _⟩ := h; omega, fun _ => rfl⟩
  | n + 1, j => by
    have ih := mk_look (i := i) n (j + 1)
    have skip : ¬ (lo j = lo i ∧ up j = up i) → ((¬ ∃ k, j + 1 ≤ k ∧ k < j + 1 + n ∧ lo k = lo i ∧ up k = up i) ↔ ¬ ∃ k, j ≤ k ∧ k < j + (n + 1) ∧ lo k = lo i ∧ up k = up i) := by
      intro h
      constructor
      · intro h1 h2
        obtain ⟨k, a, b, d⟩ := h2
        by_cases e : k = j
        · subst e; exact h d
        · exact h1 ⟨k, by omega, by omega, d⟩
      · intro h1 h2
        obtain ⟨k, a, b, d⟩ := h2
        exact h1 ⟨k, by omega, by omega, d⟩
    rw [lpX1_looksAsBefore_2_s]
    by_cases h1 : lo j = lo i
    · rw [if_pos ((lg_cmp_eq _ _).mpr h1)]
      by_cases h2 : up j = up i
      · rw [if_pos ((lg_cmp_eq _ _).mpr h2)]
        exact ⟨fun h => absurd h (by decide), fun h => absurd ⟨j, Nat.le_refl j, by omega, h1, h2⟩ h⟩
      · rw [if_neg (fun z => h2 ((lg_cmp_eq _ _).mp z)), ih]
        exact skip (fun z => h2 z.2)
    · rw [if_neg (fun z => h1 ((lg_cmp_eq _ _).mp z)), ih]
      exact skip (fun z => h1 z.1)
end MLK
theorem mk_in {g be : Nat → Int32} {si ge cu pl br th : Int32} {i : Nat} {K : Int32 × (Nat → Int32) × Int32} : ∀ n j, ((∃ k, j ≤ k ∧ k < j + n ∧ ¬ spX2_areAlike g be si ge cu pl br th k i = 0) → lpX2_repeatsIn_24 i g be si ge cu pl br th K n j = (nI i, g, th)) ∧ ((¬ ∃ k, j ≤ k ∧ k < j + n ∧ ¬ spX2_areAlike g be si ge cu pl br th k i = 0) → lpX2_repeatsIn_24 i g be si ge cu pl br th K n j = K)
  | 0, j => ⟨fun h => by obtain ⟨k, h1, h2, _⟩ := h; omega, fun _ => rfl⟩
  | n + 1, j => by
    have ih := mk_in (g := g) (be := be) (si := si) (ge := ge) (cu := cu) (pl := pl) (br := br) (th := th) (i := i) (K := K) n (j + 1)
    rw [lpX2_repeatsIn_24_s, gv_e1]
    by_cases e : spX2_areAlike g be si ge cu pl br th j i = 0
    · rw [if_pos e]
      constructor
      · intro h
        obtain ⟨k, a, b, d⟩ := h
        refine ih.1 ⟨k, ?_, by omega, d⟩
        by_cases z : k = j
        · subst z; exact absurd e d
        · omega
      · intro h
        refine ih.2 (fun z => h ?_)
        obtain ⟨k, a, b, d⟩ := z
        exact ⟨k, by omega, by omega, d⟩
    · rw [if_neg e]
      exact ⟨fun _ => rfl, fun h => absurd ⟨j, Nat.le_refl j, by omega, e⟩ h⟩
theorem mr_joint {f0 c0 be bm : Nat → Int32} {si pl cu ge fa gem cum plm brm th b1 : Int32} {B : Nat → Nat} {L C : Nat → Nat → Bool} (hB : mB be B) (hBm : mB bm B) (hLC : ∀ r c, C r c = true → L r c = false) {fst : Nat} (hf1 : fst ≤ 1) (hfst : fst = 0 ↔ mE C ma_C0) :
    ∀ (n i : Nat) (f1 c1 f2 c2 : Nat → Int32) (lo up : Nat → Int64) (g : Nat → Int32), i + 1 + n = 61 → mF f1 (mS si B L C i) → mF c1 (mC_ C i) → (∀ j, j < i + 1 → lo j = lN (ma_pk (mS si B L C j) 4 0 0) ∧ up j = lN (ma_pk (mS si B L C j) 4 4 0)) → (∀ j, j < i + 1 → mG g j (mS si B L C j) (mC_ C j)) →
    ∃ r f1' c1' f2' c2' lo' up' g', lpX1_repeatsIn_34 b1 fst f0 c0 be si pl cu ge fa n (i + 1) f1 c1 f2 c2 lo up = (r, f1', c1', f2', c2', lo', up') ∧ lpX2_repeatsIn_7 bm si gem cum plm brm th n (i + 1) g = (r, g', th) ∧ ∀ j, j < 96 → g' j = g j
  | 0, i, f1, c1, f2, c2, lo, up, g, hi, h1, h2, h3, h4 => ⟨-1, f1, c1, f2, c2, lo, up, g, rfl, rfl, fun _ _ => rfl⟩
  | n + 1, i, f1, c1, f2, c2, lo, up, g, hi, h1, h2, h3, h4 => by
    have hLCi : ∀ r c, mC_ C i r c = true → mS si B L C i r c = false := by
      intro r c h
      unfold mC_ at h
      by_cases e : i = 0
      · subst e
        rw [if_pos rfl] at h
        exact hLC r c h
      · rw [if_neg e] at h
        exact absurd (show (false = true) from h) (by decide)
    obtain ⟨fb, hb, e1, e2, e3⟩ := mc_grow (f := f2) (h := c2) hB h1 h2 si
    obtain ⟨ft, ht, e4, e5, e6⟩ := mc_copy (f := f1) (h := c1) e2 e3
    obtain ⟨g', e7, e8, e9⟩ := mm_grow (g := g) (si := si) (ge := gem) (cu := cum) (pl := plm) (br := brm) (th := th) (a := i) (b := i + 1) hBm hLCi (by omega) (by omega) (by omega) (h4 i (by omega))
    have e2' : mF ft (mS si B L C (i + 1)) := e5
    have e6' : mF ht (mC_ C (i + 1)) := by
      unfold mC_
      rw [if_neg (by omega)]
      exact e6
    have hG' : ∀ j, j < i + 1 + 1 → mG g' j (mS si B L C j) (mC_ C j) := by
      intro j hj
      by_cases z : j = i + 1
      · subst z
        unfold mC_
        rw [if_neg (by omega)]
        exact e8
      · intro r c hr hc
        rw [e9 _ (by omega)]
        exact h4 j (by omega) r c hr hc
    have hlo : spX0_leavesOfHalf ft ht 0 = lN (ma_pk (mS si B L C (i + 1)) 4 0 0) := mc_half e2' (by omega)
    have hup : spX0_leavesOfHalf ft ht 4 = lN (ma_pk (mS si B L C (i + 1)) 4 4 0) := mc_half e2' (by omega)
    have hh : ∀ j, j < i + 1 + 1 → vp_updL lo (i + 1) (lN (ma_pk (mS si B L C (i + 1)) 4 0 0)) j = lN (ma_pk (mS si B L C j) 4 0 0) ∧ vp_updL up (i + 1) (lN (ma_pk (mS si B L C (i + 1)) 4 4 0)) j = lN (ma_pk (mS si B L C j) 4 4 0) := by
      intro j hj
      by_cases z : j = i + 1
      · subst z; exact ⟨pk_uLs, pk_uLs⟩
      · rw [pk_uLn z, pk_uLn z]; exact h3 j (by omega)
    rw [lpX1_repeatsIn_34_s, e1, gv_e3, e4, gv_e2, spX1_remember_e, gv_e1, gv_e1, hlo, hup, gv_e2, spX1_looksAsBefore_e, gv_e1, lpX2_repeatsIn_7_s, Nat.add_sub_cancel, e7, gv_e2]
    have hfound : (∃ k, fst ≤ k ∧ k < fst + (i + 1 - fst) ∧ vp_updL lo (i + 1) (lN (ma_pk (mS si B L C (i + 1)) 4 0 0)) k = vp_updL lo (i + 1) (lN (ma_pk (mS si B L C (i + 1)) 4 0 0)) (i + 1) ∧ vp_updL up (i + 1) (lN (ma_pk (mS si B L C (i + 1)) 4 4 0)) k = vp_updL up (i + 1) (lN (ma_pk (mS si B L C (i + 1)) 4 4 0)) (i + 1)) ↔ ∃ k, 0 ≤ k ∧ k < 0 + (i + 1 - 0) ∧ ¬ spX2_areAlike g' bm si gem cum plm brm th k (i + 1) = 0 := by
      constructor
      · intro h
        obtain ⟨k, a, b, d1, d2⟩ := h
        have hk : k < i + 1 := by omega
        rw [(hh k (by omega)).1, (hh (i + 1) (by omega)).1] at d1
        rw [(hh k (by omega)).2, (hh (i + 1) (by omega)).2] at d2
        have hE := mh_eq.mp ⟨d1, d2⟩
        refine ⟨k, Nat.zero_le k, by omega, fun z => ?_⟩
        refine (mm_alike (hG' k (by omega)) (hG' (i + 1) (by omega)) ?_ ?_).mp z (fun r c hr hc => ⟨hE r c hr hc, ?_⟩)
        · intro r c y
          unfold mC_ at y
          by_cases e : k = 0
          · subst e; rw [if_pos rfl] at y; exact hLC r c y
          · rw [if_neg e] at y; exact absurd (show (false = true) from y) (by decide)
        · intro r c y
          unfold mC_ at y
          rw [if_neg (by omega)] at y
          exact absurd (show (false = true) from y) (by decide)
        · have e0 : mC_ C (i + 1) r c = false := by unfold mC_; rw [if_neg (by omega)]; rfl
          rw [e0]
          unfold mC_
          by_cases e : k = 0
          · rw [if_pos e]
            exact hfst.mp (by omega) r c hr hc
          · rw [if_neg e]; rfl
      · intro h
        obtain ⟨k, _, b, d⟩ := h
        have hd : ∀ r c, r < 8 → c < 12 → (mS si B L C k r c = mS si B L C (i + 1) r c ∧ mC_ C k r c = mC_ C (i + 1) r c) := by
          refine Classical.byContradiction (fun z => d ?_)
          refine (mm_alike (hG' k (by omega)) (hG' (i + 1) (by omega)) ?_ ?_).mpr z
          · intro r c y
            unfold mC_ at y
            by_cases e : k = 0
            · subst e; rw [if_pos rfl] at y; exact hLC r c y
            · rw [if_neg e] at y; exact absurd (show (false = true) from y) (by decide)
          · intro r c y
            unfold mC_ at y
            rw [if_neg (by omega)] at y
            exact absurd (show (false = true) from y) (by decide)
        have hfk : fst ≤ k := by
          by_cases e : k = 0
          · have hz : fst = 0 := hfst.mpr (fun r c hr hc => by
              have h5 := (hd r c hr hc).2
              subst e
              have e0 : mC_ C (i + 1) r c = false := by unfold mC_; rw [if_neg (by omega)]; rfl
              rw [e0] at h5
              unfold mC_ at h5
              rw [if_pos rfl] at h5
              rw [h5]
              rfl)
            omega
          · omega
        have hE := mh_eq.mpr (show mE (mS si B L C k) (mS si B L C (i + 1)) from fun r c hr hc => (hd r c hr hc).1)
        refine ⟨k, hfk, by omega, ?_, ?_⟩
        · rw [(hh k (by omega)).1, (hh (i + 1) (by omega)).1]; exact hE.1
        · rw [(hh k (by omega)).2, (hh (i + 1) (by omega)).2]; exact hE.2
    by_cases hx : ∃ k, fst ≤ k ∧ k < fst + (i + 1 - fst) ∧ vp_updL lo (i + 1) (lN (ma_pk (mS si B L C (i + 1)) 4 0 0)) k = vp_updL lo (i + 1) (lN (ma_pk (mS si B L C (i + 1)) 4 0 0)) (i + 1) ∧ vp_updL up (i + 1) (lN (ma_pk (mS si B L C (i + 1)) 4 4 0)) k = vp_updL up (i + 1) (lN (ma_pk (mS si B L C (i + 1)) 4 4 0)) (i + 1)
    · rw [if_neg (fun z => (mk_look _ _).mp z hx), (mk_in (i + 1 - 0) 0).1 (hfound.mp hx)]
      exact ⟨nI (i + 1), ft, ht, fb, hb, _, _, g', rfl, rfl, fun j hj => e9 j (by omega)⟩
    · rw [if_pos ((mk_look _ _).mpr hx), (mk_in (i + 1 - 0) 0).2 (fun z => hx (hfound.mpr z))]
      obtain ⟨r, f1', c1', f2', c2', lo', up', g'', k1, k2, k3⟩ := mr_joint (gem := gem) (cum := cum) (plm := plm) (brm := brm) (th := th) (b1 := b1) (f0 := f0) (c0 := c0) (pl := pl) (cu := cu) (ge := ge) (fa := fa) hB hBm hLC hf1 hfst n (i + 1) ft ht fb hb _ _ g' (by omega) e2' e6' hh hG'
      exact ⟨r, f1', c1', f2', c2', lo', up', g'', k1, k2, fun j hj => (k3 j hj).trans (e9 j (by omega))⟩
theorem mr_repeats {f0 c0 f1 c1 f2 c2 be bm g : Nat → Int32} {lo up : Nat → Int64} {si pl cu ge fa gem cum plm brm th : Int32} {B : Nat → Nat} {L C : Nat → Nat → Bool} (hB : mB be B) (hBm : mB bm B) (hLC : ∀ r c, C r c = true → L r c = false) (hf : mF f0 L) (hc : mF c0 C) (hG : mG g 0 L C) :
    ∃ r f1' c1' f2' c2' lo' up' g', spX1_repeatsIn f0 c0 f1 c1 f2 c2 lo up be si pl cu ge fa = (r, f1', c1', f2', c2', lo', up') ∧ spX2_repeatsIn g bm si gem cum plm brm th = (r, g', 0) ∧ ∀ j, j < 96 → g' j = g j := by
  obtain ⟨ft, ht, e4, e5, e6⟩ := mc_copy (f := f1) (h := c1) hf hc
  have hlo : spX0_leavesOfHalf ft ht 0 = lN (ma_pk L 4 0 0) := mc_half e5 (by omega)
  have hup : spX0_leavesOfHalf ft ht 4 = lN (ma_pk L 4 4 0) := mc_half e5 (by omega)
  have hh : ∀ j, j < 0 + 1 → vp_updL lo 0 (lN (ma_pk L 4 0 0)) j = lN (ma_pk (mS si B L C j) 4 0 0) ∧ vp_updL up 0 (lN (ma_pk L 4 4 0)) j = lN (ma_pk (mS si B L C j) 4 4 0) := by
    intro j hj
    obtain rfl : j = 0 := by omega
    exact ⟨pk_uLs, pk_uLs⟩
  have hG' : ∀ j, j < 0 + 1 → mG g j (mS si B L C j) (mC_ C j) := by
    intro j hj
    obtain rfl : j = 0 := by omega
    exact hG
  rw [spX1_repeatsIn_e, gv_e1, spX2_repeatsIn_e]
  by_cases h0 : spX0_hasCuts f0 c0 = 0
  · rw [if_pos h0]
    have hE : mE C ma_C0 := by rw [mc_cuts hc] at h0; exact h0
    rw [e4, gv_e2, spX1_remember_e, gv_e1, gv_e1, hlo, hup, gv_e2]
    exact mr_joint hB hBm hLC (fst := 0) (by omega) ⟨fun _ => hE, fun _ => rfl⟩ 60 0 ft ht f2 c2 _ _ g rfl e5 e6 hh hG'
  · rw [if_neg h0]
    have hE : ¬ mE C ma_C0 := fun z => h0 (by rw [mc_cuts hc]; exact z)
    rw [e4, gv_e2, spX1_remember_e, gv_e1, gv_e1, hlo, hup, gv_e2]
    exact mr_joint hB hBm hLC (fst := 1) (by omega) ⟨fun z => absurd z (by decide), fun z => absurd z hE⟩ 60 0 ft ht f2 c2 _ _ g rfl e5 e6 hh hG'
-- the best cut
theorem mb_joint {f0 c0 be bm : Nat → Int32} {lo up : Nat → Int64} {si pl cu ge fa gem cum plm brm th : Int32} {B : Nat → Nat} {L C : Nat → Nat → Bool} (hB : mB be B) (hBm : mB bm B) (hLC : ∀ r c, C r c = true → L r c = false) (hf : mF f0 L) (hc : mF c0 C) :
    ∀ (n i : Nat) (x1 x2 : Int32) (f1 c1 f2 c2 : Nat → Int32) (g : Nat → Int32), i + n = 96 → mG g 0 L C →
    ∃ r f1' c1' f2' c2' g', lpX1_bestCut_6 f0 c0 lo up be si pl cu ge fa n i x1 x2 f1 c1 f2 c2 = (r, f1', c1', f2', c2') ∧ lpX2_bestCut_11 bm si gem cum plm brm th n i x1 x2 g = (r, g', th) ∧ ∀ j, j < 96 → g' j = g j
  | 0, i, x1, x2, f1, c1, f2, c2, g, hi, hG => ⟨x1, f1, c1, f2, c2, g, rfl, rfl, fun _ _ => rfl⟩
  | n + 1, i, x1, x2, f1, c1, f2, c2, g, hi, hG => by
    have hr : i / 12 < 8 := by omega
    have hk : i % 12 < 12 := by omega
    have er : nI i / 12 = nI (i / 12) := pk_div (d := 12) (by omega) (by decide) (by decide)
    have ek : nI i - nI i / 12 * 12 = nI (i % 12) := pk_rem (d := 12) (by omega) (by decide) (by decide)
    rw [lpX1_bestCut_6_s, lpX2_bestCut_11_s, er, ← er, ek, er, gv_e1, mc_leafAt hf hr hk]
    have hgi : g i = mv_ (L (i / 12) (i % 12)) (C (i / 12) (i % 12)) := by
      have h1 := hG (i / 12) (i % 12) hr hk
      rw [show 96 * 0 + 12 * (i / 12) + i % 12 = i by omega] at h1
      exact h1
    rw [hgi]
    cases hL : L (i / 12) (i % 12) with
    | false =>
      rw [if_neg (by decide : ¬ (false = true)), if_pos (rfl : (0 : Int32) = 0), if_neg (by rw [mv_1]; decide)]
      exact mb_joint hB hBm hLC hf hc n (i + 1) x1 x2 f1 c1 f2 c2 g (by omega) hG
    | true =>
      rw [if_pos (rfl : true = true), if_neg (by decide : ¬ (1 : Int32) = 0), if_pos (by rw [mv_1])]
      obtain ⟨ft, ht, e4, e5, e6⟩ := mc_copy (f := f1) (h := c1) hf hc
      obtain ⟨fu, hu, a1, a2, a3⟩ := mc_cut e5 e6 hr hk
      obtain ⟨fb, hb, b1, b2, b3⟩ := mc_grow (f := f2) (h := c2) hB a2 a3 si
      have hcp := mm_copy (be := bm) (si := si) (ge := gem) (cu := cum) (pl := plm) (br := brm) (th := th) (show (0 : Nat) ≠ 61 by decide) g
      have hG61 : mG (upd (spX2_copies g bm si gem cum plm brm th 0 61) (5856 + i) 2) 61 (fun q k => if q = i / 12 ∧ k = i % 12 then false else L q k) (fun q k => if q = i / 12 ∧ k = i % 12 then true else C q k) := by
        intro q k hq hk2
        have h1 := mm_copyG (be := bm) (si := si) (ge := gem) (cu := cum) (pl := plm) (br := brm) (th := th) (show (0 : Nat) ≠ 61 by decide) hG q k hq hk2
        unfold upd
        dsimp only
        by_cases e : q = i / 12 ∧ k = i % 12
        · rw [if_pos (by omega), if_pos e, if_pos e]; rfl
        · rw [if_neg (by omega), if_neg e, if_neg e]; exact h1
      have hLC61 : ∀ q k, (fun q k => if q = i / 12 ∧ k = i % 12 then true else C q k) q k = true → (fun q k => if q = i / 12 ∧ k = i % 12 then false else L q k) q k = false := by
        intro q k h
        dsimp only at h ⊢
        by_cases e : q = i / 12 ∧ k = i % 12
        · rw [if_pos e]
        · rw [if_neg e] at h ⊢; exact hLC q k h
      obtain ⟨g', d1, d2, d3⟩ := mm_grow (g := upd (spX2_copies g bm si gem cum plm brm th 0 61) (5856 + i) 2) (si := si) (ge := gem) (cu := cum) (pl := plm) (br := brm) (th := th) (a := 61) (b := 1) hBm hLC61 (by omega) (by omega) (by omega) hG61
      have hsame : ∀ j, j < 96 → g' j = g j := by
        intro j hj
        rw [d3 j (by omega)]
        unfold upd
        rw [if_neg (by omega)]
        exact hcp.1 j (by omega)
      have hG0 : mG g' 0 L C := by
        intro q k hq hk2
        rw [hsame _ (by omega)]
        exact hG q k hq hk2
      have hl1 := mc_lit (h := hb) b2
      have hl2 := mm_lit (be := bm) (si := si) (ge := gem) (cu := cum) (pl := plm) (br := brm) (th := th) d2 (by omega)
      rw [spX1_litBehindCut_e, e4, gv_e2, a1, gv_e2, b1, gv_e3, gv_e1, hl1, gv_e5, gv_e1, d1, gv_e2, gv_e1, hl2]
      generalize nI (ma_ct (ma_any (ma_gr B (ma_nx si (fun q k => if q = i / 12 ∧ k = i % 12 then false else L q k) (fun q k => if q = i / 12 ∧ k = i % 12 then true else C q k)) 12) 8) 12) = its
      by_cases hx : its ≤ x2
      · rw [if_pos hx, if_pos hx]
        obtain ⟨r, f1', c1', f2', c2', g'', k1, k2, k3⟩ := mb_joint (lo := lo) (up := up) (pl := pl) (cu := cu) (ge := ge) (fa := fa) (gem := gem) (cum := cum) (plm := plm) (brm := brm) (th := th) (si := si) hB hBm hLC hf hc n (i + 1) x1 x2 fu hu fb hb g' (by omega) hG0
        exact ⟨r, f1', c1', f2', c2', g'', k1, k2, fun j hj => (k3 j hj).trans (hsame j hj)⟩
      · rw [if_neg hx, if_neg hx]
        obtain ⟨r, f1', c1', f2', c2', g'', k1, k2, k3⟩ := mb_joint (lo := lo) (up := up) (pl := pl) (cu := cu) (ge := ge) (fa := fa) (gem := gem) (cum := cum) (plm := plm) (brm := brm) (th := th) (si := si) hB hBm hLC hf hc n (i + 1) (nI i) its fu hu fb hb g' (by omega) hG0
        exact ⟨r, f1', c1', f2', c2', g'', k1, k2, fun j hj => (k3 j hj).trans (hsame j hj)⟩
