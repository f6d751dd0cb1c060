/-! When a wall comes again; the best cut. -/
theorem gv_e5 {α0 α1 α2 α3 α4 β : Type} (a : α0) (b : α1) (c : α2) (d : α3) (e : α4) (k : α0 → α1 → α2 → α3 → α4 → β) : gv_b5 (a, b, c, d, e) k = k a b c d e := rfl
def mC_ (C : Nat → Nat → Bool) (n : Nat) : Nat → Nat → Bool := if n = 0 then C else ma_C0
def mS (s : Int32) (B : Nat → Nat) (L C : Nat → Nat → Bool) : Nat → Nat → Nat → Bool
  | 0 => L
  | n + 1 => ma_gr B (ma_nx s (mS s B L C n) (mC_ C n)) 12
def mE (L M : Nat → Nat → Bool) : Prop := ∀ r c, r < 8 → c < 12 → L r c = M r c
theorem mh_eq {L M : Nat → Nat → Bool} : (lN (ma_pk L 4 0 0) = lN (ma_pk M 4 0 0) ∧ lN (ma_pk L 4 4 0) = lN (ma_pk M 4 4 0)) ↔ mE L M := by
  rw [ma_pk_inj, ma_pk_inj]
  constructor
  · intro h r c hr hc
    by_cases e : r < 4
    · exact h.1 r (Nat.zero_le r) (by omega) c hc
    · exact h.2 r (by omega) (by omega) c hc
  · exact fun h => ⟨fun r _ h2 c hc => h r c (by omega) hc, fun r _ h2 c hc => h r c (by omega) hc⟩
section MLK
variable {f0 c0 f1 c1 f2 c2 : Nat → Int32} {lo up : Nat → Int64} {be : Nat → Int32} {si pl cu ge fa : Int32}
theorem mk_look {i : Nat} : ∀ n j, (lpX1_looksAsBefore_2 i f0 c0 f1 c1 f2 c2 lo up be si pl cu ge fa n j = 0) ↔ ¬ ∃ k, j ≤ k ∧ k < j + n ∧ lo k = lo i ∧ up k = up i
  | 0, j => by
    rw [lpX1_looksAsBefore_2_0]
    exact ⟨fun _ h => by obtain ⟨k, h1, h2, _⟩ := h; omega, fun _ => rfl⟩
  | n + 1, j => by
    have ih := mk_look (i := i) n (j + 1)
    have skip : ¬ (lo j = lo i ∧ up j = up i) → ((¬ ∃ k, j + 1 ≤ k ∧ k < j + 1 + n ∧ lo k = lo i ∧ up k = up i) ↔ ¬ ∃ k, j ≤ k ∧ k < j + (n + 1) ∧ lo k = lo i ∧ up k = up i) := by
      intro h
      constructor
      · intro h1 h2
        obtain ⟨k, a, b, d⟩ := h2
        by_cases e : k = j
        · subst e; exact h d
        · exact h1 ⟨k, by omega, by omega, d⟩
      · intro h1 h2
        obtain ⟨k, a, b, d⟩ := h2
        exact h1 ⟨k, by omega, by omega, d⟩
    rw [lpX1_looksAsBefore_2_s]
    by_cases h1 : lo j = lo i
    · rw [if_pos ((lg_cmp_eq _ _).mpr h1)]
      by_cases h2 : up j = up i
      · rw [if_pos ((lg_cmp_eq _ _).mpr h2)]
        exact ⟨fun h => absurd h (by decide), fun h => absurd ⟨j, Nat.le_refl j, by omega, h1, h2⟩ h⟩
      · rw [if_neg (fun z => h2 ((lg_cmp_eq _ _).mp z)), ih]
        exact skip (fun z => h2 z.2)
    · rw [if_neg (fun z => h1 ((lg_cmp_eq _ _).mp z)), ih]
      exact skip (fun z => h1 z.1)
end MLK
-- when a wall comes again: what the answer is
def mRp (E : Nat → Prop) : Nat → Nat → Int32 → Prop
  | 0, _, r => r = -1
  | n + 1, i, r => (E (i + 1) ∧ r = nI (i + 1)) ∨ (¬ E (i + 1) ∧ mRp E n (i + 1) r)
theorem mRp_same {E E' : Nat → Prop} (h : ∀ i, E i ↔ E' i) : ∀ (n i : Nat) (r r' : Int32), mRp E n i r → mRp E' n i r' → r = r'
  | 0, _, r, r', h1, h2 => (show r = -1 from h1).trans (show r' = -1 from h2).symm
  | n + 1, i, r, r', h1, h2 => by
    rcases h1 with ⟨a, b⟩ | ⟨a, b⟩
    · rcases h2 with ⟨a', b'⟩ | ⟨a', b'⟩
      · rw [b, b']
      · exact absurd ((h _).mp a) a'
    · rcases h2 with ⟨a', b'⟩ | ⟨a', b'⟩
      · exact absurd ((h _).mpr a') a
      · exact mRp_same h n (i + 1) r r' b b'
def mEx (s : Int32) (B : Nat → Nat) (L C : Nat → Nat → Bool) (i : Nat) : Prop := ∃ k, k < i ∧ (k = 0 → mE C ma_C0) ∧ mE (mS s B L C k) (mS s B L C i)
theorem mr_joint {f0 c0 be : Nat → Int32} {si pl cu ge fa b1 : Int32} {B : Nat → Nat} {L C : Nat → Nat → Bool} (hB : mB be B) {fst : Nat} (hf1 : fst ≤ 1) (hfst : fst = 0 ↔ mE C ma_C0) :
    ∀ (n i : Nat) (f1 c1 f2 c2 : Nat → Int32) (lo up : Nat → Int64), i + 1 + n = 61 → mF f1 (mS si B L C i) → mF c1 (mC_ C i) → (∀ j, j < i + 1 → lo j = lN (ma_pk (mS si B L C j) 4 0 0) ∧ up j = lN (ma_pk (mS si B L C j) 4 4 0)) →
    ∃ r f1' c1' f2' c2' lo' up', lpX1_repeatsIn_34 b1 fst f0 c0 be si pl cu ge fa n (i + 1) f1 c1 f2 c2 lo up = (r, f1', c1', f2', c2', lo', up') ∧ mRp (mEx si B L C) n i r
  | 0, i, f1, c1, f2, c2, lo, up, hi, h1, h2, h3 => ⟨-1, f1, c1, f2, c2, lo, up, rfl, rfl⟩
  | n + 1, i, f1, c1, f2, c2, lo, up, hi, h1, h2, h3 => by
    obtain ⟨fb, hb, e1, e2, e3⟩ := mc_grow (f := f2) (h := c2) hB h1 h2 si
    obtain ⟨ft, ht, e4, e5, e6⟩ := mc_copy (f := f1) (h := c1) e2 e3
    have e2' : mF ft (mS si B L C (i + 1)) := e5
    have e6' : mF ht (mC_ C (i + 1)) := by
      unfold mC_
      rw [if_neg (by omega)]
      exact e6
    have hlo : spX0_leavesOfHalf ft ht 0 = lN (ma_pk (mS si B L C (i + 1)) 4 0 0) := mc_half e2' (by omega)
    have hup : spX0_leavesOfHalf ft ht 4 = lN (ma_pk (mS si B L C (i + 1)) 4 4 0) := mc_half e2' (by omega)
    have hh : ∀ j, j < i + 1 + 1 → vp_updL lo (i + 1) (lN (ma_pk (mS si B L C (i + 1)) 4 0 0)) j = lN (ma_pk (mS si B L C j) 4 0 0) ∧ vp_updL up (i + 1) (lN (ma_pk (mS si B L C (i + 1)) 4 4 0)) j = lN (ma_pk (mS si B L C j) 4 4 0) := by
      intro j hj
      by_cases z : j = i + 1
      · subst z; exact ⟨pk_uLs, pk_uLs⟩
      · rw [pk_uLn z, pk_uLn z]; exact h3 j (by omega)
    rw [lpX1_repeatsIn_34_s, e1, gv_e3, e4, gv_e2, spX1_remember_e, gv_e1, gv_e1, hlo, hup, gv_e2, spX1_looksAsBefore_e, gv_e1]
    have hfound : (∃ k, fst ≤ k ∧ k < fst + (i + 1 - fst) ∧ vp_updL lo (i + 1) (lN (ma_pk (mS si B L C (i + 1)) 4 0 0)) k = vp_updL lo (i + 1) (lN (ma_pk (mS si B L C (i + 1)) 4 0 0)) (i + 1) ∧ vp_updL up (i + 1) (lN (ma_pk (mS si B L C (i + 1)) 4 4 0)) k = vp_updL up (i + 1) (lN (ma_pk (mS si B L C (i + 1)) 4 4 0)) (i + 1)) ↔ mEx si B L C (i + 1) := by
      constructor
      · intro h
        obtain ⟨k, a, b, d1, d2⟩ := h
        have hk : k < i + 1 := by omega
        rw [(hh k (by omega)).1, (hh (i + 1) (by omega)).1] at d1
        rw [(hh k (by omega)).2, (hh (i + 1) (by omega)).2] at d2
        exact ⟨k, hk, fun z => hfst.mp (by omega), mh_eq.mp ⟨d1, d2⟩⟩
      · intro h
        obtain ⟨k, b, d, g⟩ := h
        have hfk : fst ≤ k := by
          by_cases e : k = 0
          · have := hfst.mpr (d e)
            omega
          · omega
        have hE := mh_eq.mpr g
        refine ⟨k, hfk, by omega, ?_, ?_⟩
        · rw [(hh k (by omega)).1, (hh (i + 1) (by omega)).1]; exact hE.1
        · rw [(hh k (by omega)).2, (hh (i + 1) (by omega)).2]; exact hE.2
    by_cases hx : ∃ k, fst ≤ k ∧ k < fst + (i + 1 - fst) ∧ vp_updL lo (i + 1) (lN (ma_pk (mS si B L C (i + 1)) 4 0 0)) k = vp_updL lo (i + 1) (lN (ma_pk (mS si B L C (i + 1)) 4 0 0)) (i + 1) ∧ vp_updL up (i + 1) (lN (ma_pk (mS si B L C (i + 1)) 4 4 0)) k = vp_updL up (i + 1) (lN (ma_pk (mS si B L C (i + 1)) 4 4 0)) (i + 1)
    · rw [if_neg (fun z => (mk_look _ _).mp z hx)]
      exact ⟨nI (i + 1), ft, ht, fb, hb, _, _, rfl, Or.inl ⟨hfound.mp hx, rfl⟩⟩
    · rw [if_pos ((mk_look _ _).mpr hx)]
      obtain ⟨r, f1', c1', f2', c2', lo', up', k1, k2⟩ := mr_joint (b1 := b1) (f0 := f0) (c0 := c0) (pl := pl) (cu := cu) (ge := ge) (fa := fa) hB hf1 hfst n (i + 1) ft ht fb hb _ _ (by omega) e2' e6' hh
      exact ⟨r, f1', c1', f2', c2', lo', up', k1, Or.inr ⟨fun z => hx (hfound.mpr z), k2⟩⟩
theorem mr_repeats {f0 c0 f1 c1 f2 c2 be : Nat → Int32} {lo up : Nat → Int64} {si pl cu ge fa : Int32} {B : Nat → Nat} {L C : Nat → Nat → Bool} (hB : mB be B) (hf : mF f0 L) (hc : mF c0 C) :
    ∃ r f1' c1' f2' c2' lo' up', spX1_repeatsIn f0 c0 f1 c1 f2 c2 lo up be si pl cu ge fa = (r, f1', c1', f2', c2', lo', up') ∧ mRp (mEx si B L C) 60 0 r := by
  obtain ⟨ft, ht, e4, e5, e6⟩ := mc_copy (f := f1) (h := c1) hf hc
  have hlo : spX0_leavesOfHalf ft ht 0 = lN (ma_pk L 4 0 0) := mc_half e5 (by omega)
  have hup : spX0_leavesOfHalf ft ht 4 = lN (ma_pk L 4 4 0) := mc_half e5 (by omega)
  have hh : ∀ j, j < 0 + 1 → vp_updL lo 0 (lN (ma_pk L 4 0 0)) j = lN (ma_pk (mS si B L C j) 4 0 0) ∧ vp_updL up 0 (lN (ma_pk L 4 4 0)) j = lN (ma_pk (mS si B L C j) 4 4 0) := by
    intro j hj
    obtain rfl : j = 0 := by omega
    exact ⟨pk_uLs, pk_uLs⟩
  rw [spX1_repeatsIn_e, gv_e1]
  by_cases h0 : spX0_hasCuts f0 c0 = 0
  · rw [if_pos h0]
    have hE : mE C ma_C0 := by rw [mc_cuts hc] at h0; exact h0
    rw [e4, gv_e2, spX1_remember_e, gv_e1, gv_e1, hlo, hup, gv_e2]
    exact mr_joint hB (fst := 0) (by omega) ⟨fun _ => hE, fun _ => rfl⟩ 60 0 ft ht f2 c2 _ _ rfl e5 e6 hh
  · rw [if_neg h0]
    have hE : ¬ mE C ma_C0 := fun z => h0 (by rw [mc_cuts hc]; exact z)
    rw [e4, gv_e2, spX1_remember_e, gv_e1, gv_e1, hlo, hup, gv_e2]
    exact mr_joint hB (fst := 1) (by omega) ⟨fun z => absurd z (by decide), fun z => absurd z hE⟩ 60 0 ft ht f2 c2 _ _ rfl e5 e6 hh
-- the best cut
theorem ma_ct_le (p : Nat → Bool) : ∀ n, ma_ct p n ≤ n
  | 0 => Nat.le_refl 0
  | n + 1 => by
    have h1 := ma_ct_le p n
    have h2 := ma_le1 (p n)
    rw [ma_ct]
    omega
def mbf (s : Int32) (B : Nat → Nat) (L C : Nat → Nat → Bool) (r c : Nat) : Nat := ma_ct (ma_any (ma_gr B (ma_nx s (fun q k => if q = r ∧ k = c then false else L q k) (fun q k => if q = r ∧ k = c then true else C q k)) 12) 8) 12
def mbp (s : Int32) (B : Nat → Nat) (L C : Nat → Nat → Bool) (i : Nat) : Nat := if L (i / 12) (i % 12) = true then mbf s B L C (i / 12) (i % 12) + 1 else 0
def mbF (ψ : Nat → Nat) : Nat → Nat → Nat → Nat → Nat × Nat
  | 0, _, b, M => (b, M)
  | n + 1, i, b, M => if M < ψ i then mbF ψ n (i + 1) i (ψ i) else mbF ψ n (i + 1) b M
def mbv (b M : Nat) : Int32 := if M = 0 then -1 else nI b
theorem mb_joint {f0 c0 be : Nat → Int32} {lo up : Nat → Int64} {si pl cu ge fa : Int32} {B : Nat → Nat} {L C : Nat → Nat → Bool} (hB : mB be B) (hf : mF f0 L) (hc : mF c0 C) :
    ∀ (n i b M : Nat) (f1 c1 f2 c2 : Nat → Int32), i + n = 96 → M ≤ 13 →
    ∃ f1' c1' f2' c2', lpX1_bestCut_6 f0 c0 lo up be si pl cu ge fa n i (mbv b M) (nI M - 1) f1 c1 f2 c2 = (mbv (mbF (mbp si B L C) n i b M).1 (mbF (mbp si B L C) n i b M).2, f1', c1', f2', c2')
  | 0, i, b, M, f1, c1, f2, c2, hi, hM => ⟨f1, c1, f2, c2, rfl⟩
  | n + 1, i, b, M, f1, c1, f2, c2, hi, hM => by
    have hr : i / 12 < 8 := by omega
    have hk : i % 12 < 12 := by omega
    have er : nI i / 12 = nI (i / 12) := pk_div (d := 12) (by omega) (by decide) (by decide)
    have ek : nI i - nI i / 12 * 12 = nI (i % 12) := pk_rem (d := 12) (by omega) (by decide) (by decide)
    rw [lpX1_bestCut_6_s, er, ← er, ek, er, gv_e1, mc_leafAt hf hr hk]
    cases hL : L (i / 12) (i % 12) with
    | false =>
      have hp : mbp si B L C i = 0 := by
        unfold mbp
        rw [hL]
        exact if_neg (by decide)
      rw [if_neg (by decide : ¬ (false = true)), if_pos (rfl : (0 : Int32) = 0), mbF, hp, if_neg (Nat.not_lt_zero M)]
      exact mb_joint hB hf hc n (i + 1) b M f1 c1 f2 c2 (by omega) hM
    | true =>
      have hp : mbp si B L C i = mbf si B L C (i / 12) (i % 12) + 1 := by
        unfold mbp
        rw [hL]
        exact if_pos rfl
      rw [if_pos (rfl : true = true), if_neg (by decide : ¬ (1 : Int32) = 0)]
      obtain ⟨ft, ht, e4, e5, e6⟩ := mc_copy (f := f1) (h := c1) hf hc
      obtain ⟨fu, hu, a1, a2, a3⟩ := mc_cut e5 e6 hr hk
      obtain ⟨fb, hb, b1, b2, b3⟩ := mc_grow (f := f2) (h := c2) hB a2 a3 si
      have hl1 : spX0_countLit fb hb = nI (mbf si B L C (i / 12) (i % 12)) := mc_lit (h := hb) b2
      have hle : mbf si B L C (i / 12) (i % 12) ≤ 12 := ma_ct_le _ 12
      rw [spX1_litBehindCut_e, e4, gv_e2, a1, gv_e2, b1, gv_e3, gv_e1, hl1, gv_e5, mbF, hp]
      generalize mbf si B L C (i / 12) (i % 12) = its at hle ⊢
      have hcmp : (nI its ≤ nI M - 1) ↔ its + 1 ≤ M := by
        cases M with
        | zero =>
          rw [Int32.le_iff_toInt_le, nI_toInt (by omega), show (nI 0 - 1 : Int32).toInt = -1 by decide]
          omega
        | succ m =>
          rw [nI_pred, nI_leI (by omega) (by omega)]
          omega
      by_cases hx : its + 1 ≤ M
      · rw [if_pos (hcmp.mpr hx), if_neg (by omega)]
        exact mb_joint hB hf hc n (i + 1) b M fu hu fb hb (by omega) hM
      · rw [if_neg (fun z => hx (hcmp.mp z)), if_pos (by omega)]
        have ih := mb_joint (lo := lo) (up := up) (pl := pl) (cu := cu) (ge := ge) (fa := fa) (si := si) hB hf hc n (i + 1) i (its + 1) fu hu fb hb (by omega) (by omega)
        rw [nI_pred, show mbv i (its + 1) = nI i from if_neg (by omega)] at ih
        exact ih
theorem mb_best {f0 c0 f1 c1 f2 c2 be : Nat → Int32} {lo up : Nat → Int64} {si pl cu ge fa : Int32} {B : Nat → Nat} {L C : Nat → Nat → Bool} (hB : mB be B) (hf : mF f0 L) (hc : mF c0 C) :
    ∃ f1' c1' f2' c2', spX1_bestCut f0 c0 f1 c1 f2 c2 lo up be si pl cu ge fa = (mbv (mbF (mbp si B L C) 96 0 0 0).1 (mbF (mbp si B L C) 96 0 0 0).2, f1', c1', f2', c2') := by
  obtain ⟨f1', c1', f2', c2', k1⟩ := mb_joint (lo := lo) (up := up) (si := si) (pl := pl) (cu := cu) (ge := ge) (fa := fa) hB hf hc 96 0 0 0 f1 c1 f2 c2 rfl (by omega)
  refine ⟨f1', c1', f2', c2', ?_⟩
  rw [spX1_bestCut_e]
  exact k1
