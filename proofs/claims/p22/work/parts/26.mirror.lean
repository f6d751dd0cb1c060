/-! A wall and the same wall in a mirror. -/
def mX (L M : Nat → Nat → Bool) : Prop := ∀ r c, c < 12 → M r c = L r (11 - c)
theorem mx_x {L M : Nat → Nat → Bool} (h : mX L M) (R : Nat) {c : Nat} (hc : c < 12) : ma_x M R c = ma_x L R (11 - c) := by
  unfold ma_x
  rw [h (R - 1) c hc]
theorem mx_s {p q : Nat → Bool} (h : ∀ c, c < 12 → q c = p (11 - c)) (s : Int32) {k : Nat} (hk : k ≤ 13) : ma_s s q k = ma_s s p (13 - k) := by
  have e0 : q 0 = p 11 := h 0 (by decide)
  have e11 : q 11 = p 0 := h 11 (by decide)
  unfold ma_s
  by_cases h0 : k = 0
  · subst h0
    rw [e0, e11]
    simp
  · by_cases h13 : k = 13
    · subst h13
      rw [e0, e11]
      simp
    · rw [if_pos (show 1 ≤ k ∧ k ≤ 12 by omega), if_pos (show 1 ≤ 13 - k ∧ 13 - k ≤ 12 by omega), h (k - 1) (by omega), show 11 - (k - 1) = 13 - k - 1 by omega]
theorem mx_3 {p q : Nat → Bool} (h : ∀ k, k ≤ 13 → q k = p (13 - k)) {c : Nat} (hc : c < 12) : ma_3 q c = ma_3 p (11 - c) := by
  unfold ma_3
  rw [h c (by omega), h (c + 1) (by omega), h (c + 2) (by omega), show 13 - c = 11 - c + 2 by omega, show 13 - (c + 1) = 11 - c + 1 by omega, show 13 - (c + 2) = 11 - c by omega]
  omega
section MXW
variable {L M C D : Nat → Nat → Bool} {s : Int32}
theorem mx_sx (h : mX L M) (s : Int32) (R : Nat) {k : Nat} (hk : k ≤ 13) : ma_s s (ma_x M R) k = ma_s s (ma_x L R) (13 - k) := mx_s (fun _ hc => mx_x h R hc) s hk
theorem mx_ho (h : mX L M) {r c : Nat} (hc : c < 12) : ma_ho s M r c = ma_ho s L r (11 - c) := mx_3 (fun _ hk => mx_sx h s r hk) hc
theorem mx_ne (h : mX L M) {r c : Nat} (hc : c < 12) : ma_ne s M r c = ma_ne s L r (11 - c) := by
  unfold ma_ne
  rw [mx_3 (fun _ hk => mx_sx h s r hk) hc, mx_3 (fun _ hk => mx_sx h s (r + 2) hk) hc, mx_sx h s (r + 1) (show c ≤ 13 by omega), mx_sx h s (r + 1) (show c + 2 ≤ 13 by omega), show 13 - c = 11 - c + 2 by omega, show 13 - (c + 2) = 11 - c by omega]
  omega
theorem mx_sd (h : mX L M) {w c : Nat} (hc : c < 12) : ma_sd M w c = ma_sd L w (11 - c) := ma_u_cong (fun k _ _ => h k c hc)
theorem mx_nx (h : mX L M) (h2 : mX C D) : mX (ma_nx s L C) (ma_nx s M D) := fun r c hc => by
  unfold ma_nx
  rw [mx_ho h hc, mx_ne h hc, mx_sd h hc, h r c hc, h 0 c hc, h2 r c hc]
theorem mx_col (h : mX L M) {k : Nat} (hk : k < 12) : (fun r => M r k) = (fun r => L r (11 - k)) := funext (fun r => h r k hk)
theorem mx_gr {B E : Nat → Nat} (h : mX L M) (hB : ∀ k, k < 12 → E k = B (11 - k)) : mX (ma_gr B L 12) (ma_gr E M 12) := fun q k hk => by
  unfold ma_gr
  rw [if_pos hk, if_pos (show 11 - k < 12 by omega), mx_col h hk, mx_sd h hk, hB k hk]
theorem mx_0 : mX ma_C0 ma_C0 := fun _ _ _ => rfl
def ma_sum (φ : Nat → Nat) : Nat → Nat
  | 0 => 0
  | n + 1 => ma_sum φ n + φ n
theorem mx_sum {φ ψ : Nat → Nat} (h : ∀ k, k < 12 → ψ k = φ (11 - k)) : ma_sum ψ 12 = ma_sum φ 12 := by
  have h0 : ψ 0 = φ 11 := h 0 (by decide)
  have h1 : ψ 1 = φ 10 := h 1 (by decide)
  have h2 : ψ 2 = φ 9 := h 2 (by decide)
  have h3 : ψ 3 = φ 8 := h 3 (by decide)
  have h4 : ψ 4 = φ 7 := h 4 (by decide)
  have h5 : ψ 5 = φ 6 := h 5 (by decide)
  have h6 : ψ 6 = φ 5 := h 6 (by decide)
  have h7 : ψ 7 = φ 4 := h 7 (by decide)
  have h8 : ψ 8 = φ 3 := h 8 (by decide)
  have h9 : ψ 9 = φ 2 := h 9 (by decide)
  have h10 : ψ 10 = φ 1 := h 10 (by decide)
  have h11 : ψ 11 = φ 0 := h 11 (by decide)
  show 0 + ψ 0 + ψ 1 + ψ 2 + ψ 3 + ψ 4 + ψ 5 + ψ 6 + ψ 7 + ψ 8 + ψ 9 + ψ 10 + ψ 11 = 0 + φ 0 + φ 1 + φ 2 + φ 3 + φ 4 + φ 5 + φ 6 + φ 7 + φ 8 + φ 9 + φ 10 + φ 11
  omega
theorem ma_gn_sum (B : Nat → Nat) (L : Nat → Nat → Bool) : ∀ n, ma_gn B L n = ma_sum (fun k => ma_tn 8 (ma_sd L 0 k - B k) (fun r => L r k)) n
  | 0 => rfl
  | n + 1 => by rw [ma_gn, ma_sum, ma_gn_sum B L n]
theorem ma_all_sum (L : Nat → Nat → Bool) : ∀ n, ma_all L n = ma_sum (fun k => ma_sd L 0 k) n
  | 0 => rfl
  | n + 1 => by rw [ma_all, ma_sum, ma_all_sum L n]
theorem ma_ct_sum (p : Nat → Bool) : ∀ n, ma_ct p n = ma_sum (fun k => (p k).toNat) n
  | 0 => rfl
  | n + 1 => by rw [ma_ct, ma_sum, ma_ct_sum p n]
theorem mx_gn {B E : Nat → Nat} (h : mX L M) (hB : ∀ k, k < 12 → E k = B (11 - k)) : ma_gn E M 12 = ma_gn B L 12 := by
  rw [ma_gn_sum, ma_gn_sum]
  exact mx_sum (fun k hk => by rw [mx_col h hk, mx_sd h hk, hB k hk])
theorem mx_all (h : mX L M) : ma_all M 12 = ma_all L 12 := by
  rw [ma_all_sum, ma_all_sum]
  exact mx_sum (fun k hk => mx_sd h hk)
theorem mx_any (h : mX L M) {c : Nat} (hc : c < 12) : ∀ n, ma_any M n c = ma_any L n (11 - c)
  | 0 => rfl
  | n + 1 => by rw [ma_any, ma_any, mx_any h hc n, h n c hc]
theorem mx_lit (h : mX L M) : ma_ct (ma_any M 8) 12 = ma_ct (ma_any L 8) 12 := by
  rw [ma_ct_sum, ma_ct_sum]
  exact mx_sum (fun k hk => by rw [mx_any h hk])
theorem mx_cutL (h : mX L M) {r c : Nat} (hc : c < 12) : mX (fun q k => if q = r ∧ k = c then false else L q k) (fun q k => if q = r ∧ k = 11 - c then false else M q k) := fun q k hk => by
  dsimp only
  by_cases e : q = r ∧ k = 11 - c
  · rw [if_pos e, if_pos ⟨e.1, by omega⟩]
  · rw [if_neg e, if_neg (fun z => e ⟨z.1, by omega⟩), h q k hk]
theorem mx_cutC (h : mX L M) {r c : Nat} (hc : c < 12) : mX (fun q k => if q = r ∧ k = c then true else L q k) (fun q k => if q = r ∧ k = 11 - c then true else M q k) := fun q k hk => by
  dsimp only
  by_cases e : q = r ∧ k = 11 - c
  · rw [if_pos e, if_pos ⟨e.1, by omega⟩]
  · rw [if_neg e, if_neg (fun z => e ⟨z.1, by omega⟩), h q k hk]
theorem mx_E {L' M' : Nat → Nat → Bool} (h : mX L M) (h' : mX L' M') : mE L L' ↔ mE M M' := by
  constructor
  · intro e r c hr hc
    rw [h r c hc, h' r c hc]
    exact e r (11 - c) hr (by omega)
  · intro e r c hr hc
    have e1 := e r (11 - c) hr (by omega)
    rw [h r (11 - c) (by omega), h' r (11 - c) (by omega), show 11 - (11 - c) = c by omega] at e1
    exact e1
theorem mx_C (h2 : mX C D) (n : Nat) : mX (mC_ C n) (mC_ D n) := by
  unfold mC_
  by_cases e : n = 0
  · rw [if_pos e, if_pos e]; exact h2
  · rw [if_neg e, if_neg e]; exact mx_0
theorem mx_S {B E : Nat → Nat} (h : mX L M) (h2 : mX C D) (hB : ∀ k, k < 12 → E k = B (11 - k)) : ∀ n, mX (mS s B L C n) (mS s E M D n)
  | 0 => h
  | n + 1 => mx_gr (mx_nx (mx_S h h2 hB n) (mx_C h2 n)) hB
theorem mx_Ex {B E : Nat → Nat} (h : mX L M) (h2 : mX C D) (hB : ∀ k, k < 12 → E k = B (11 - k)) (i : Nat) : mEx s B L C i ↔ mEx s E M D i := by
  constructor
  · intro z
    obtain ⟨k, a, b, d⟩ := z
    exact ⟨k, a, fun y => (mx_E h2 mx_0).mp (b y), (mx_E (mx_S h h2 hB k) (mx_S h h2 hB i)).mp d⟩
  · intro z
    obtain ⟨k, a, b, d⟩ := z
    exact ⟨k, a, fun y => (mx_E h2 mx_0).mpr (b y), (mx_E (mx_S h h2 hB k) (mx_S h h2 hB i)).mpr d⟩
theorem mx_rep {B E : Nat → Nat} (h : mX L M) (h2 : mX C D) (hB : ∀ k, k < 12 → E k = B (11 - k)) {r r' : Int32} (a : mRp (mEx s B L C) 60 0 r) (b : mRp (mEx s E M D) 60 0 r') : r = r' := mRp_same (fun i => mx_Ex h h2 hB i) 60 0 r r' a b
-- the best cut's row
theorem mx_bf {B E : Nat → Nat} (h : mX L M) (h2 : mX C D) (hB : ∀ k, k < 12 → E k = B (11 - k)) {r c : Nat} (hc : c < 12) : mbf s E M D r (11 - c) = mbf s B L C r c := mx_lit (mx_gr (mx_nx (mx_cutL h hc) (mx_cutC h2 hc)) hB)
theorem mx_bp {B E : Nat → Nat} (h : mX L M) (h2 : mX C D) (hB : ∀ k, k < 12 → E k = B (11 - k)) {r c : Nat} (hc : c < 12) : mbp s E M D (12 * r + (11 - c)) = mbp s B L C (12 * r + c) := by
  unfold mbp
  rw [show (12 * r + (11 - c)) / 12 = r by omega, show (12 * r + (11 - c)) % 12 = 11 - c by omega, show (12 * r + c) / 12 = r by omega, show (12 * r + c) % 12 = c by omega, h r (11 - c) (by omega), show 11 - (11 - c) = c by omega, mx_bf h h2 hB hc]
theorem mbF_is (ψ : Nat → Nat) : ∀ n i b M, M ≤ (mbF ψ n i b M).2 ∧ (∀ j, i ≤ j → j < i + n → ψ j ≤ (mbF ψ n i b M).2) ∧ (((mbF ψ n i b M).2 = M ∧ (mbF ψ n i b M).1 = b) ∨ (M < (mbF ψ n i b M).2 ∧ i ≤ (mbF ψ n i b M).1 ∧ (mbF ψ n i b M).1 < i + n ∧ ψ (mbF ψ n i b M).1 = (mbF ψ n i b M).2))
  | 0, i, b, M => ⟨Nat.le_refl M, fun j h1 h2 => by omega, Or.inl ⟨rfl, rfl⟩⟩
  | n + 1, i, b, M => by
    rw [mbF]
    by_cases e : M < ψ i
    · rw [if_pos e]
      obtain ⟨h1, h2, h3⟩ := mbF_is ψ n (i + 1) i (ψ i)
      refine ⟨by omega, fun j a d => ?_, Or.inr ⟨by omega, ?_⟩⟩
      · by_cases z : j = i
        · subst z; exact h1
        · exact h2 j (by omega) (by omega)
      · rcases h3 with ⟨a, d⟩ | ⟨a, d, g, k⟩
        · rw [d, a]; exact ⟨Nat.le_refl i, by omega, rfl⟩
        · exact ⟨by omega, by omega, k⟩
    · rw [if_neg e]
      obtain ⟨h1, h2, h3⟩ := mbF_is ψ n (i + 1) b M
      refine ⟨h1, fun j a d => ?_, ?_⟩
      · by_cases z : j = i
        · subst z; omega
        · exact h2 j (by omega) (by omega)
      · rcases h3 with ⟨a, d⟩ | ⟨a, d, g, k⟩
        · exact Or.inl ⟨a, d⟩
        · exact Or.inr ⟨a, by omega, by omega, k⟩
theorem mbF_add (ψ : Nat → Nat) (m : Nat) : ∀ n i b M, mbF ψ (n + m) i b M = mbF ψ m (i + n) (mbF ψ n i b M).1 (mbF ψ n i b M).2
  | 0, i, b, M => by rw [Nat.zero_add]; rfl
  | n + 1, i, b, M => by
    rw [show n + 1 + m = n + m + 1 by omega, mbF, mbF]
    by_cases e : M < ψ i
    · rw [if_pos e, if_pos e, mbF_add ψ m n (i + 1) i (ψ i), show i + 1 + n = i + (n + 1) by omega]
    · rw [if_neg e, if_neg e, mbF_add ψ m n (i + 1) b M, show i + 1 + n = i + (n + 1) by omega]
theorem mbF_row {ψ χ : Nat → Nat} (h : ∀ r c, c < 12 → χ (12 * r + (11 - c)) = ψ (12 * r + c)) : ∀ k, (mbF ψ (12 * k) 0 0 0).2 = (mbF χ (12 * k) 0 0 0).2 ∧ (mbF ψ (12 * k) 0 0 0).1 / 12 = (mbF χ (12 * k) 0 0 0).1 / 12
  | 0 => ⟨rfl, rfl⟩
  | k + 1 => by
    obtain ⟨i1, i2⟩ := mbF_row h k
    rw [show 12 * (k + 1) = 12 * k + 12 by omega, mbF_add, mbF_add, Nat.zero_add]
    revert i1 i2
    generalize (mbF ψ (12 * k) 0 0 0).1 = b
    generalize (mbF ψ (12 * k) 0 0 0).2 = M
    generalize (mbF χ (12 * k) 0 0 0).1 = b'
    generalize (mbF χ (12 * k) 0 0 0).2 = M'
    intro i1 i2
    subst i1
    obtain ⟨p1, p2, p3⟩ := mbF_is ψ 12 (12 * k) b M
    obtain ⟨q1, q2, q3⟩ := mbF_is χ 12 (12 * k) b' M
    revert p1 p2 p3 q1 q2 q3
    generalize (mbF ψ 12 (12 * k) b M).1 = x
    generalize (mbF ψ 12 (12 * k) b M).2 = X
    generalize (mbF χ 12 (12 * k) b' M).1 = y
    generalize (mbF χ 12 (12 * k) b' M).2 = Y
    intro p1 p2 p3 q1 q2 q3
    have le1 : X ≤ Y := by
      rcases p3 with ⟨a, d⟩ | ⟨a, d, g, z⟩
      · omega
      · have e := h k (x - 12 * k) (by omega)
        rw [show 12 * k + (x - 12 * k) = x by omega, z] at e
        rw [← e]
        exact q2 _ (by omega) (by omega)
    have le2 : Y ≤ X := by
      rcases q3 with ⟨a, d⟩ | ⟨a, d, g, z⟩
      · omega
      · have e := h k (11 - (y - 12 * k)) (by omega)
        rw [show 12 * k + (11 - (11 - (y - 12 * k))) = y by omega, z] at e
        rw [e]
        exact p2 _ (by omega) (by omega)
    refine ⟨by omega, ?_⟩
    rcases p3 with ⟨a, d⟩ | ⟨a, d, g, z⟩
    · rcases q3 with ⟨a', d'⟩ | ⟨a', d', g', z'⟩
      · rw [d, d']; exact i2
      · omega
    · rcases q3 with ⟨a', d'⟩ | ⟨a', d', g', z'⟩
      · omega
      · omega
theorem mx_best {B E : Nat → Nat} (h : mX L M) (h2 : mX C D) (hB : ∀ k, k < 12 → E k = B (11 - k)) : (mbF (mbp s B L C) 96 0 0 0).2 = (mbF (mbp s E M D) 96 0 0 0).2 ∧ (mbF (mbp s B L C) 96 0 0 0).1 / 12 = (mbF (mbp s E M D) 96 0 0 0).1 / 12 := mbF_row (fun r c hc => mx_bp h h2 hB hc) 8
theorem ma_all_0 (L : Nat → Nat → Bool) : ∀ n, ma_all L n = 0 ↔ ∀ c, c < n → ma_sd L 0 c = 0
  | 0 => ⟨fun _ c hc => absurd hc (Nat.not_lt_zero c), fun _ => rfl⟩
  | n + 1 => by
    have ih := ma_all_0 L n
    rw [ma_all]
    constructor
    · intro z c hc
      by_cases e : c = n
      · subst e; omega
      · exact ih.mp (by omega) c (by omega)
    · intro z
      rw [ih.mpr (fun c hc => z c (by omega)), z n (by omega)]
theorem mb_none (B : Nat → Nat) (L C : Nat → Nat → Bool) : (mbF (mbp s B L C) 96 0 0 0).2 = 0 ↔ ma_all L 12 = 0 := by
  obtain ⟨p1, p2, p3⟩ := mbF_is (mbp s B L C) 96 0 0 0
  rw [ma_all_0]
  constructor
  · intro z c hc
    unfold ma_sd
    rw [ma_u_zero]
    intro k _ hk
    have e := p2 (12 * k + c) (by omega) (by omega)
    rw [z] at e
    unfold mbp at e
    rw [show (12 * k + c) / 12 = k by omega, show (12 * k + c) % 12 = c by omega] at e
    cases hL : L k c with
    | false => rfl
    | true => rw [hL, if_pos rfl] at e; omega
  · intro z
    rcases p3 with ⟨a, d⟩ | ⟨a, d, g, y⟩
    · exact a
    · exfalso
      have hz := z ((mbF (mbp s B L C) 96 0 0 0).1 % 12) (by omega)
      unfold ma_sd at hz
      rw [ma_u_zero] at hz
      have hq := hz ((mbF (mbp s B L C) 96 0 0 0).1 / 12) (by omega) (by omega)
      revert a d g y hq
      generalize (mbF (mbp s B L C) 96 0 0 0).1 = b
      generalize (mbF (mbp s B L C) 96 0 0 0).2 = X
      intro a d g y hq
      unfold mbp at y
      rw [show L (b / 12) (b % 12) = false from hq, if_neg (by decide)] at y
      omega
theorem mb_leaf (B : Nat → Nat) (L C : Nat → Nat → Bool) (h : ¬ (mbF (mbp s B L C) 96 0 0 0).2 = 0) : (mbF (mbp s B L C) 96 0 0 0).1 < 96 ∧ L ((mbF (mbp s B L C) 96 0 0 0).1 / 12) ((mbF (mbp s B L C) 96 0 0 0).1 % 12) = true := by
  obtain ⟨p1, p2, p3⟩ := mbF_is (mbp s B L C) 96 0 0 0
  rcases p3 with ⟨a, d⟩ | ⟨a, d, g, y⟩
  · exact absurd a h
  · refine ⟨by omega, ?_⟩
    revert a y g d
    generalize (mbF (mbp s B L C) 96 0 0 0).1 = b
    generalize (mbF (mbp s B L C) 96 0 0 0).2 = X
    intro a d g y
    unfold mbp at y
    cases hL : L (b / 12) (b % 12) with
    | true => rfl
    | false => rw [hL, if_neg (by decide)] at y; omega
end MXW
-- no column has more leaves than its trellis bears
theorem ma_t_ge : ∀ (n k : Nat) (p : Nat → Bool) (r : Nat), n ≤ r → ma_t n k p r = p r
  | 0, _, _, _, _ => rfl
  | n + 1, k, p, r, h => by
    rw [ma_t]
    by_cases e : k = 0
    · rw [if_pos e]
    · rw [if_neg e]
      cases hp : p n with
      | true => rw [if_pos rfl, ma_t_ge n (k - 1) _ r (by omega), if_neg (by omega)]
      | false => rw [if_neg (by decide), ma_t_ge n k p r (by omega)]
theorem ma_t_ct : ∀ (n k : Nat) (p : Nat → Bool), ma_ct (ma_t n k p) n = ma_ct p n - k
  | 0, k, p => by rw [ma_ct, ma_ct, Nat.zero_sub]
  | n + 1, k, p => by
    rw [ma_t]
    by_cases e : k = 0
    · rw [if_pos e, e, Nat.sub_zero]
    · rw [if_neg e]
      cases hp : p n with
      | true =>
        have e1 : ma_ct (fun r => if r = n then false else p r) n = ma_ct p n := ma_ct_cong (fun j hj => if_neg (by omega))
        rw [if_pos rfl, ma_ct, ma_t_ct n (k - 1), ma_t_ge n (k - 1) _ n (Nat.le_refl n), if_pos rfl, e1, ma_ct, hp]
        show ma_ct p n - (k - 1) + 0 = ma_ct p n + 1 - k
        omega
      | false =>
        rw [if_neg (by decide), ma_ct, ma_t_ct n k p, ma_t_ge n k p n (Nat.le_refl n), ma_ct, hp]
        rfl
theorem ma_u_ct (p : Nat → Bool) : ∀ n i, ma_u p n i + ma_ct p i = ma_ct p (i + n)
  | 0, i => by rw [ma_u, Nat.zero_add]; rfl
  | n + 1, i => by
    have ih := ma_u_ct p n (i + 1)
    rw [ma_ct] at ih
    rw [ma_u, show i + (n + 1) = i + 1 + n by omega, ← ih]
    omega
theorem ma_sd_ct (L : Nat → Nat → Bool) (c : Nat) : ma_sd L 0 c = ma_ct (fun q => L q c) 8 := by
  have h := ma_u_ct (fun q => L q c) 8 0
  rw [Nat.zero_add] at h
  exact h
theorem ma_bears (B : Nat → Nat) (L : Nat → Nat → Bool) {c : Nat} (hc : c < 12) : ma_sd (ma_gr B L 12) 0 c ≤ B c := by
  have e : (fun q => ma_gr B L 12 q c) = ma_t 8 (ma_sd L 0 c - B c) (fun r => L r c) := by
    funext q
    unfold ma_gr
    rw [if_pos hc]
  rw [ma_sd_ct, e, ma_t_ct, ← ma_sd_ct]
  omega
theorem ma_sd_s (L : Nat → Nat → Bool) {w : Nat} (hw : w < 8) (c : Nat) : ma_sd L w c = (L w c).toNat + ma_sd L (w + 1) c := by
  unfold ma_sd
  rw [show 8 - w = 8 - (w + 1) + 1 by omega, ma_u]
theorem ma_ho_ne (s : Int32) (L : Nat → Nat → Bool) (r c : Nat) : ma_ho s L r c ≤ ma_ne s L r c := by
  unfold ma_ho ma_ne
  omega
theorem ma_ho_le (s : Int32) (L : Nat → Nat → Bool) (r c : Nat) : ma_ho s L r c ≤ 3 := ma_3_le _ _
theorem ma_gn_le (B : Nat → Nat) (L : Nat → Nat → Bool) : ∀ n, ma_gn B L n ≤ 8 * n
  | 0 => Nat.le_refl 0
  | n + 1 => by
    have h1 := ma_gn_le B L n
    have h2 : ∀ (m k : Nat) (p : Nat → Bool), ma_tn m k p ≤ m := by
      intro m
      induction m with
      | zero => intro k p; exact Nat.le_refl 0
      | succ m ih =>
        intro k p
        rw [ma_tn]
        by_cases e : k = 0
        · rw [if_pos e]; omega
        · rw [if_neg e]
          cases p m with
          | true => rw [if_pos rfl]; have := ih (k - 1) (fun r => if r = m then false else p r); omega
          | false => rw [if_neg (by decide)]; have := ih k p; omega
    have h3 := h2 8 (ma_sd L 0 n - B n) (fun r => L r n)
    rw [ma_gn]
    omega
