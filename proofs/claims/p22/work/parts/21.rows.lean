/-! The wall's rows as leaves and cuts. -/
theorem gv_e1 {α β : Type} (a : α) (k : α → β) : gv_b a k = k a := rfl
theorem gv_e2 {α γ β : Type} (a : α) (b : γ) (k : α → γ → β) : gv_b2 (a, b) k = k a b := rfl
theorem gv_e3 {α γ δ β : Type} (a : α) (b : γ) (c : δ) (k : α → γ → δ → β) : gv_b3 (a, b, c) k = k a b c := rfl
def ma_u (p : Nat → Bool) : Nat → Nat → Nat
  | 0, _ => 0
  | n + 1, i => (p i).toNat + ma_u p n (i + 1)
theorem ma_u_le (p : Nat → Bool) : ∀ n i, ma_u p n i ≤ n
  | 0, _ => Nat.le_refl 0
  | n + 1, i => by
    have h1 := ma_le1 (p i)
    have h2 := ma_u_le p n (i + 1)
    rw [ma_u]
    omega
theorem ma_u_cong {p q : Nat → Bool} : ∀ {n i : Nat}, (∀ k, i ≤ k → k < i + n → p k = q k) → ma_u p n i = ma_u q n i
  | 0, _, _ => rfl
  | n + 1, i, h => by rw [ma_u, ma_u, h i (by omega) (by omega), ma_u_cong (n := n) (fun k h1 h2 => h k (by omega) (by omega))]
def mF (f : Nat → Int32) (L : Nat → Nat → Bool) : Prop := ∀ r, r < 8 → f r = nI (ma_b (L r) 12)
def ma_x (L : Nat → Nat → Bool) (R : Nat) : Nat → Bool := fun c => decide (1 ≤ R ∧ R ≤ 8) && L (R - 1) c
def ma_s (s : Int32) (p : Nat → Bool) (k : Nat) : Bool := if 1 ≤ k ∧ k ≤ 12 then p (k - 1) else if s = 1 then (if k = 0 then p 11 else p 0) else if s = 2 then (if k = 0 then p 0 else p 11) else false
def ma_r (leaf cut : Bool) (ho ne sh : Nat) : Bool := if ho = 0 then false else if cut then false else if leaf then decide (ne ≤ 5 ∧ sh ≤ 4) else decide (ho ≤ 2 ∧ ne ≤ 3 ∧ sh ≤ 2)
def ma_ho (s : Int32) (L : Nat → Nat → Bool) (r c : Nat) : Nat := ma_3 (ma_s s (ma_x L r)) c
def ma_ne (s : Int32) (L : Nat → Nat → Bool) (r c : Nat) : Nat := ma_3 (ma_s s (ma_x L r)) c + ((ma_s s (ma_x L (r + 1)) c).toNat + (ma_s s (ma_x L (r + 1)) (c + 2)).toNat) + ma_3 (ma_s s (ma_x L (r + 2))) c
def ma_sd (L : Nat → Nat → Bool) (w c : Nat) : Nat := ma_u (fun q => L q c) (8 - w) w
def ma_nx (s : Int32) (L C : Nat → Nat → Bool) (r c : Nat) : Bool := if r = 0 then L 0 c else ma_r (L r c) (C r c) (ma_ho s L r c) (ma_ne s L r c) (ma_sd L (r + 1) c)
theorem ma_3_le (q : Nat → Bool) (c : Nat) : ma_3 q c ≤ 3 := by
  have h0 := ma_le1 (q c)
  have h1 := ma_le1 (q (c + 1))
  have h2 := ma_le1 (q (c + 2))
  unfold ma_3
  omega
theorem ma_ne_le (s : Int32) (L : Nat → Nat → Bool) (r c : Nat) : ma_ne s L r c ≤ 8 := by
  have h0 := ma_3_le (ma_s s (ma_x L r)) c
  have h1 := ma_3_le (ma_s s (ma_x L (r + 2))) c
  have h2 := ma_le1 (ma_s s (ma_x L (r + 1)) c)
  have h3 := ma_le1 (ma_s s (ma_x L (r + 1)) (c + 2))
  unfold ma_ne
  omega
theorem ma_x_s {L : Nat → Nat → Bool} {r : Nat} (h : r < 8) (c : Nat) : ma_x L (r + 1) c = L r c := by
  unfold ma_x
  rw [decide_eq_true (show 1 ≤ r + 1 ∧ r + 1 ≤ 8 by omega), Bool.true_and]
  rfl
theorem ma_x_o {L : Nat → Nat → Bool} {R : Nat} (h : ¬ (1 ≤ R ∧ R ≤ 8)) (c : Nat) : ma_x L R c = false := by
  unfold ma_x
  rw [decide_eq_false h, Bool.false_and]
theorem ma_b0 : ma_b (fun _ => false) 12 = 0 := by decide
theorem nI_m1 : (nI 0 - 1 : Int32) < 0 := by decide
theorem mc_leafRow {f h : Nat → Int32} {L : Nat → Nat → Bool} (hf : mF f L) {R : Nat} (hR : R ≤ 9) : spX0_leafRow f h (nI R - 1) = nI (ma_b (ma_x L R) 12) := by
  unfold spX0_leafRow
  cases R with
  | zero =>
    rw [if_pos nI_m1, ma_cong (q := fun _ => false) (fun k _ => ma_x_o (by omega) k), ma_b0]
    rfl
  | succ r =>
    rw [nI_pred, if_neg (nI_pos (by omega))]
    by_cases hr : r < 8
    · rw [if_neg (show ¬ (8 : Int32) ≤ nI r from nI_ge (b := 8) hr (by decide)), nI_clamp (by omega), hf r hr, ma_cong (fun k _ => (ma_x_s hr k).symm)]
    · obtain rfl : r = 8 := by omega
      rw [if_pos (show (8 : Int32) ≤ nI 8 from nI_le (a := 8) (Nat.le_refl 8) (by decide)), ma_cong (q := fun _ => false) (fun k _ => ma_x_o (by omega) k), ma_b0]
      rfl
theorem mc_leafRow' {f h : Nat → Int32} {L : Nat → Nat → Bool} (hf : mF f L) {r : Nat} (hr : r < 8) : spX0_leafRow f h (nI r) = nI (ma_b (L r) 12) := by
  have h1 := mc_leafRow (h := h) hf (R := r + 1) (by omega)
  rw [nI_pred] at h1
  rw [h1, ma_cong (fun k _ => ma_x_s hr k)]
-- a row as it is seen
theorem mt_b (b : Bool) (k : Nat) : b.toNat.testBit k = (decide (k = 0) && b) := by
  rw [Nat.testBit_eq_decide_div_mod_eq]
  cases b with
  | false => simp
  | true =>
    cases k with
    | zero => simp
    | succ k =>
      have h1 : 1 / 2 ^ (k + 1) = 0 := Nat.div_eq_of_lt (Nat.lt_of_lt_of_le (by decide : 1 < 2 ^ 1) (Nat.pow_le_pow_right (by decide) (by omega)))
      have h2 : decide (1 / 2 ^ (k + 1) % 2 = 1) = false := decide_eq_false (by rw [h1]; decide)
      show decide (1 / 2 ^ (k + 1) % 2 = 1) = _
      rw [h2]
      rfl
theorem mt_h (b : Bool) (k : Nat) : (b.toNat * 2 ^ 13).testBit k = (decide (k = 13) && b) := by
  cases b with
  | false => simp
  | true =>
    show (1 * 2 ^ 13).testBit k = _
    rw [Nat.one_mul, Nat.testBit_two_pow]
    by_cases h : k = 13
    · subst h; rfl
    · rw [decide_eq_false h, decide_eq_false (fun e => h e.symm)]; rfl
theorem mt_d (n k : Nat) : (n * 2).testBit k = (decide (0 < k) && n.testBit (k - 1)) := by
  cases k with
  | zero =>
    rw [Nat.testBit_eq_decide_div_mod_eq]
    have h1 : ¬ (n * 2 / 2 ^ 0 % 2 = 1) := by
      show ¬ (n * 2 / 1 % 2 = 1)
      rw [Nat.div_one]
      omega
    rw [decide_eq_false h1]
    rfl
  | succ k =>
    rw [Nat.testBit_succ, show n * 2 / 2 = n by omega, decide_eq_true (Nat.succ_pos k), Bool.true_and]
    rfl
theorem ms_1 (q : Nat → Bool) : ma_b q 12 * 2 ||| ((q 11).toNat ||| (q 0).toNat * 2 ^ 13) = ma_b (ma_s 1 q) 14 := by
  have hn : ma_b q 12 < 2 ^ 12 := ma_lt q 12
  have h11 := ma_le1 (q 11)
  have h0 := ma_le1 (q 0)
  refine ma_ext ?_ (fun k hk => ?_)
  · exact Nat.or_lt_two_pow (by omega) (Nat.or_lt_two_pow (by omega) (by omega))
  · rw [Nat.testBit_or, Nat.testBit_or, mt_d, mt_b, mt_h, ma_tb]
    unfold ma_s
    by_cases a : k = 0
    · subst a; simp
    · by_cases b : k = 13
      · subst b; simp
      · have h1 : 1 ≤ k ∧ k ≤ 12 := by omega
        have h2 : k - 1 < 12 := by omega
        have h3 : 0 < k := by omega
        simp [a, b, h1, h2, h3]
theorem ms_2 (q : Nat → Bool) : ma_b q 12 * 2 ||| ((q 0).toNat ||| (q 11).toNat * 2 ^ 13) = ma_b (ma_s 2 q) 14 := by
  have hn : ma_b q 12 < 2 ^ 12 := ma_lt q 12
  have h11 := ma_le1 (q 11)
  have h0 := ma_le1 (q 0)
  refine ma_ext ?_ (fun k hk => ?_)
  · exact Nat.or_lt_two_pow (by omega) (Nat.or_lt_two_pow (by omega) (by omega))
  · rw [Nat.testBit_or, Nat.testBit_or, mt_d, mt_b, mt_h, ma_tb]
    unfold ma_s
    have e21 : ¬ (2 : Int32) = 1 := by decide
    by_cases a : k = 0
    · subst a; simp [e21]
    · by_cases b : k = 13
      · subst b; simp [e21]
      · have h1 : 1 ≤ k ∧ k ≤ 12 := by omega
        have h2 : k - 1 < 12 := by omega
        have h3 : 0 < k := by omega
        simp [a, b, h1, h2, h3]
theorem ms_0 (q : Nat → Bool) {s : Int32} (hs1 : ¬ s = 1) (hs2 : ¬ s = 2) : ma_b q 12 * 2 = ma_b (ma_s s q) 14 := by
  have hn : ma_b q 12 < 2 ^ 12 := ma_lt q 12
  refine ma_ext (by omega) (fun k hk => ?_)
  rw [mt_d, ma_tb]
  unfold ma_s
  by_cases a : k = 0
  · subst a; simp [hs1, hs2]
  · by_cases b : k = 13
    · subst b; simp [hs1, hs2]
    · have h1 : 1 ≤ k ∧ k ≤ 12 := by omega
      have h2 : k - 1 < 12 := by omega
      have h3 : 0 < k := by omega
      simp [h1, h2, h3]
theorem mc_seen {f h : Nat → Int32} {L : Nat → Nat → Bool} (hf : mF f L) {R : Nat} (hR : R ≤ 9) (s : Int32) : spX0_leafRowAsSeen f h (nI R - 1) s = nI (ma_b (ma_s s (ma_x L R)) 14) := by
  unfold spX0_leafRowAsSeen gv_b
  rw [mc_leafRow hf hR]
  generalize ma_x L R = q
  have hn : ma_b q 12 < 2 ^ 12 := ma_lt q 12
  have h11 := ma_le1 (q 11)
  have h0 := ma_le1 (q 0)
  have e1 : nI (ma_b q 12) <<< ((1 : Int32) &&& 31) = nI (ma_b q 12 * 2) := mi_shl (c := 1) (by decide) (by omega)
  have e2 : nI (ma_b q 12) &&& 1 = nI (q 0).toNat := by rw [mi_and1 (by omega), ma_mod2 _ (by decide)]
  have e3 : (nI (ma_b q 12) >>> ((11 : Int32) &&& 31)) &&& 1 = nI (q 11).toNat := by
    have e : nI (ma_b q 12) >>> ((11 : Int32) &&& 31) = nI (ma_b q 12 / 2 ^ 11) := mi_shr (c := 11) (by omega) (by decide)
    rw [e, ma_div q (by decide), mi_and1 (Nat.lt_trans (ma_lt _ _) (by decide)), ma_mod2 _ (by decide)]
  have e4 : ∀ b : Bool, nI b.toNat <<< ((13 : Int32) &&& 31) = nI (b.toNat * 2 ^ 13) := fun b => by
    have := ma_le1 b
    exact mi_shl (c := 13) (by decide) (by omega)
  dsimp only
  rw [e1, e2, e3, e4, e4]
  by_cases h1 : s = 1
  · subst h1
    rw [if_pos rfl, mi_or, mi_or, ms_1]
  · rw [if_neg h1]
    by_cases h2 : s = 2
    · subst h2
      rw [if_pos rfl, mi_or, mi_or, ms_2]
    · rw [if_neg h2, ms_0 q h1 h2]
-- single cells
theorem mc_bit {p : Nat → Bool} {c : Nat} (hc : c < 12) : (nI (ma_b p 12) >>> (nI c &&& 31)) &&& 1 = nI (p c).toNat := by
  have hn : ma_b p 12 < 2 ^ 12 := ma_lt p 12
  rw [mi_shr (by omega) (by omega), ma_div p (by omega), mi_and1 (Nat.lt_of_lt_of_le (ma_lt _ _) (Nat.pow_le_pow_right (by decide) (by omega))), ma_mod2 _ (by omega)]
  rfl
theorem mc_leafAt {f h : Nat → Int32} {L : Nat → Nat → Bool} (hf : mF f L) {r c : Nat} (hr : r < 8) (hc : c < 12) : spX0_hasLeafAt f h (nI r) (nI c) = if L r c = true then 1 else 0 := by
  unfold spX0_hasLeafAt gv_b
  dsimp only
  rw [mc_leafRow' hf hr, mc_bit hc]
  cases L r c <;> rfl
theorem mc_cutAt {f h : Nat → Int32} {C : Nat → Nat → Bool} (hh : mF h C) {r c : Nat} (hr : r < 8) (hc : c < 12) : spX0_hasCutAt f h (nI r) (nI c) = if C r c = true then 1 else 0 := by
  unfold spX0_hasCutAt
  rw [if_neg (nI_pos (by omega)), if_neg (show ¬ (8 : Int32) ≤ nI r from nI_ge (b := 8) hr (by decide)), nI_clamp (by omega), hh r hr, mc_bit hc]
  cases C r c <;> rfl
theorem mc_shade_l {f h : Nat → Int32} {L : Nat → Nat → Bool} (hf : mF f L) {c : Nat} (hc : c < 12) : ∀ (n i a : Nat), i + n = 8 → lpX0_shadeAt_7 (nI c) f h n i (nI a) = nI (a + ma_u (fun q => L q c) n i)
  | 0, _, _, _ => rfl
  | n + 1, i, a, hi => by
    rw [lpX0_shadeAt_7_s]
    unfold gv_b
    dsimp only
    rw [mc_leafRow' hf (by omega), mc_bit hc, nI_add, mc_shade_l hf hc n (i + 1) _ (by omega), ma_u, Nat.add_assoc]
theorem mc_shade {f h : Nat → Int32} {L : Nat → Nat → Bool} (hf : mF f L) {w c : Nat} (hw : w ≤ 8) (hc : c < 12) : spX0_shadeAt f h w (nI c) = nI (ma_sd L w c) := by
  have h1 := mc_shade_l (h := h) hf hc (8 - w) w 0 (by omega)
  rw [Nat.zero_add] at h1
  exact h1
theorem mc_col {f h : Nat → Int32} {L : Nat → Nat → Bool} (hf : mF f L) {c : Nat} (hc : c < 12) : spX0_countInColumn f h (nI c) = nI (ma_sd L 0 c) := by
  rw [spX0_countInColumn_e, gv_e1]
  exact mc_shade hf (Nat.zero_le 8) hc
theorem nI_lit {n : Nat} {x : Int32} (hx : x = nI n) (a : Nat) (hn : n < 2 ^ 31) (ha : a < 2 ^ 31) : (x < nI a) = (n < a) := by
  subst hx
  exact propext (nI_ltI hn ha)
theorem mc_bears {f h : Nat → Int32} {L C : Nat → Nat → Bool} (hf : mF f L) (hh : mF h C) {r c ho ne : Nat} (hr : r < 8) (hc : c < 12) (h1 : ho < 2 ^ 31) (h2 : ne < 2 ^ 31) : spX0_bearsLeafNext f h r (nI c) (nI ho) (nI ne) = if ma_r (L r c) (C r c) ho ne (ma_sd L (r + 1) c) = true then 1 else 0 := by
  have h3 : ma_sd L (r + 1) c < 2 ^ 31 := Nat.lt_of_le_of_lt (ma_u_le _ _ _) (by omega)
  unfold spX0_bearsLeafNext gv_b ma_r
  dsimp only
  rw [mc_cutAt hh hr hc, mc_shade hf (by omega) hc, mc_leafAt hf hr hc]
  have k0 : (nI ho = 0) = (ho = 0) := propext (nI_eq (b := 0) h1 (by decide))
  have k2 : ((2 : Int32) < nI ho) = (2 < ho) := propext (nI_ltI (a := 2) (by decide) h1)
  have k3 : ((3 : Int32) < nI ne) = (3 < ne) := propext (nI_ltI (a := 3) (by decide) h2)
  have k5 : ((5 : Int32) < nI ne) = (5 < ne) := propext (nI_ltI (a := 5) (by decide) h2)
  have s2 : ((2 : Int32) < nI (ma_sd L (r + 1) c)) = (2 < ma_sd L (r + 1) c) := propext (nI_ltI (a := 2) (by decide) h3)
  have s4 : ((4 : Int32) < nI (ma_sd L (r + 1) c)) = (4 < ma_sd L (r + 1) c) := propext (nI_ltI (a := 4) (by decide) h3)
  simp only [k0, k2, k3, k5, s2, s4]
  generalize ma_sd L (r + 1) c = sd
  by_cases a0 : ho = 0
  · simp [a0]
  · rw [if_neg a0, if_neg a0]
    cases C r c with
    | true => rfl
    | false =>
      rw [if_neg (by decide : ¬ (false = true)), if_pos rfl]
      cases L r c with
      | true =>
        rw [if_pos rfl, if_neg (by decide : ¬ (1 : Int32) = 0)]
        by_cases a : 5 < ne
        · rw [if_pos a, if_neg (by simp; omega)]
        · rw [if_neg a]
          by_cases b : 4 < sd
          · rw [if_pos b, if_neg (by simp; omega)]
          · rw [if_neg b, if_pos (by simp; omega)]
      | false =>
        rw [if_neg (by decide : ¬ (false = true)), if_pos rfl]
        by_cases a : 2 < ho
        · rw [if_pos a, if_neg (by simp; omega)]
        · rw [if_neg a]
          by_cases b : 3 < ne
          · rw [if_pos b, if_neg (by simp; omega)]
          · rw [if_neg b]
            by_cases d : 2 < sd
            · rw [if_pos d, if_neg (by simp; omega)]
            · rw [if_neg d, if_pos (by simp; omega)]
theorem ma_or_bit {a i : Nat} (h : a < 2 ^ i) : a ||| 2 ^ i = a + 2 ^ i := by
  have h1 := Nat.two_pow_add_eq_or_of_lt h 1
  rw [Nat.mul_one] at h1
  rw [Nat.or_comm, ← h1, Nat.add_comm]
theorem mc_next_l {f h : Nat → Int32} {L C : Nat → Nat → Bool} (hf : mF f L) (hh : mF h C) (s : Int32) {r : Nat} (hr : r < 8) (h0 : ¬ r = 0) : ∀ (n i : Nat), i + n = 12 → lpX0_leafRowNext_43 r (nI (ma_b (ma_s s (ma_x L r)) 14)) (nI (ma_b (ma_s s (ma_x L (r + 1))) 14)) (nI (ma_b (ma_s s (ma_x L (r + 2))) 14)) f h n i (nI (ma_b (ma_nx s L C r) i)) = nI (ma_b (ma_nx s L C r) 12)
  | 0, i, hi => by
    obtain rfl : i = 12 := by omega
    rfl
  | n + 1, i, hi => by
    have hl : ma_b (ma_nx s L C r) i < 2 ^ i := ma_lt _ i
    have hl2 : 2 ^ i ≤ 2 ^ 12 := Nat.pow_le_pow_right (by decide) (by omega)
    have h3 := ma_3_le (ma_s s (ma_x L r)) i
    have h8 := ma_ne_le s L r i
    have ih := mc_next_l hf hh s hr h0 n (i + 1) (by omega)
    rw [lpX0_leafRowNext_43_s]
    unfold gv_b
    dsimp only
    rw [mb_holders (by omega), mb_neigh (by omega)]
    have hb := mc_bears hf hh hr (c := i) (by omega) (ho := ma_3 (ma_s s (ma_x L r)) i) (ne := ma_ne s L r i) (by omega) (by omega)
    have hb2 : spX0_bearsLeafNext f h r (nI i) (nI (ma_3 (ma_s s (ma_x L r)) i)) (nI (ma_3 (ma_s s (ma_x L r)) i + ((ma_s s (ma_x L (r + 1)) i).toNat + (ma_s s (ma_x L (r + 1)) (i + 2)).toNat) + ma_3 (ma_s s (ma_x L (r + 2))) i)) = if ma_nx s L C r i = true then 1 else 0 := by
      have e : ma_nx s L C r i = ma_r (L r i) (C r i) (ma_3 (ma_s s (ma_x L r)) i) (ma_ne s L r i) (ma_sd L (r + 1) i) := by
        unfold ma_nx
        rw [if_neg h0]
        rfl
      rw [e]
      exact hb
    rw [hb2]
    have e1 : (1 : Int32) <<< (nI i &&& 31) = nI (2 ^ i) := by
      have := mi_shl (n := 1) (c := i) (by omega) (by omega)
      rw [Nat.one_mul] at this
      exact this
    cases hq : ma_nx s L C r i with
    | true =>
      rw [if_pos rfl, if_neg (by decide : ¬ (1 : Int32) = 0), e1, mi_or, ma_or_bit hl]
      have es : ma_b (ma_nx s L C r) (i + 1) = ma_b (ma_nx s L C r) i + 2 ^ i := by
        rw [ma_b, hq]
        show _ + 1 * 2 ^ i = _
        rw [Nat.one_mul]
      rw [es] at ih
      exact ih
    | false =>
      rw [if_neg (by decide : ¬ (false = true)), if_pos rfl]
      have es : ma_b (ma_nx s L C r) (i + 1) = ma_b (ma_nx s L C r) i := by
        rw [ma_b, hq]
        show _ + 0 * 2 ^ i = _
        rw [Nat.zero_mul, Nat.add_zero]
      rw [es] at ih
      exact ih
theorem mc_next {f h : Nat → Int32} {L C : Nat → Nat → Bool} (hf : mF f L) (hh : mF h C) (s : Int32) {r : Nat} (hr : r < 8) : spX0_leafRowNext f h r s = nI (ma_b (ma_nx s L C r) 12) := by
  rw [spX0_leafRowNext_e]
  by_cases h0 : r = 0
  · subst h0
    rw [if_pos (show nI 0 = 0 from rfl)]
    rw [gv_e1, show spX0_leafRow f h 0 = nI (ma_b (L 0) 12) from mc_leafRow' hf hr]
    exact congrArg nI (ma_cong (fun k _ => by unfold ma_nx; rw [if_pos rfl]))
  · have k0 : ¬ nI r = 0 := nI_ne0 (by omega) (by omega)
    have e1 : nI r = nI (r + 1) - 1 := (nI_pred r).symm
    have e2 : nI r + 1 = nI (r + 2) - 1 := by rw [nI_pred, nI_1]
    rw [if_neg k0]
    rw [gv_e1, gv_e1, gv_e1]
    rw [e2, mc_seen hf (R := r + 2) (by omega) s, mc_seen hf (R := r) (by omega) s]
    rw [show spX0_leafRowAsSeen f h (nI r) s = nI (ma_b (ma_s s (ma_x L (r + 1))) 14) by rw [e1]; exact mc_seen hf (by omega) s]
    have hz := mc_next_l hf hh s hr h0 12 0 rfl
    have ez : nI (ma_b (ma_nx s L C r) 0) = 0 := rfl
    rw [ez] at hz
    exact hz
