/-! Numbers as rows of bits. -/
def ma_b (p : Nat → Bool) : Nat → Nat
  | 0 => 0
  | n + 1 => ma_b p n + (p n).toNat * 2 ^ n
theorem ma_le1 (b : Bool) : b.toNat ≤ 1 := by cases b <;> decide
theorem ma_lt (p : Nat → Bool) : ∀ n, ma_b p n < 2 ^ n
  | 0 => by show 0 < 1; decide
  | n + 1 => by
    have h := ma_lt p n
    have h2 := ma_le1 (p n)
    have h3 : (p n).toNat * 2 ^ n ≤ 1 * 2 ^ n := Nat.mul_le_mul_right _ h2
    rw [ma_b, Nat.pow_succ]
    omega
theorem ma_cong {p q : Nat → Bool} : ∀ {n : Nat}, (∀ k, k < n → p k = q k) → ma_b p n = ma_b q n
  | 0, _ => rfl
  | n + 1, h => by rw [ma_b, ma_b, ma_cong (fun k hk => h k (by omega)), h n (by omega)]
theorem ma_split (p : Nat → Bool) (c : Nat) : ∀ k, ma_b p (c + k) = ma_b p c + 2 ^ c * ma_b (fun j => p (c + j)) k
  | 0 => by rw [ma_b]; rfl
  | k + 1 => by
    have e : (p (c + k)).toNat * 2 ^ (c + k) = 2 ^ c * ((p (c + k)).toNat * 2 ^ k) := by rw [Nat.pow_add, Nat.mul_left_comm]
    show ma_b p (c + k) + (p (c + k)).toNat * 2 ^ (c + k) = ma_b p c + 2 ^ c * (ma_b (fun j => p (c + j)) k + (p (c + k)).toNat * 2 ^ k)
    rw [e, ma_split p c k, Nat.mul_add]
    omega
theorem ma_div (p : Nat → Bool) {c n : Nat} (h : c ≤ n) : ma_b p n / 2 ^ c = ma_b (fun j => p (c + j)) (n - c) := by
  obtain ⟨k, rfl⟩ : ∃ k, n = c + k := ⟨n - c, by omega⟩
  rw [ma_split, Nat.add_mul_div_left _ _ (Nat.two_pow_pos c), Nat.div_eq_of_lt (ma_lt p c), Nat.zero_add, Nat.add_sub_cancel_left]
theorem ma_mod2 (p : Nat → Bool) {n : Nat} (h : 0 < n) : ma_b p n % 2 = (p 0).toNat := by
  obtain ⟨k, rfl⟩ : ∃ k, n = 1 + k := ⟨n - 1, by omega⟩
  rw [ma_split]
  have h1 := ma_le1 (p 0)
  show (0 + (p 0).toNat * 1 + 2 * _) % 2 = _
  omega
theorem ma_mod8 (p : Nat → Bool) {n : Nat} (h : 3 ≤ n) : ma_b p n % 8 = (p 0).toNat + 2 * (p 1).toNat + 4 * (p 2).toNat := by
  obtain ⟨k, rfl⟩ : ∃ k, n = 3 + k := ⟨n - 3, by omega⟩
  rw [ma_split]
  have h0 := ma_le1 (p 0)
  have h1 := ma_le1 (p 1)
  have h2 := ma_le1 (p 2)
  show (0 + (p 0).toNat * 1 + (p 1).toNat * 2 + (p 2).toNat * 4 + 8 * _) % 8 = _
  omega
theorem ma_tb (p : Nat → Bool) (n k : Nat) : (ma_b p n).testBit k = (decide (k < n) && p k) := by
  rw [Nat.testBit_eq_decide_div_mod_eq]
  by_cases h : k < n
  · rw [ma_div p (Nat.le_of_lt h), ma_mod2 _ (by omega)]
    show decide ((p k).toNat = 1) = _
    cases hp : p k <;> simp [h]
  · have h1 : ma_b p n < 2 ^ k := Nat.lt_of_lt_of_le (ma_lt p n) (Nat.pow_le_pow_right (by decide) (by omega))
    rw [Nat.div_eq_of_lt h1]
    simp [h]
theorem ma_ext {x : Nat} {p : Nat → Bool} {n : Nat} (hx : x < 2 ^ n) (h : ∀ k, k < n → x.testBit k = p k) : x = ma_b p n := by
  apply Nat.eq_of_testBit_eq
  intro i
  rw [ma_tb]
  by_cases hi : i < n
  · rw [h i hi]; simp [hi]
  · have h1 : x < 2 ^ i := Nat.lt_of_lt_of_le hx (Nat.pow_le_pow_right (by decide) (by omega))
    rw [Nat.testBit_lt_two_pow h1]
    simp [hi]
theorem ma_inj {p q : Nat → Bool} {n : Nat} (h : ma_b p n = ma_b q n) : ∀ k, k < n → p k = q k := by
  intro k hk
  have h1 := ma_tb p n k
  have h2 := ma_tb q n k
  rw [h, h2] at h1
  simpa [hk] using h1.symm
-- ints
theorem mi_and (a b : Nat) : nI a &&& nI b = nI (a &&& b) := by
  apply Int32.toBitVec_inj.1
  show BitVec.ofNat 32 a &&& BitVec.ofNat 32 b = BitVec.ofNat 32 (a &&& b)
  apply BitVec.eq_of_getLsbD_eq
  intro i hi
  simp [hi]
theorem mi_or (a b : Nat) : nI a ||| nI b = nI (a ||| b) := by
  apply Int32.toBitVec_inj.1
  show BitVec.ofNat 32 a ||| BitVec.ofNat 32 b = BitVec.ofNat 32 (a ||| b)
  apply BitVec.eq_of_getLsbD_eq
  intro i hi
  simp [hi]
theorem mi_nand (a b d : Nat) (h : ∀ i, i < 32 → d.testBit i = (a.testBit i && !b.testBit i)) : nI a &&& (nI b ^^^ (-1)) = nI d := by
  have e0 : (-1 : Int32).toBitVec = BitVec.allOnes 32 := by decide
  apply Int32.toBitVec_inj.1
  rw [Int32.toBitVec_and, Int32.toBitVec_xor, e0]
  show BitVec.ofNat 32 a &&& (BitVec.ofNat 32 b ^^^ BitVec.allOnes 32) = BitVec.ofNat 32 d
  apply BitVec.eq_of_getLsbD_eq
  intro i hi
  rw [BitVec.getLsbD_and, BitVec.getLsbD_xor, BitVec.getLsbD_allOnes, BitVec.getLsbD_ofNat, BitVec.getLsbD_ofNat, BitVec.getLsbD_ofNat, h i hi]
  cases a.testBit i <;> cases b.testBit i <;> simp [hi]
theorem mi_sh : ∀ c, c < 32 → ((nI c &&& 31).toBitVec.smod 32).toNat = c := by decide +kernel
theorem mi_shr {n c : Nat} (hn : n < 2 ^ 31) (hc : c < 32) : nI n >>> (nI c &&& 31) = nI (n / 2 ^ c) := pk_shrN hn _ c (mi_sh c hc)
theorem mi_shl {n c : Nat} (hc : c < 32) (h : n * 2 ^ c < 2 ^ 32) : nI n <<< (nI c &&& 31) = nI (n * 2 ^ c) := pk_shlN _ c (mi_sh c hc) h
theorem mi_and1 {n : Nat} (h : n < 2 ^ 32) : nI n &&& 1 = nI (n % 2) := pk_andN h 1 (by decide)
theorem mi_and7 {n : Nat} (h : n < 2 ^ 32) : nI n &&& 7 = nI (n % 8) := pk_andN h 3 (by decide)
theorem mi_and5 {n : Nat} (h : n < 2 ^ 32) : nI n &&& 5 = nI (n % 8) &&& 5 := by
  rw [← mi_and7 h]
  apply Int32.toBitVec_inj.1
  rw [Int32.toBitVec_and, Int32.toBitVec_and, Int32.toBitVec_and]
  apply BitVec.eq_of_getLsbD_eq
  intro i hi
  rw [BitVec.getLsbD_and, BitVec.getLsbD_and, BitVec.getLsbD_and]
  have hb : ∀ i, i < 32 → (5 : Int32).toBitVec.getLsbD i = ((7 : Int32).toBitVec.getLsbD i && (5 : Int32).toBitVec.getLsbD i) := by decide +kernel
  have h1 := hb i hi
  revert h1
  cases (nI n).toBitVec.getLsbD i <;> cases (7 : Int32).toBitVec.getLsbD i <;> cases (5 : Int32).toBitVec.getLsbD i <;> decide
-- how many bits
def ma_pop (m : Nat) : Nat → Nat
  | 0 => 0
  | n + 1 => ma_pop m n + m / 2 ^ n % 2
def ma_ct (p : Nat → Bool) : Nat → Nat
  | 0 => 0
  | n + 1 => ma_ct p n + (p n).toNat
theorem ma_ct_cong {p q : Nat → Bool} : ∀ {n : Nat}, (∀ k, k < n → p k = q k) → ma_ct p n = ma_ct q n
  | 0, _ => rfl
  | n + 1, h => by rw [ma_ct, ma_ct, ma_ct_cong (fun k hk => h k (by omega)), h n (by omega)]
theorem ma_pop_b (p : Nat → Bool) (n : Nat) : ∀ k, k ≤ n → ma_pop (ma_b p n) k = ma_ct p k
  | 0, _ => rfl
  | k + 1, h => by rw [ma_pop, ma_ct, ma_pop_b p n k (by omega), ma_div p (by omega), ma_mod2 _ (by omega)]; rfl
theorem mb_8 : ∀ m, m < 8 → spJ6_bitCount_0f7a4 (nI m) = nI (m % 2 + m / 2 % 2 + m / 4 % 2) := by decide +kernel
theorem mb_85 : ∀ m, m < 8 → spJ6_bitCount_0f7a4 (nI m &&& 5) = nI (m % 2 + m / 4 % 2) := by decide +kernel
theorem mb_12a : ∀ a, a < 64 → ∀ b, b < 64 → spJ6_bitCount_0f7a4 (nI (64 * a + b)) = nI (ma_pop (64 * a + b) 12) := by decide +kernel
theorem mb_12 (m : Nat) (h : m < 4096) : spJ6_bitCount_0f7a4 (nI m) = nI (ma_pop m 12) := by
  have h1 := mb_12a (m / 64) (by omega) (m % 64) (by omega)
  rw [Nat.div_add_mod] at h1
  exact h1
theorem mb_row (p : Nat → Bool) : spJ6_bitCount_0f7a4 (nI (ma_b p 12)) = nI (ma_ct p 12) := by
  rw [mb_12 _ (ma_lt p 12), ma_pop_b p 12 12 (Nat.le_refl _)]
def ma_3 (q : Nat → Bool) (c : Nat) : Nat := (q c).toNat + (q (c + 1)).toNat + (q (c + 2)).toNat
theorem mb_h {q : Nat → Bool} {c : Nat} (hc : c < 12) : spJ6_bitCount_0f7a4 ((nI (ma_b q 14) >>> (nI c &&& 31)) &&& 7) = nI (ma_3 q c) := by
  have h1 : ma_b q 14 < 2 ^ 14 := ma_lt q 14
  have h2 : ma_b q 14 / 2 ^ c ≤ ma_b q 14 := Nat.div_le_self _ _
  rw [mi_shr (by omega) (by omega), mi_and7 (by omega), ma_div q (by omega), ma_mod8 _ (by omega)]
  show spJ6_bitCount_0f7a4 (nI ((q c).toNat + 2 * (q (c + 1)).toNat + 4 * (q (c + 2)).toNat)) = nI ((q c).toNat + (q (c + 1)).toNat + (q (c + 2)).toNat)
  cases q c <;> cases q (c + 1) <;> cases q (c + 2) <;> exact mb_8 _ (by decide)
theorem mb_n {q : Nat → Bool} {c : Nat} (hc : c < 12) : spJ6_bitCount_0f7a4 ((nI (ma_b q 14) >>> (nI c &&& 31)) &&& 5) = nI ((q c).toNat + (q (c + 2)).toNat) := by
  have h1 : ma_b q 14 < 2 ^ 14 := ma_lt q 14
  have h2 : ma_b q 14 / 2 ^ c ≤ ma_b q 14 := Nat.div_le_self _ _
  rw [mi_shr (by omega) (by omega), mi_and5 (by omega), ma_div q (by omega), ma_mod8 _ (by omega)]
  show spJ6_bitCount_0f7a4 (nI ((q c).toNat + 2 * (q (c + 1)).toNat + 4 * (q (c + 2)).toNat) &&& 5) = nI ((q c).toNat + (q (c + 2)).toNat)
  cases q c <;> cases q (c + 1) <;> cases q (c + 2) <;> exact mb_85 _ (by decide)
theorem mb_holders {q : Nat → Bool} {c : Nat} (hc : c < 12) : spX0_countHolders (nI (ma_b q 14) >>> (nI c &&& 31)) = nI (ma_3 q c) := mb_h hc
theorem mb_neigh {qa qb qd : Nat → Bool} {c : Nat} (hc : c < 12) : spX0_countNeighbours (nI (ma_b qa 14) >>> (nI c &&& 31)) (nI (ma_b qb 14) >>> (nI c &&& 31)) (nI (ma_b qd 14) >>> (nI c &&& 31)) = nI (ma_3 qa c + ((qb c).toNat + (qb (c + 2)).toNat) + ma_3 qd c) := by
  show spJ6_bitCount_0f7a4 _ + spJ6_bitCount_0f7a4 _ + spJ6_bitCount_0f7a4 _ = _
  rw [mb_h hc, mb_n hc, mb_h hc, nI_add, nI_add]
