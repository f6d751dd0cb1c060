/-! Counts, copies, and what is packed into longs. -/
def ma_w (φ : Nat → Nat) : Nat → Nat → Nat
  | 0, _ => 0
  | n + 1, i => φ i + ma_w φ n (i + 1)
theorem ma_w_add (φ ψ : Nat → Nat) : ∀ n i, ma_w (fun k => φ k + ψ k) n i = ma_w φ n i + ma_w ψ n i
  | 0, _ => rfl
  | n + 1, i => by
    rw [ma_w, ma_w, ma_w, ma_w_add φ ψ n (i + 1)]
    omega
theorem ma_w_0 : ∀ n i, ma_w (fun _ => 0) n i = 0
  | 0, _ => rfl
  | n + 1, i => by rw [ma_w, ma_w_0 n (i + 1)]
theorem ma_w_u (p : Nat → Bool) : ∀ n i, ma_w (fun k => (p k).toNat) n i = ma_u p n i
  | 0, _ => rfl
  | n + 1, i => by rw [ma_w, ma_u, ma_w_u p n (i + 1)]
def ma_all (L : Nat → Nat → Bool) : Nat → Nat
  | 0 => 0
  | n + 1 => ma_all L n + ma_sd L 0 n
theorem ma_all_rows (L : Nat → Nat → Bool) : ∀ n, ma_w (fun r => ma_ct (L r) n) 8 0 = ma_all L n
  | 0 => ma_w_0 8 0
  | n + 1 => by
    have h := ma_w_add (fun r => ma_ct (L r) n) (fun r => (L r n).toNat) 8 0
    have h2 := ma_w_u (fun r => L r n) 8 0
    rw [ma_all_rows L n, h2] at h
    exact h
theorem ma_all_cong {L M : Nat → Nat → Bool} : ∀ n, (∀ r k, k < n → L r k = M r k) → ma_all L n = ma_all M n
  | 0, _ => rfl
  | n + 1, h => by rw [ma_all, ma_all, ma_all_cong n (fun r k hk => h r k (by omega)), ma_sd_cong (fun q => h q n (by omega))]
theorem ma_all_le (L : Nat → Nat → Bool) : ∀ n, ma_all L n ≤ 8 * n
  | 0 => Nat.le_refl 0
  | n + 1 => by
    have h1 := ma_all_le L n
    have h2 := ma_sd_le L n
    rw [ma_all]
    omega
theorem mc_leaves_l {f h : Nat → Int32} {L : Nat → Nat → Bool} (hf : mF f L) : ∀ n i a, i + n = 8 → lpX0_countLeaves_4 f h n i (nI a) = nI (a + ma_w (fun r => ma_ct (L r) 12) n i)
  | 0, _, _, _ => rfl
  | n + 1, i, a, hi => by rw [lpX0_countLeaves_4_s, gv_e1, hf i (by omega), mb_row, nI_add, mc_leaves_l hf n (i + 1) _ (by omega), ma_w, Nat.add_assoc]
theorem mc_leaves {f h : Nat → Int32} {L : Nat → Nat → Bool} (hf : mF f L) : spX0_countLeaves f h = nI (ma_all L 12) := by
  have h1 := mc_leaves_l (h := h) hf 8 0 0 rfl
  rw [ma_all_rows, Nat.zero_add] at h1
  rw [spX0_countLeaves_e]
  exact h1
def ma_any (L : Nat → Nat → Bool) : Nat → Nat → Bool
  | 0, _ => false
  | n + 1, c => ma_any L n c || L n c
theorem ma_any_iff (L : Nat → Nat → Bool) (c : Nat) : ∀ n, ma_any L n c = false ↔ ∀ k, k < n → L k c = false
  | 0 => ⟨fun _ k hk => absurd hk (Nat.not_lt_zero k), fun _ => rfl⟩
  | n + 1 => by
    rw [ma_any, Bool.or_eq_false_iff, ma_any_iff L c n]
    constructor
    · intro h k hk
      by_cases e : k = n
      · subst e; exact h.2
      · exact h.1 k (by omega)
    · intro h
      exact ⟨fun k hk => h k (by omega), h n (by omega)⟩
theorem ma_u_zero (p : Nat → Bool) : ∀ n i, ma_u p n i = 0 ↔ ∀ k, i ≤ k → k < i + n → p k = false
  | 0, i => ⟨fun _ k h1 h2 => by omega, fun _ => rfl⟩
  | n + 1, i => by
    have ih := ma_u_zero p n (i + 1)
    rw [ma_u]
    constructor
    · intro h k h1 h2
      by_cases e : k = i
      · subst e
        cases hp : p k with
        | false => rfl
        | true => rw [hp] at h; exact absurd h (by show ¬ (1 + _ = 0); omega)
      · exact ih.mp (by omega) k (by omega) (by omega)
    · intro h
      rw [h i (Nat.le_refl i) (by omega), ih.mpr (fun k h1 h2 => h k (by omega) (by omega))]
      rfl
theorem ma_any_sd (L : Nat → Nat → Bool) (c : Nat) : (ma_sd L 0 c = 0) = (ma_any L 8 c = false) := by
  apply propext
  rw [ma_any_iff]
  unfold ma_sd
  rw [ma_u_zero]
  exact ⟨fun h k hk => h k (Nat.zero_le k) (by omega), fun h k _ hk => h k (by omega)⟩
theorem ma_orb (p q : Nat → Bool) : ma_b p 12 ||| ma_b q 12 = ma_b (fun c => p c || q c) 12 := by
  refine ma_ext (Nat.or_lt_two_pow (ma_lt p 12) (ma_lt q 12)) (fun k hk => ?_)
  rw [Nat.testBit_or, ma_tb, ma_tb]
  simp [hk]
theorem mc_lit_l {f h : Nat → Int32} {L : Nat → Nat → Bool} (hf : mF f L) : ∀ n i, i + n = 8 → lpX0_countLit_4 f h n i (nI (ma_b (ma_any L i) 12)) = nI (ma_ct (ma_any L 8) 12)
  | 0, i, hi => by
    obtain rfl : i = 8 := by omega
    rw [lpX0_countLit_4_0, gv_e1, mb_row]
  | n + 1, i, hi => by
    rw [lpX0_countLit_4_s, hf i (by omega), mi_or, ma_orb]
    exact mc_lit_l hf n (i + 1) (by omega)
theorem mc_lit {f h : Nat → Int32} {L : Nat → Nat → Bool} (hf : mF f L) : spX0_countLit f h = nI (ma_ct (ma_any L 8) 12) := by
  have h1 := mc_lit_l (h := h) hf 8 0 rfl
  rw [show ma_b (ma_any L 0) 12 = 0 from ma_b0] at h1
  rw [spX0_countLit_e]
  exact h1
theorem mc_cuts_l {f h : Nat → Int32} {C : Nat → Nat → Bool} (hh : mF h C) : ∀ n i, i + n = 8 → lpX0_hasCuts_4 f h n i (nI (ma_b (ma_any C i) 12)) = if nI (ma_b (ma_any C 8) 12) = 0 then 0 else 1
  | 0, i, hi => by
    obtain rfl : i = 8 := by omega
    rw [lpX0_hasCuts_4_0]
  | n + 1, i, hi => by
    rw [lpX0_hasCuts_4_s, hh i (by omega), mi_or, ma_orb]
    exact mc_cuts_l hh n (i + 1) (by omega)
theorem mc_cuts {f h : Nat → Int32} {C : Nat → Nat → Bool} (hh : mF h C) : (spX0_hasCuts f h = 0) = (∀ r c, r < 8 → c < 12 → C r c = false) := by
  have h1 := mc_cuts_l (f := f) hh 8 0 rfl
  rw [show ma_b (ma_any C 0) 12 = 0 from ma_b0] at h1
  rw [spX0_hasCuts_e, show lpX0_hasCuts_4 f h 8 0 0 = _ from h1]
  have hlt : ma_b (ma_any C 8) 12 < 2 ^ 12 := ma_lt _ _
  apply propext
  by_cases e : ma_b (ma_any C 8) 12 = 0
  · rw [e, if_pos (show nI 0 = (0 : Int32) from rfl)]
    refine ⟨fun _ r c hr hc => ?_, fun _ => rfl⟩
    have e2 : ma_b (ma_any C 8) 12 = ma_b (fun _ => false) 12 := by rw [e, ma_b0]
    exact (ma_any_iff C c 8).mp (ma_inj e2 c hc) r hr
  · rw [if_neg (nI_ne0 (by omega) (by omega))]
    refine ⟨fun h => absurd h (by decide), fun h => ?_⟩
    refine absurd ?_ e
    rw [ma_cong (q := fun _ => false) (fun c hc => (ma_any_iff C c 8).mpr (fun r hr => h r c hr hc)), ma_b0]
theorem mc_copy_l {f1 g1 : Nat → Int32} : ∀ (n i : Nat) (f h : Nat → Int32), i + n = 8 → (∀ r, r < i → f r = f1 r ∧ h r = g1 r) → ∃ f' h', lpX0_copyFrom_2 f1 g1 n i f h = (f', h') ∧ ∀ r, r < 8 → f' r = f1 r ∧ h' r = g1 r
  | 0, i, f, h, hi, hr => ⟨f, h, rfl, fun r hr8 => hr r (by omega)⟩
  | n + 1, i, f, h, hi, hr => by
    rw [lpX0_copyFrom_2_s]
    refine mc_copy_l n (i + 1) _ _ (by omega) (fun r hri => ?_)
    unfold upd
    by_cases e : r = i
    · subst e; rw [if_pos rfl, if_pos rfl]; exact ⟨rfl, rfl⟩
    · rw [if_neg e, if_neg e]; exact hr r (by omega)
theorem mc_copy {f h f1 g1 : Nat → Int32} {L C : Nat → Nat → Bool} (hf1 : mF f1 L) (hg1 : mF g1 C) : ∃ f' h', spX0_copyFrom f h f1 g1 = (f', h') ∧ mF f' L ∧ mF h' C := by
  obtain ⟨f', h', h1, h2⟩ := mc_copy_l (f1 := f1) (g1 := g1) 8 0 f h rfl (fun r hr => absurd hr (Nat.not_lt_zero r))
  refine ⟨f', h', ?_, fun r hr => by rw [(h2 r hr).1]; exact hf1 r hr, fun r hr => by rw [(h2 r hr).2]; exact hg1 r hr⟩
  rw [spX0_copyFrom_e]
  exact h1
theorem mF_0 {f : Nat → Int32} (h : ∀ r, r < 8 → f r = 0) : mF f ma_C0 := fun r hr => by
  rw [h r hr]
  show 0 = nI (ma_b (fun _ => false) 12)
  rw [ma_b0]
  rfl
-- longs
theorem ml_or (a b : Nat) : lN a ||| lN b = lN (a ||| b) := by
  apply Int64.toBitVec_inj.1
  show BitVec.ofNat 64 a ||| BitVec.ofNat 64 b = BitVec.ofNat 64 (a ||| b)
  apply BitVec.eq_of_getLsbD_eq
  intro i hi
  simp [hi]
theorem ml_shl {a : Nat} (ha : a < 2 ^ 48) : lN a <<< ((12 : Int32).toInt64 &&& 63) = lN (a * 4096) := by
  have hy : ((12 : Int32).toInt64 &&& 63).toBitVec.smod 64 = BitVec.ofNat 64 12 := by decide
  apply Int64.toBitVec_inj.mp
  rw [Int64.toBitVec_shiftLeft, hy]
  apply BitVec.eq_of_toNat_eq
  have hb : (lN a).toBitVec.toNat = a := Nat.mod_eq_of_lt (by omega)
  have hk : (BitVec.ofNat 64 12).toNat = 12 := by decide
  have h : ((lN a).toBitVec <<< BitVec.ofNat 64 12).toNat = (a * 2 ^ 12) % 2 ^ 64 := by simp only [BitVec.shiftLeft_eq', BitVec.toNat_shiftLeft, hb, hk, Nat.shiftLeft_eq]
  exact h
def ma_pk (L : Nat → Nat → Bool) : Nat → Nat → Nat → Nat
  | 0, _, a => a
  | n + 1, i, a => ma_pk L n (i + 1) (a * 4096 + ma_b (L i) 12)
theorem mc_half_l {f h : Nat → Int32} {L : Nat → Nat → Bool} (hf : mF f L) (w : Nat) : ∀ (n i a : Nat), i + n ≤ 8 → n ≤ 4 → a < 2 ^ (12 * (4 - n)) → lpX0_leavesOfHalf_5 w f h n i (lN a) = lN (ma_pk L n i a)
  | 0, _, _, _, _, _ => rfl
  | n + 1, i, a, hi, hn, ha => by
    have hb : ma_b (L i) 12 < 2 ^ 12 := ma_lt _ _
    have h36 : 2 ^ (12 * (4 - (n + 1))) ≤ 2 ^ 36 := Nat.pow_le_pow_right (by decide) (by omega)
    have hp : 2 ^ (12 * (4 - n)) = 2 ^ (12 * (4 - (n + 1))) * 4096 := by
      rw [show 12 * (4 - n) = 12 * (4 - (n + 1)) + 12 by omega, Nat.pow_add]
    have hor : a * 4096 ||| ma_b (L i) 12 = a * 4096 + ma_b (L i) 12 := by
      have h1 := Nat.two_pow_add_eq_or_of_lt hb a
      rw [Nat.mul_comm] at h1
      exact h1.symm
    rw [lpX0_leavesOfHalf_5_s, gv_e1, mc_leafRow' hf (by omega), nI_l (by omega), ml_shl (by omega), ml_or, hor]
    exact mc_half_l hf w n (i + 1) _ (by omega) (by omega) (by rw [hp]; omega)
theorem mc_half {f h : Nat → Int32} {L : Nat → Nat → Bool} (hf : mF f L) {w : Nat} (hw : w ≤ 4) : spX0_leavesOfHalf f h w = lN (ma_pk L 4 w 0) := by
  rw [spX0_leavesOfHalf_e]
  exact mc_half_l hf w 4 w 0 (by omega) (Nat.le_refl 4) (by decide)
theorem ma_pk_inj {L M : Nat → Nat → Bool} {w : Nat} : (lN (ma_pk L 4 w 0) = lN (ma_pk M 4 w 0)) ↔ ∀ r, w ≤ r → r < w + 4 → ∀ c, c < 12 → L r c = M r c := by
  have a0 := ma_lt (L w) 12
  have a1 := ma_lt (L (w + 1)) 12
  have a2 := ma_lt (L (w + 2)) 12
  have a3 := ma_lt (L (w + 3)) 12
  have b0 := ma_lt (M w) 12
  have b1 := ma_lt (M (w + 1)) 12
  have b2 := ma_lt (M (w + 2)) 12
  have b3 := ma_lt (M (w + 3)) 12
  have eL : ma_pk L 4 w 0 = (((0 * 4096 + ma_b (L w) 12) * 4096 + ma_b (L (w + 1)) 12) * 4096 + ma_b (L (w + 2)) 12) * 4096 + ma_b (L (w + 3)) 12 := rfl
  have eM : ma_pk M 4 w 0 = (((0 * 4096 + ma_b (M w) 12) * 4096 + ma_b (M (w + 1)) 12) * 4096 + ma_b (M (w + 2)) 12) * 4096 + ma_b (M (w + 3)) 12 := rfl
  rw [pk_lEQ (by rw [eL]; omega) (by rw [eM]; omega), eL, eM]
  constructor
  · intro h r h1 h2 c hc
    have c0 : ma_b (L w) 12 = ma_b (M w) 12 := by omega
    have c1 : ma_b (L (w + 1)) 12 = ma_b (M (w + 1)) 12 := by omega
    have c2 : ma_b (L (w + 2)) 12 = ma_b (M (w + 2)) 12 := by omega
    have c3 : ma_b (L (w + 3)) 12 = ma_b (M (w + 3)) 12 := by omega
    rcases (show r = w ∨ r = w + 1 ∨ r = w + 2 ∨ r = w + 3 by omega) with e | e | e | e <;> subst e
    · exact ma_inj c0 c hc
    · exact ma_inj c1 c hc
    · exact ma_inj c2 c hc
    · exact ma_inj c3 c hc
  · intro h
    rw [ma_cong (h w (by omega) (by omega)), ma_cong (h (w + 1) (by omega) (by omega)), ma_cong (h (w + 2) (by omega) (by omega)), ma_cong (h (w + 3) (by omega) (by omega))]
