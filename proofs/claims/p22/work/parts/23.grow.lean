/-! What comes behind a generation: what grows, and what breaks. -/
def ma_t : Nat → Nat → (Nat → Bool) → Nat → Bool
  | 0, _, p => p
  | n + 1, k, p => if k = 0 then p else if p n then ma_t n (k - 1) (fun r => if r = n then false else p r) else ma_t n k p
def ma_tn : Nat → Nat → (Nat → Bool) → Nat
  | 0, _, _ => 0
  | n + 1, k, p => if k = 0 then 0 else if p n then ma_tn n (k - 1) (fun r => if r = n then false else p r) + 1 else ma_tn n k p
def ma_set (L : Nat → Nat → Bool) (c : Nat) (p : Nat → Bool) : Nat → Nat → Bool := fun q k => if k = c then p q else L q k
def ma_gr (B : Nat → Nat) (L : Nat → Nat → Bool) (i : Nat) : Nat → Nat → Bool := fun q k => if k < i then ma_t 8 (ma_sd L 0 k - B k) (fun r => L r k) q else L q k
def ma_gn (B : Nat → Nat) (L : Nat → Nat → Bool) : Nat → Nat
  | 0 => 0
  | n + 1 => ma_gn B L n + ma_tn 8 (ma_sd L 0 n - B n) (fun r => L r n)
def mB (be : Nat → Int32) (B : Nat → Nat) : Prop := ∀ k, k < 12 → be k = nI (B k) ∧ B k ≤ 8
def ma_C0 : Nat → Nat → Bool := fun _ _ => false
theorem ma_set_self (L : Nat → Nat → Bool) (c : Nat) : ma_set L c (fun q => L q c) = L := by
  funext q k
  unfold ma_set
  by_cases h : k = c
  · subst h; rw [if_pos rfl]
  · rw [if_neg h]
theorem mF_eq {f : Nat → Int32} {L M : Nat → Nat → Bool} (h : mF f L) (e : L = M) : mF f M := e ▸ h
theorem mF_cong {f : Nat → Int32} {L M : Nat → Nat → Bool} (h : mF f L) (e : ∀ r k, r < 8 → k < 12 → L r k = M r k) : mF f M := fun r hr => by rw [h r hr, ma_cong (fun k hk => e r k hr hk)]
theorem mi_1shl {c : Nat} (hc : c < 12) : (1 : Int32) <<< (nI c &&& 31) = nI (2 ^ c) := by
  have h2 : 2 ^ c ≤ 2 ^ 12 := Nat.pow_le_pow_right (by decide) (by omega)
  have := mi_shl (n := 1) (c := c) (by omega) (by omega)
  rw [Nat.one_mul] at this
  exact this
theorem mc_take {f h : Nat → Int32} {L : Nat → Nat → Bool} (hf : mF f L) {r c : Nat} (hr : r < 8) (hc : c < 12) : mF (spX0_takeLeaf f h (nI r) (nI c)) (fun q k => if q = r ∧ k = c then false else L q k) := by
  rw [spX0_takeLeaf_e, gv_e1, mc_isCell hr hc, if_neg (by decide : ¬ (1 : Int32) = 0), nI_clamp (by omega), mi_1shl hc]
  intro q hq
  unfold upd
  by_cases e : q = r
  · subst e
    rw [if_pos rfl, hf q hq]
    refine mi_nand _ _ _ (fun i _ => ?_)
    rw [ma_tb, ma_tb, Nat.testBit_two_pow]
    by_cases e2 : i = c
    · subst e2; simp
    · have e3 : ¬ c = i := fun z => e2 z.symm
      simp [e2, e3]
  · rw [if_neg e, hf q hq]
    exact congrArg nI (ma_cong (fun k _ => (if_neg (fun z : q = r ∧ k = c => e z.1)).symm))
theorem mc_orbit {p : Nat → Bool} {c : Nat} (hc : c < 12) : ma_b p 12 ||| 2 ^ c = ma_b (fun k => if k = c then true else p k) 12 := by
  refine ma_ext (Nat.or_lt_two_pow (ma_lt p 12) (Nat.pow_lt_pow_right (by decide) hc)) (fun k hk => ?_)
  rw [Nat.testBit_or, ma_tb, Nat.testBit_two_pow]
  by_cases e2 : k = c
  · subst e2; simp
  · have e3 : ¬ c = k := fun z => e2 z.symm
    simp [e2, e3, hk]
theorem mc_or {f : Nat → Int32} {L : Nat → Nat → Bool} (hf : mF f L) {r c : Nat} (hr : r < 8) (hc : c < 12) : mF (upd f r (f r ||| ((1 : Int32) <<< (nI c &&& 31)))) (fun q k => if q = r ∧ k = c then true else L q k) := by
  intro q hq
  unfold upd
  by_cases e : q = r
  · subst e
    rw [if_pos rfl, hf q hq, mi_1shl hc, mi_or, mc_orbit hc]
    exact congrArg nI (ma_cong (fun k _ => by
      dsimp only
      by_cases e2 : k = c
      · rw [if_pos e2, if_pos ⟨rfl, e2⟩]
      · rw [if_neg e2, if_neg (fun z => e2 z.2)]))
  · rw [if_neg e, hf q hq]
    exact congrArg nI (ma_cong (fun k _ => (if_neg (fun z : q = r ∧ k = c => e z.1)).symm))
theorem mc_put {f h : Nat → Int32} {L : Nat → Nat → Bool} (hf : mF f L) {r c : Nat} (hr : r < 8) (hc : c < 12) : mF (spX0_putLeaf f h (nI r) (nI c)) (fun q k => if q = r ∧ k = c then true else L q k) := by
  rw [spX0_putLeaf_e, gv_e1, mc_isCell hr hc, if_neg (by decide : ¬ (1 : Int32) = 0), nI_clamp (by omega)]
  exact mc_or hf hr hc
theorem mc_cut {f h : Nat → Int32} {L C : Nat → Nat → Bool} (hf : mF f L) (hh : mF h C) {r c : Nat} (hr : r < 8) (hc : c < 12) : ∃ f' h', spX0_cutLeaf f h (nI r) (nI c) = (f', h') ∧ mF f' (fun q k => if q = r ∧ k = c then false else L q k) ∧ mF h' (fun q k => if q = r ∧ k = c then true else C q k) := by
  refine ⟨spX0_takeLeaf f h (nI r) (nI c), upd h r (h r ||| ((1 : Int32) <<< (nI c &&& 31))), ?_, mc_take hf hr hc, mc_or hh hr hc⟩
  rw [spX0_cutLeaf_e, gv_e1, gv_e1, mc_isCell hr hc, if_neg (by decide : ¬ (1 : Int32) = 0), nI_clamp (by omega)]
theorem mc_top_l {h : Nat → Int32} {c : Nat} (hc : c < 12) {x : Int32} {T : Nat} (hx : ∀ t, t ≤ T → (x ≤ nI t ↔ t = T)) : ∀ (n t : Nat) (f : Nat → Int32) (L : Nat → Nat → Bool), n ≤ 8 → t ≤ T → mF f L →
    ∃ f', lpX0_takeTopmost_6 (nI c) x h n (nI t) f = (nI (t + ma_tn n (T - t) (fun q => L q c)), f') ∧ mF f' (ma_set L c (ma_t n (T - t) (fun q => L q c)))
  | 0, t, f, L, _, _, hf => ⟨f, rfl, mF_eq hf (ma_set_self L c).symm⟩
  | n + 1, t, f, L, hn, ht, hf => by
    rw [lpX0_takeTopmost_6_s]
    by_cases e : t = T
    · refine ⟨f, ?_, ?_⟩
      · rw [if_pos ((hx t ht).mpr e), ma_tn, if_pos (by omega)]
        rfl
      · rw [ma_t, if_pos (by omega)]
        exact mF_eq hf (ma_set_self L c).symm
    · have hk0 : ¬ T - t = 0 := by omega
      rw [if_neg (fun z => e ((hx t ht).mp z)), gv_e1, mc_leafAt hf (by omega) hc, ma_tn, ma_t, if_neg hk0, if_neg hk0]
      have hff : ¬ (false = true) := by decide
      cases hL : L n c with
      | true =>
        rw [if_pos (rfl : true = true), if_pos (rfl : true = true), if_pos (rfl : true = true), if_neg (by decide : ¬ (1 : Int32) = 0), gv_e1, nI_1]
        obtain ⟨f', h1, h2⟩ := mc_top_l hc hx n (t + 1) _ _ (by omega) (by omega) (mc_take (h := h) hf (r := n) (by omega) hc)
        have ec : (fun q => if q = n ∧ c = c then false else L q c) = (fun r => if r = n then false else L r c) := by
          funext q
          by_cases z : q = n
          · rw [if_pos ⟨z, rfl⟩, if_pos z]
          · rw [if_neg (fun y => z y.1), if_neg z]
        rw [ec] at h1 h2
        refine ⟨f', ?_, mF_eq h2 ?_⟩
        · rw [h1, show T - (t + 1) = T - t - 1 by omega, Nat.add_right_comm, Nat.add_assoc]
        · rw [show T - (t + 1) = T - t - 1 by omega]
          funext q k
          unfold ma_set
          by_cases z : k = c
          · rw [if_pos z, if_pos z]
          · rw [if_neg z, if_neg z]
            exact if_neg (fun y : q = n ∧ k = c => z y.2)
      | false =>
        rw [if_neg hff, if_neg hff, if_neg hff, if_pos (rfl : (0 : Int32) = 0)]
        exact mc_top_l hc hx n t f L (by omega) ht hf
theorem mc_top {f h : Nat → Int32} {L : Nat → Nat → Bool} (hf : mF f L) {c a b : Nat} (hc : c < 12) (ha : a ≤ 8) (hb : b ≤ 8) : ∃ f', spX0_takeTopmost f h (nI c) (nI a - nI b) = (nI (ma_tn 8 (a - b) (fun q => L q c)), f') ∧ mF f' (ma_set L c (ma_t 8 (a - b) (fun q => L q c))) := by
  have hx : ∀ t, t ≤ a - b → (nI a - nI b ≤ nI t ↔ t = a - b) := by
    intro t ht
    rw [Int32.le_iff_toInt_le, pk_sub_toInt (by omega) (by omega), nI_toInt (by omega)]
    omega
  obtain ⟨f', h1, h2⟩ := mc_top_l (h := h) hc hx 8 0 f L (Nat.le_refl 8) (Nat.zero_le _) hf
  rw [Nat.zero_add, Nat.sub_zero] at h1
  rw [Nat.sub_zero] at h2
  refine ⟨f', ?_, h2⟩
  rw [spX0_takeTopmost_e]
  exact h1
theorem ma_sd_cong {L M : Nat → Nat → Bool} {w c : Nat} (h : ∀ q, L q c = M q c) : ma_sd L w c = ma_sd M w c := ma_u_cong (fun k _ _ => h k)
theorem ma_sd_le (L : Nat → Nat → Bool) (c : Nat) : ma_sd L 0 c ≤ 8 := ma_u_le _ _ _
theorem ma_gr_col {B : Nat → Nat} {L : Nat → Nat → Bool} {i : Nat} (q : Nat) : ma_gr B L i q i = L q i := by
  unfold ma_gr
  rw [if_neg (Nat.lt_irrefl i)]
theorem ma_gr_s {B : Nat → Nat} {L : Nat → Nat → Bool} {i : Nat} : ma_set (ma_gr B L i) i (ma_t 8 (ma_sd L 0 i - B i) (fun r => L r i)) = ma_gr B L (i + 1) := by
  funext q k
  unfold ma_set ma_gr
  by_cases e : k = i
  · subst e; rw [if_pos rfl, if_pos (by omega)]
  · rw [if_neg e]
    by_cases e2 : k < i
    · rw [if_pos e2, if_pos (by omega)]
    · rw [if_neg e2, if_neg (by omega)]
theorem ma_gr_0 (B : Nat → Nat) (L : Nat → Nat → Bool) : ma_gr B L 0 = L := by
  funext q k
  unfold ma_gr
  rw [if_neg (by omega)]
theorem mc_grow_44 {h f1 g1 be : Nat → Int32} {B : Nat → Nat} (hB : mB be B) (L : Nat → Nat → Bool) : ∀ (n i : Nat) (f : Nat → Int32), i + n = 12 → mF f (ma_gr B L i) → ∃ f', lpX0_becomeNextOf_44 h f1 g1 be n i (nI (ma_gn B L i)) f = (nI (ma_gn B L 12), f', h) ∧ mF f' (ma_gr B L 12)
  | 0, i, f, hi, hf => by
    obtain rfl : i = 12 := by omega
    exact ⟨f, rfl, hf⟩
  | n + 1, i, f, hi, hf => by
    obtain ⟨hb1, hb2⟩ := hB i (by omega)
    obtain ⟨f', h1, h2⟩ := mc_top (h := h) hf (c := i) (a := ma_sd L 0 i) (b := B i) (by omega) (ma_sd_le _ _) hb2
    have ec : (fun q => ma_gr B L i q i) = (fun r => L r i) := funext (fun q => ma_gr_col q)
    rw [ec] at h1 h2
    rw [ma_gr_s] at h2
    obtain ⟨f'', h3, h4⟩ := mc_grow_44 hB L n (i + 1) f' (by omega) h2
    refine ⟨f'', ?_, h4⟩
    rw [lpX0_becomeNextOf_44_s, gv_e1, mc_col hf (by omega), ma_sd_cong (M := L) (fun q => ma_gr_col q), hb1, h1, gv_e2, nI_add]
    exact h3
theorem mc_grow_3 {f1 g1 be : Nat → Int32} {B : Nat → Nat} {L C : Nat → Nat → Bool} (hB : mB be B) (hf1 : mF f1 L) (hg1 : mF g1 C) (s : Int32) : ∀ (n i : Nat) (f h : Nat → Int32), i + n = 8 → (∀ r, r < i → f r = nI (ma_b (ma_nx s L C r) 12) ∧ h r = 0) →
    ∃ f' h', lpX0_becomeNextOf_3 s f1 g1 be n i f h = (nI (ma_gn B (ma_nx s L C) 12), f', h') ∧ mF f' (ma_gr B (ma_nx s L C) 12) ∧ mF h' ma_C0
  | 0, i, f, h, hi, hr => by
    have hf : mF f (ma_gr B (ma_nx s L C) 0) := by
      rw [ma_gr_0]
      exact fun r hr8 => (hr r (by omega)).1
    obtain ⟨f', h1, h2⟩ := mc_grow_44 (h := h) (f1 := f1) (g1 := g1) hB (ma_nx s L C) 12 0 f rfl hf
    refine ⟨f', h, ?_, h2, fun r hr8 => ?_⟩
    · rw [lpX0_becomeNextOf_3_0]
      exact h1
    · rw [(hr r (by omega)).2]
      show 0 = nI (ma_b (fun _ => false) 12)
      rw [ma_b0]
      rfl
  | n + 1, i, f, h, hi, hr => by
    rw [lpX0_becomeNextOf_3_s, gv_e1, mc_next hf1 hg1 s (by omega)]
    refine mc_grow_3 hB hf1 hg1 s n (i + 1) _ _ (by omega) (fun r hri => ?_)
    unfold upd
    by_cases e : r = i
    · subst e; rw [if_pos rfl, if_pos rfl]; exact ⟨rfl, rfl⟩
    · rw [if_neg e, if_neg e]; exact hr r (by omega)
theorem mc_grow {f h f1 g1 be : Nat → Int32} {B : Nat → Nat} {L C : Nat → Nat → Bool} (hB : mB be B) (hf1 : mF f1 L) (hg1 : mF g1 C) (s : Int32) : ∃ f' h', spX0_becomeNextOf f h f1 g1 be s = (nI (ma_gn B (ma_nx s L C) 12), f', h') ∧ mF f' (ma_gr B (ma_nx s L C) 12) ∧ mF h' ma_C0 := by
  obtain ⟨f', h', h1, h2, h3⟩ := mc_grow_3 hB hf1 hg1 s 8 0 f h rfl (fun r hr => absurd hr (Nat.not_lt_zero r))
  refine ⟨f', h', ?_, h2, h3⟩
  rw [spX0_becomeNextOf_e]
  exact h1
