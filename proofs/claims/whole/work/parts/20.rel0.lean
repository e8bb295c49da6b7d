/-! the class's memory and the reference's, tied -/
def Ok (f : Nat → Int32) (lim : Int32) : Prop := ∃ (g : Nat → Nat) (L : Nat), (∀ k, k < 5 → f k = nI (g k)) ∧ lim = nI L ∧ g 0 + g 1 + g 2 + g 3 + g 4 ≤ L ∧ L ≤ 200
def Rel (σ μ : St) : Prop :=
  (∀ t, t < 8 → bz (σ 17 t) = bz (μ 1 t) ∧ bz (σ 18 t) = bz (μ 2 t) ∧ σ 19 t = μ 3 t) ∧
  (∀ t, t < 8 → ¬ bz (σ 17 t) = 0 → (∀ k, k < 5 → σ t k = μ 4 (5 * t + k)) ∧ Ok (σ t) (σ 19 t)) ∧
  (∀ k, k < 5 → σ 8 k = μ 4 (40 + k)) ∧
  (σ 20 0 = μ 0 1 ∧ σ 20 1 = μ 0 2 ∧ σ 20 2 = μ 0 3 ∧ σ 20 3 = μ 0 4)
theorem Ok.congr {f g : Nat → Int32} {l l' : Int32} (h : Ok f l) (hf : ∀ k, k < 5 → g k = f k) (hl : l' = l) : Ok g l' := by
  obtain ⟨p, L, h1, h2, h3⟩ := h
  exact ⟨p, L, fun k hk => (hf k hk).trans (h1 k hk), hl.trans h2, h3⟩
theorem lt5 {k : Nat} (h : k < 5) : k = 0 ∨ k = 1 ∨ k = 2 ∨ k = 3 ∨ k = 4 := by omega
/-! loops, place by place -/
theorem clrL_at {j q : Nat} : ∀ (n k : Nat) (σ : St), (clrL j n k σ) j q = if k ≤ q ∧ q < k + n then 0 else σ j q := by
  intro n
  induction n with
  | zero => intro k σ; rw [clrL, if_neg (by omega)]
  | succ n ih =>
    intro k σ
    rw [clrL, ih]
    by_cases hq : q = k
    · subst hq
      rw [if_neg (by omega), if_pos (by omega), up_same]
    · rw [up_at hq]
      by_cases h : k ≤ q ∧ q < k + (n + 1)
      · rw [if_pos (by omega), if_pos h]
      · rw [if_neg (by omega), if_neg h]
theorem becL_at {j i q : Nat} (hij : i ≠ j) : ∀ (n k : Nat) (σ : St), (becL j i n k σ) j q = if k ≤ q ∧ q < k + n then σ i q else σ j q := by
  intro n
  induction n with
  | zero => intro k σ; rw [becL, if_neg (by omega)]
  | succ n ih =>
    intro k σ
    rw [becL, ih, up_row hij]
    by_cases hq : q = k
    · subst hq
      rw [if_neg (by omega), if_pos (by omega), up_same]
    · rw [up_at hq]
      by_cases h : k ≤ q ∧ q < k + (n + 1)
      · rw [if_pos (by omega), if_pos h]
      · rw [if_neg (by omega), if_neg h]
theorem addL_at {j i q : Nat} (hij : i ≠ j) : ∀ (n k : Nat) (σ : St), (addL j i n k σ) j q = if k ≤ q ∧ q < k + n then σ j q + σ i q else σ j q := by
  intro n
  induction n with
  | zero => intro k σ; rw [addL, if_neg (by omega)]
  | succ n ih =>
    intro k σ
    rw [addL, ih, up_row hij]
    by_cases hq : q = k
    · subst hq
      rw [if_neg (by omega), if_pos (by omega), up_same]
    · rw [up_at hq]
      by_cases h : k ≤ q ∧ q < k + (n + 1)
      · rw [if_pos (by omega), if_pos h]
      · rw [if_neg (by omega), if_neg h]
theorem remL_at {j i q : Nat} (hij : i ≠ j) : ∀ (n k : Nat) (σ : St), (remL j i n k σ) j q = if k ≤ q ∧ q < k + n then σ j q - σ i q else σ j q := by
  intro n
  induction n with
  | zero => intro k σ; rw [remL, if_neg (by omega)]
  | succ n ih =>
    intro k σ
    rw [remL, ih, up_row hij]
    by_cases hq : q = k
    · subst hq
      rw [if_neg (by omega), if_pos (by omega), up_same]
    · rw [up_at hq]
      by_cases h : k ≤ q ∧ q < k + (n + 1)
      · rw [if_pos (by omega), if_pos h]
      · rw [if_neg (by omega), if_neg h]
theorem goL_row {fr to w r : Nat} (h : r ≠ 4) : ∀ (n k : Nat) (μ : St), goL fr to w n k μ r = μ r := by
  intro n
  induction n with
  | zero => intro k μ; rfl
  | succ n ih => intro k μ; rw [goL, ih, up_row h, up_row h]
theorem goL_fr {fr to w : Nat} (hft : fr ≠ to) (hw : w ≠ 4) : ∀ (n k : Nat) (μ : St), k + n ≤ 5 → ∀ q, q < 5 → (goL fr to w n k μ) 4 (5 * fr + q) = if k ≤ q ∧ q < k + n then μ 4 (5 * fr + q) - μ w q else μ 4 (5 * fr + q) := by
  intro n
  induction n with
  | zero => intro k μ hk q hq; rw [goL, if_neg (by omega)]
  | succ n ih =>
    intro k μ hk q hq
    rw [goL, ih (k + 1) _ (by omega) q hq, up_row hw, up_row hw]
    rw [up_at (show 5 * fr + q ≠ 5 * to + k by omega)]
    by_cases hqk : q = k
    · subst hqk
      rw [if_neg (by omega), if_pos (by omega), up_same]
    · rw [up_at (show 5 * fr + q ≠ 5 * fr + k by omega)]
      by_cases h : k ≤ q ∧ q < k + (n + 1)
      · rw [if_pos (by omega), if_pos h, up_row hw]
      · rw [if_neg (by omega), if_neg h]
theorem goL_to {fr to w : Nat} (hft : fr ≠ to) (hw : w ≠ 4) : ∀ (n k : Nat) (μ : St), k + n ≤ 5 → ∀ q, q < 5 → (goL fr to w n k μ) 4 (5 * to + q) = if k ≤ q ∧ q < k + n then μ 4 (5 * to + q) + μ w q else μ 4 (5 * to + q) := by
  intro n
  induction n with
  | zero => intro k μ hk q hq; rw [goL, if_neg (by omega)]
  | succ n ih =>
    intro k μ hk q hq
    rw [goL, ih (k + 1) _ (by omega) q hq, up_row hw, up_row hw]
    by_cases hqk : q = k
    · subst hqk
      rw [if_neg (by omega), if_pos (by omega), up_same, up_at (show 5 * to + q ≠ 5 * fr + q by omega)]
    · rw [up_at (show 5 * to + q ≠ 5 * to + k by omega), up_at (show 5 * to + q ≠ 5 * fr + k by omega)]
      by_cases h : k ≤ q ∧ q < k + (n + 1)
      · rw [if_pos (by omega), if_pos h, up_row hw]
      · rw [if_neg (by omega), if_neg h]
theorem goL_ot {fr to w i : Nat} (h1 : ∀ q, q < 5 → i ≠ 5 * fr + q) (h2 : ∀ q, q < 5 → i ≠ 5 * to + q) : ∀ (n k : Nat) (μ : St), k + n ≤ 5 → (goL fr to w n k μ) 4 i = μ 4 i := by
  intro n
  induction n with
  | zero => intro k μ hk; rfl
  | succ n ih =>
    intro k μ hk
    rw [goL, ih (k + 1) _ (by omega), up_at (h2 k (by omega)), up_at (h1 k (by omega))]
theorem empL_row {t r : Nat} (h : r ≠ 4) : ∀ (n k : Nat) (μ : St), empL t n k μ r = μ r := by
  intro n
  induction n with
  | zero => intro k μ; rfl
  | succ n ih => intro k μ; rw [empL, ih, up_row h]
theorem empL_at {t : Nat} : ∀ (n k : Nat) (μ : St), k + n ≤ 5 → ∀ q, q < 5 → (empL t n k μ) 4 (5 * t + q) = if k ≤ q ∧ q < k + n then 0 else μ 4 (5 * t + q) := by
  intro n
  induction n with
  | zero => intro k μ hk q hq; rw [empL, if_neg (by omega)]
  | succ n ih =>
    intro k μ hk q hq
    rw [empL, ih (k + 1) _ (by omega) q hq]
    by_cases hqk : q = k
    · subst hqk
      rw [if_neg (by omega), if_pos (by omega), up_same]
    · rw [up_at (show 5 * t + q ≠ 5 * t + k by omega)]
      by_cases h : k ≤ q ∧ q < k + (n + 1)
      · rw [if_pos (by omega), if_pos h]
      · rw [if_neg (by omega), if_neg h]
theorem empL_ot {t i : Nat} (h1 : ∀ q, q < 5 → i ≠ 5 * t + q) : ∀ (n k : Nat) (μ : St), k + n ≤ 5 → (empL t n k μ) 4 i = μ 4 i := by
  intro n
  induction n with
  | zero => intro k μ hk; rfl
  | succ n ih =>
    intro k μ hk
    rw [empL, ih (k + 1) _ (by omega), up_at (h1 k (by omega))]
theorem keepL_row {r at9 q : Nat} (h : q ≠ 6) : ∀ (n k : Nat) (μ : St), keepL r at9 n k μ q = μ q := by
  intro n
  induction n with
  | zero => intro k μ; rfl
  | succ n ih => intro k μ; rw [keepL, ih, up_row h]
theorem keepL_at {r at9 : Nat} : ∀ (n k : Nat) (μ : St), k + n ≤ 5 → ∀ q, q < 5 → (keepL r at9 n k μ) 6 (5 * at9 + q) = if k ≤ q ∧ q < k + n then μ 4 (5 * r + q) else μ 6 (5 * at9 + q) := by
  intro n
  induction n with
  | zero => intro k μ hk q hq; rw [keepL, if_neg (by omega)]
  | succ n ih =>
    intro k μ hk q hq
    rw [keepL, ih (k + 1) _ (by omega) q hq, up_row (show 4 ≠ 6 by decide)]
    by_cases hqk : q = k
    · subst hqk
      rw [if_neg (by omega), if_pos (by omega), up_same]
    · rw [up_at (show 5 * at9 + q ≠ 5 * at9 + k by omega)]
      by_cases h : k ≤ q ∧ q < k + (n + 1)
      · rw [if_pos (by omega), if_pos h]
      · rw [if_neg (by omega), if_neg h]
theorem keepL_ot {r at9 i : Nat} (h1 : ∀ q, q < 5 → i ≠ 5 * at9 + q) : ∀ (n k : Nat) (μ : St), k + n ≤ 5 → (keepL r at9 n k μ) 6 i = μ 6 i := by
  intro n
  induction n with
  | zero => intro k μ hk; rfl
  | succ n ih =>
    intro k μ hk
    rw [keepL, ih (k + 1) _ (by omega), up_at (h1 k (by omega))]
theorem backL_row {r at9 q : Nat} (h : q ≠ 4) : ∀ (n k : Nat) (μ : St), backL r at9 n k μ q = μ q := by
  intro n
  induction n with
  | zero => intro k μ; rfl
  | succ n ih => intro k μ; rw [backL, ih, up_row h]
theorem backL_at {r at9 : Nat} : ∀ (n k : Nat) (μ : St), k + n ≤ 5 → ∀ q, q < 5 → (backL r at9 n k μ) 4 (5 * r + q) = if k ≤ q ∧ q < k + n then μ 6 (5 * at9 + q) else μ 4 (5 * r + q) := by
  intro n
  induction n with
  | zero => intro k μ hk q hq; rw [backL, if_neg (by omega)]
  | succ n ih =>
    intro k μ hk q hq
    rw [backL, ih (k + 1) _ (by omega) q hq, up_row (show 6 ≠ 4 by decide)]
    by_cases hqk : q = k
    · subst hqk
      rw [if_neg (by omega), if_pos (by omega), up_same]
    · rw [up_at (show 5 * r + q ≠ 5 * r + k by omega)]
      by_cases h : k ≤ q ∧ q < k + (n + 1)
      · rw [if_pos (by omega), if_pos h]
      · rw [if_neg (by omega), if_neg h]
theorem backL_ot {r at9 i : Nat} (h1 : ∀ q, q < 5 → i ≠ 5 * r + q) : ∀ (n k : Nat) (μ : St), k + n ≤ 5 → (backL r at9 n k μ) 4 i = μ 4 i := by
  intro n
  induction n with
  | zero => intro k μ hk; rfl
  | succ n ih =>
    intro k μ hk
    rw [backL, ih (k + 1) _ (by omega), up_at (h1 k (by omega))]
/-! sums -/
theorem sumL_congr {f g : Nat → Int32} : ∀ (n k : Nat) (acc : Int32), (∀ q, k ≤ q → q < k + n → f q = g q) → sumL f n k acc = sumL g n k acc := by
  intro n
  induction n with
  | zero => intro k acc h; rfl
  | succ n ih => intro k acc h; rw [sumL, sumL, h k (Nat.le_refl _) (by omega), ih (k + 1) _ (fun q h1 h2 => h q (by omega) (by omega))]
theorem sum_nI {f : Nat → Int32} {g : Nat → Nat} (h : ∀ k, k < 5 → f k = nI (g k)) : sumL f 5 0 0 = nI (g 0 + g 1 + g 2 + g 3 + g 4) := by
  simp only [sumL, h 0 (by omega), h 1 (by omega), h 2 (by omega), h 3 (by omega), h 4 (by omega)]
  rw [show (0 : Int32) = nI 0 from rfl, nI_add, nI_add, nI_add, nI_add, nI_add, Nat.zero_add]
theorem worthOf_wof : ∀ k, k < 5 → f_X4_worthOf (nI k) = wof k := by decide +kernel
theorem wsum_eq {f g : Nat → Int32} (h : ∀ k, k < 5 → f k = g k) : wsumL f 5 0 0 = wsumM g 5 0 0 := by
  simp only [wsumL, wsumM, worthOf_wof 0 (by omega), worthOf_wof 1 (by omega), worthOf_wof 2 (by omega), worthOf_wof 3 (by omega), worthOf_wof 4 (by omega), h 0 (by omega), h 1 (by omega), h 2 (by omega), h 3 (by omega), h 4 (by omega), Int32.mul_comm]
