/-! picking coins: one function for both -/
def pkv (f : Nat → Int32) (n : Nat) (r : Int32) : Int32 := if r / wof n < f n then r / wof n else f n
def pkR (f : Nat → Int32) : Nat → Int32 → Int32
  | 0, r => r
  | n + 1, r => pkR f n (r - pkv f n r * wof n)
def pkP (f : Nat → Int32) : Nat → Int32 → Nat → Int32
  | 0, _, _ => 0
  | n + 1, r, q => if q = n then pkv f n r else pkP f n (r - pkv f n r * wof n) q
theorem pickL_1 {t : Nat} (ht : t ≠ 9) : ∀ (n : Nat) (r : Int32) (σ : St), (pickL t n r σ).1 = pkR (σ t) n r := by
  intro n
  induction n with
  | zero => intro r σ; rfl
  | succ n ih => intro r σ; rw [pickL, ih, up_row ht]; rfl
theorem pickL_2 {t : Nat} (ht : t ≠ 9) : ∀ (n : Nat) (r : Int32) (σ : St) (q : Nat), (pickL t n r σ).2 9 q = if q < n then pkP (σ t) n r q else σ 9 q := by
  intro n
  induction n with
  | zero => intro r σ q; rfl
  | succ n ih =>
    intro r σ q
    rw [pickL, ih, up_row ht]
    show (if q < n then pkP (σ t) n (r - pkv (σ t) n r * wof n) q else (up σ 9 n (pkv (σ t) n r)) 9 q) = _
    by_cases hq : q = n
    · subst hq
      rw [if_neg (by omega), if_pos (by omega), up_same, pkP, if_pos rfl]
    · rw [up_at hq]
      by_cases h : q < n
      · rw [if_pos h, if_pos (by omega), pkP, if_neg hq]
      · rw [if_neg h, if_neg (by omega)]
theorem lacksL_row {t r : Nat} (h : r ≠ 5) : ∀ (n : Nat) (w : Int32) (μ : St), (lacksL t n w μ).2 r = μ r := by
  intro n
  induction n with
  | zero => intro w μ; rfl
  | succ n ih =>
    intro w μ
    rw [lacksL]
    split
    · rw [ih, up_row h]
    · rw [ih, up_row h]
theorem pkv_alt (f : Nat → Int32) (n : Nat) (r : Int32) : pkv f n r = if f n ≤ r / wof n then f n else r / wof n := by
  unfold pkv
  by_cases h : f n ≤ r / wof n
  · rw [if_pos h, if_neg (by rw [Int32.lt_iff_toInt_lt]; rw [Int32.le_iff_toInt_le] at h; omega)]
  · rw [if_neg h, if_pos (by rw [Int32.lt_iff_toInt_lt]; rw [Int32.le_iff_toInt_le] at h; omega)]
theorem rowM_up5 {μ : St} {t n : Nat} {x : Int32} : rowM (up μ 5 n x) t = rowM μ t := by
  funext q
  unfold rowM
  rw [up_row (by decide)]
theorem lacksL_1 {t : Nat} : ∀ (n : Nat), n ≤ 5 → ∀ (r : Int32) (μ : St), (lacksL t n r μ).1 = pkR (rowM μ t) n r := by
  intro n
  induction n with
  | zero => intro _ r μ; rfl
  | succ n ih =>
    intro hn r μ
    rw [lacksL, pkR, pkv_alt, worthOf_wof n (by omega)]
    show _ = pkR (rowM μ t) n (r - (if μ 4 (5 * t + n) ≤ r / wof n then μ 4 (5 * t + n) else r / wof n) * wof n)
    split
    · rw [ih (by omega), rowM_up5, up_same]
    · rw [ih (by omega), rowM_up5, up_same]
theorem lacksL_2 {t : Nat} : ∀ (n : Nat), n ≤ 5 → ∀ (r : Int32) (μ : St) (q : Nat), (lacksL t n r μ).2 5 q = if q < n then pkP (rowM μ t) n r q else μ 5 q := by
  intro n
  induction n with
  | zero => intro _ r μ q; rfl
  | succ n ih =>
    intro hn r μ q
    have e : (lacksL t (n + 1) r μ).2 5 q = (lacksL t n (r - pkv (rowM μ t) n r * wof n) (up μ 5 n (pkv (rowM μ t) n r))).2 5 q := by
      rw [lacksL, worthOf_wof n (by omega), pkv_alt]
      show _ = (lacksL t n (r - (if μ 4 (5 * t + n) ≤ r / wof n then μ 4 (5 * t + n) else r / wof n) * wof n) (up μ 5 n (if μ 4 (5 * t + n) ≤ r / wof n then μ 4 (5 * t + n) else r / wof n))).2 5 q
      split
      · rw [up_same]
      · rw [up_same]
    rw [e, ih (by omega), rowM_up5]
    by_cases hq : q = n
    · subst hq
      rw [if_neg (by omega), if_pos (by omega), up_same, pkP, if_pos rfl]
    · rw [up_at hq]
      by_cases h : q < n
      · rw [if_pos h, if_pos (by omega), pkP, if_neg hq]
      · rw [if_neg h, if_neg (by omega)]
theorem pkv_congr {f g : Nat → Int32} {n : Nat} {r : Int32} (h : f n = g n) : pkv f n r = pkv g n r := by unfold pkv; rw [h]
theorem pkR_congr {f g : Nat → Int32} : ∀ (n : Nat) (r : Int32), (∀ k, k < n → f k = g k) → pkR f n r = pkR g n r := by
  intro n
  induction n with
  | zero => intro r h; rfl
  | succ n ih => intro r h; rw [pkR, pkR, pkv_congr (h n (by omega)), ih _ (fun k hk => h k (by omega))]
theorem pkP_congr {f g : Nat → Int32} : ∀ (n : Nat) (r : Int32) (q : Nat), (∀ k, k < n → f k = g k) → pkP f n r q = pkP g n r q := by
  intro n
  induction n with
  | zero => intro r q h; rfl
  | succ n ih => intro r q h; rw [pkP, pkP, pkv_congr (h n (by omega)), ih _ q (fun k hk => h k (by omega))]
def wofN (k : Nat) : Nat := match k with
  | 0 => 1
  | 1 => 2
  | 2 => 5
  | 3 => 10
  | _ => 20
theorem wof_N (k : Nat) : wof k = nI (wofN k) := by
  match k with
  | 0 => rfl
  | 1 => rfl
  | 2 => rfl
  | 3 => rfl
  | _ + 4 => rfl
theorem wofN_b (k : Nat) : 0 < wofN k ∧ wofN k ≤ 20 := by
  unfold wofN
  split <;> decide
theorem pkv_nat {f : Nat → Int32} {n a b : Nat} (ha : a < 2 ^ 31) (hb : b < 2 ^ 31) (hf : f n = nI b) : ∃ p : Nat, pkv f n (nI a) = nI p ∧ p ≤ b ∧ p * wofN n ≤ a := by
  have hw := wofN_b n
  unfold pkv
  rw [hf, wof_N, pk_div ha hw.1 (by omega)]
  have hda : a / wofN n ≤ a := Nat.div_le_self _ _
  have hmul : a / wofN n * wofN n ≤ a := Nat.div_mul_le_self _ _
  by_cases h : a / wofN n < b
  · rw [if_pos ((nI_ltI (by omega) hb).mpr h)]
    exact ⟨_, rfl, by omega, hmul⟩
  · rw [if_neg (mt (nI_ltI (by omega) hb).mp h)]
    exact ⟨b, rfl, Nat.le_refl _, Nat.le_trans (Nat.mul_le_mul_right _ (by omega)) hmul⟩
theorem pkR_nat {f : Nat → Int32} {g : Nat → Nat} : ∀ (n a : Nat), a < 2 ^ 31 → (∀ k, k < n → f k = nI (g k) ∧ g k < 2 ^ 31) → (∃ r : Nat, r < 2 ^ 31 ∧ pkR f n (nI a) = nI r) ∧ ∀ q, q < n → ∃ p : Nat, pkP f n (nI a) q = nI p ∧ p ≤ g q := by
  intro n
  induction n with
  | zero => intro a ha h; exact ⟨⟨a, ha, rfl⟩, fun q hq => by omega⟩
  | succ n ih =>
    intro a ha h
    obtain ⟨p, h1, h2, h3⟩ := pkv_nat ha (h n (by omega)).2 (h n (by omega)).1
    have e : nI a - pkv f n (nI a) * wof n = nI (a - p * wofN n) := by rw [h1, wof_N, pk_mul, pk_sub h3]
    obtain ⟨i1, i2⟩ := ih (a - p * wofN n) (by omega) (fun k hk => h k (by omega))
    refine ⟨?_, fun q hq => ?_⟩
    · rw [pkR, e]; exact i1
    · rw [pkP, e]
      by_cases hqn : q = n
      · rw [if_pos hqn, h1, hqn]; exact ⟨p, rfl, h2⟩
      · rw [if_neg hqn]; exact i2 q (by omega)
