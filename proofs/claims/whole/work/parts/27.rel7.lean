/-! pass: the class goes down and comes up again; the reference goes along and then back -/
theorem digits_eq {x : Nat} (hx : x ≤ 777777) : dgL (nI x) 5 1 10 = digsN 5 x 1 := by
  have h1 : (nI x < 10) ↔ x < 10 := fq_lt (b := 10) rfl (by omega) (by decide)
  have h2 : (nI x < 10 * 10) ↔ x < 100 := fq_lt (b := 100) (by decide) (by omega) (by decide)
  have h3 : (nI x < 10 * 10 * 10) ↔ x < 1000 := fq_lt (b := 1000) (by decide) (by omega) (by decide)
  have h4 : (nI x < 10 * 10 * 10 * 10) ↔ x < 10000 := fq_lt (b := 10000) (by decide) (by omega) (by decide)
  have h5 : (nI x < 10 * 10 * 10 * 10 * 10) ↔ x < 100000 := fq_lt (b := 100000) (by decide) (by omega) (by decide)
  have k1 : (nI x ≤ 9) ↔ x ≤ 9 := fq_le (b := 9) rfl (by omega) (by decide)
  have k2 : (nI (x / 10) ≤ 9) ↔ x / 10 ≤ 9 := fq_le (b := 9) rfl (by omega) (by decide)
  have k3 : (nI (x / 10 / 10) ≤ 9) ↔ x / 10 / 10 ≤ 9 := fq_le (b := 9) rfl (by omega) (by decide)
  have k4 : (nI (x / 10 / 10 / 10) ≤ 9) ↔ x / 10 / 10 / 10 ≤ 9 := fq_le (b := 9) rfl (by omega) (by decide)
  have k5 : (nI (x / 10 / 10 / 10 / 10) ≤ 9) ↔ x / 10 / 10 / 10 / 10 ≤ 9 := fq_le (b := 9) rfl (by omega) (by decide)
  simp only [dgL, digsN, h1, h2, h3, h4, h5, k1, k2, k3, k4, k5]
  repeat' (first | rfl | (exfalso; omega) | split)
theorem digN_succ : ∀ (c v : Nat), digN (c + 1) v = digN c v / 10 := by
  intro c
  induction c with
  | zero => intro v; rfl
  | succ c ih => intro v; rw [digN, ih, ← digN]
theorem digN_le : ∀ (c v : Nat), digN c v ≤ v := by
  intro c
  induction c with
  | zero => intro v; exact Nat.le_refl _
  | succ c ih => intro v; rw [digN_succ]; have := ih v; omega
theorem isTill_dig {d : Nat} (hd : d < 10) : f_X3_isTill (nI d) = 0 ↔ 8 ≤ d := by
  have e : (8 ≤ nI d) ↔ 8 ≤ d := fq_ge (b := 8) rfl (by omega) (by decide)
  rw [f_X3_isTill, if_neg (nI_pos (by omega))]
  by_cases h : 8 ≤ d
  · rw [if_pos (e.mpr h)]; exact ⟨fun _ => h, fun _ => rfl⟩
  · rw [if_neg (mt e.mp h)]; exact ⟨fun q => absurd q (by decide), fun q => absurd q h⟩
theorem rrL_row {len r : Nat} (hr : r ≠ 21) : ∀ (n : Nat) (rest : Int32) (σ : St), (rrL len n rest σ).2 r = σ r := by
  intro n
  induction n with
  | zero => intro rest σ; rfl
  | succ n ih =>
    intro rest σ
    rw [rrL]
    split
    · rfl
    · rw [ih, up_row hr]
/-- reading a row: its digits stand in their places, or it's bad -/
theorem rrL_all {x len : Nat} (hx : x < 2 ^ 31) : ∀ (n : Nat) (σ : St), n ≤ len → (∀ k, n ≤ k → k < len → σ 21 k = nI (digN (len - (k + 1)) x % 10) ∧ digN (len - (k + 1)) x % 10 < 8) → ((∀ k, k < len → digN (len - (k + 1)) x % 10 < 8) → ∃ s1 : St, rrL len n (nI (digN (len - n) x)) σ = (nI len, s1) ∧ ∀ k, k < len → s1 21 k = nI (digN (len - (k + 1)) x % 10)) ∧ ((∃ k, k < len ∧ 8 ≤ digN (len - (k + 1)) x % 10) → ∃ s1 : St, rrL len n (nI (digN (len - n) x)) σ = (-1, s1)) := by
  intro n
  induction n with
  | zero =>
    intro σ hn hk
    refine ⟨fun _ => ⟨σ, rfl, fun k h => (hk k (Nat.zero_le _) h).1⟩, fun ⟨k, h1, h2⟩ => ?_⟩
    have := (hk k (Nat.zero_le _) h1).2
    omega
  | succ n ih =>
    intro σ hn hk
    have hle := digN_le (len - (n + 1)) x
    have e1 : nI (digN (len - (n + 1)) x) - nI (digN (len - (n + 1)) x) / 10 * 10 = nI (digN (len - (n + 1)) x % 10) := pk_rem (d := 10) (by omega) (by decide) (by decide)
    have e2 : nI (digN (len - (n + 1)) x) / 10 = nI (digN (len - n) x) := by
      rw [show (10 : Int32) = nI 10 from rfl, pk_div (by omega) (by decide) (by decide), ← digN_succ, show len - (n + 1) + 1 = len - n by omega]
    by_cases h8 : 8 ≤ digN (len - (n + 1)) x % 10
    · refine ⟨fun hall => ?_, fun _ => ⟨σ, ?_⟩⟩
      · have := hall n (by omega); omega
      · rw [rrL, e1, if_pos ((isTill_dig (by omega)).mpr h8)]
    · have er : rrL len (n + 1) (nI (digN (len - (n + 1)) x)) σ = rrL len n (nI (digN (len - n) x)) (up σ 21 n (nI (digN (len - (n + 1)) x % 10))) := by
        rw [rrL, e1, if_neg (mt (isTill_dig (by omega)).mp h8), e2]
      rw [er]
      refine ih _ (by omega) (fun k h1 h2 => ?_)
      by_cases hkn : k = n
      · rw [hkn, up_same]; exact ⟨rfl, by omega⟩
      · rw [up_at hkn]; exact hk k (by omega) h2
theorem okL_one {x len : Nat} : ∀ (n k : Nat), (∀ j, k ≤ j → j < k + n → digN (len - (j + 1)) x % 10 < 8) → okL x len n k 1 = 1 := by
  intro n
  induction n with
  | zero => intro k h; rfl
  | succ n ih =>
    intro k h
    rw [okL, if_neg (by decide), if_neg (show ¬ (8 : Int32) ≤ nI (digN (len - (k + 1)) x % 10) from mt (fq_ge (a := digN (len - (k + 1)) x % 10) (b := 8) rfl (by omega) (by decide)).mp (by have := h k (Nat.le_refl _) (by omega); omega))]
    exact ih (k + 1) (fun j h1 h2 => h j (by omega) (by omega))
theorem leave_pair (μ : St) (f : Int32) : f_X4_leave μ f = (f, (f_X4_leave μ f).2) := by
  unfold f_X4_leave
  split <;> rfl
def stepU (x len : Nat) (back : Int32) (k : Nat) (p : Int32 × St) : Int32 × St :=
  if p.1 = 0 then (p.1, (f_X4_leave p.2 p.1).2) else if bz back = 0 then (p.1, (f_X4_leave p.2 p.1).2) else (p.1, backL (digN (len - (k + 1)) x % 10) k 5 0 (f_X4_leave p.2 p.1).2)
def unwQ (x len : Nat) (back : Int32) : Nat → Nat → Int32 → St → Int32 × St
  | 0, _, f, μ => (f, μ)
  | m + 1, h, f, μ => stepU x len back h (unwQ x len back m (h + 1) f μ)
theorem unwL_step {x len : Nat} {back : Int32} {n : Nat} {f : Int32} {μ : St} : unwL x len back (n + 1) f μ = unwL x len back n (stepU x len back n (f, μ)).1 (stepU x len back n (f, μ)).2 := by
  rw [unwL, leave_pair μ f]
  unfold stepU
  dsimp only
  by_cases h : f = 0
  · rw [if_pos h, if_pos h]
  · rw [if_neg h, if_neg h]
    by_cases h2 : bz back = 0
    · rw [if_pos h2, if_pos h2]
    · rw [if_neg h2, if_neg h2]
theorem unw_all {x len : Nat} {back : Int32} : ∀ (m h : Nat) (f : Int32) (μ : St), unwL x len back (h + m) f μ = unwL x len back h (unwQ x len back m h f μ).1 (unwQ x len back m h f μ).2 := by
  intro m
  induction m with
  | zero => intro h f μ; rfl
  | succ m ih =>
    intro h f μ
    rw [show h + (m + 1) = (h + 1) + m by omega, ih (h + 1), unwL_step]
    rfl
theorem mainL_stop {x len : Nat} {w f : Int32} (hf : ¬ f = 0) : ∀ (n h : Nat) (μ : St), mainL x len w n h f μ = (h, f, μ) := by
  intro n h μ
  cases n with
  | zero => rfl
  | succ n => rw [mainL, if_neg hf]
/-- what is kept: the coins of the tills held so far, and the hand's -/
def Kp (x len h : Nat) (σ μ : St) : Prop := (∀ j, j < h → (∀ i, i < 5 → σ (11 + j) i = μ 6 (5 * j + i)) ∧ Ok (σ (11 + j)) (σ 19 (digN (len - (j + 1)) x % 10))) ∧ ∀ i, i < 5 → σ 10 i = μ 6 (30 + i)
theorem Kp.mono {x len h : Nat} {σ μ σ' μ' : St} (hk : Kp x len h σ μ) (hh : h ≤ 6) (hs : ∀ r, ((10 ≤ r ∧ r ≤ 16) ∨ r = 19) → σ' r = σ r) (hm : μ' 6 = μ 6) : Kp x len h σ' μ' := by
  refine ⟨fun j hj => ?_, fun i hi => ?_⟩
  · rw [hs (11 + j) (by omega), hs 19 (by omega), hm]; exact hk.1 j hj
  · rw [hs 10 (by omega), hm]; exact hk.2 i hi
theorem Kp.less {x len h : Nat} {σ μ : St} (hk : Kp x len (h + 1) σ μ) : Kp x len h σ μ := ⟨fun j hj => hk.1 j (by omega), hk.2⟩
theorem rel_restore {σ μ : St} (h : Rel σ μ) {d k : Nat} (hd : d < 8) (hk : k < 6) (he : ∀ i, i < 5 → σ (11 + k) i = μ 6 (5 * k + i)) (ho : Ok (σ (11 + k)) (σ 19 d)) : Rel (becL d (11 + k) 5 0 σ) (backL d k 5 0 μ) := by
  have hr : ∀ r, r ≠ d → (becL d (11 + k) 5 0 σ) r = σ r := fun r h1 => becL_row h1 5 0 σ
  have hm : ∀ r, r ≠ 4 → (backL d k 5 0 μ) r = μ r := fun r h1 => backL_row h1 5 0 μ
  obtain ⟨h1, h2, h3, h4⟩ := h
  refine ⟨fun t' ht' => ?_, fun t' ht' hb => ?_, fun q hq => ?_, ?_⟩
  · rw [hr 17 (by omega), hr 18 (by omega), hr 19 (by omega), hm 1 (by decide), hm 2 (by decide), hm 3 (by decide)]; exact h1 t' ht'
  · rw [hr 17 (by omega)] at hb
    rw [hr 19 (by omega)]
    by_cases e : t' = d
    · subst e
      have ev : ∀ q, q < 5 → (becL t' (11 + k) 5 0 σ) t' q = σ (11 + k) q := fun q hq => by rw [becL_at (by omega), if_pos (by omega)]
      refine ⟨fun q hq => ?_, ho.congr ev rfl⟩
      rw [ev q hq, backL_at 5 0 μ (by omega) q hq, if_pos (by omega)]
      exact he q hq
    · rw [hr t' e]
      refine ⟨fun q hq => ?_, (h2 t' ht' hb).2⟩
      rw [backL_ot (fun a ha => by omega) 5 0 μ (by omega)]
      exact (h2 t' ht' hb).1 q hq
  · rw [hr 8 (by omega), backL_ot (fun a ha => by omega) 5 0 μ (by omega)]; exact h3 q hq
  · rw [hr 20 (by omega), hm 0 (by decide)]; exact h4
theorem rel_handback {σ μ : St} (h : Rel σ μ) (he : ∀ i, i < 5 → σ 10 i = μ 6 (30 + i)) : Rel (becL 8 10 5 0 σ) (backL 8 6 5 0 μ) := by
  have hr : ∀ r, r ≠ 8 → (becL 8 10 5 0 σ) r = σ r := fun r h1 => becL_row h1 5 0 σ
  have hm : ∀ r, r ≠ 4 → (backL 8 6 5 0 μ) r = μ r := fun r h1 => backL_row h1 5 0 μ
  obtain ⟨h1, h2, h3, h4⟩ := h
  refine ⟨fun t' ht' => ?_, fun t' ht' hb => ?_, fun q hq => ?_, ?_⟩
  · rw [hr 17 (by decide), hr 18 (by decide), hr 19 (by decide), hm 1 (by decide), hm 2 (by decide), hm 3 (by decide)]; exact h1 t' ht'
  · rw [hr 17 (by decide)] at hb
    rw [hr t' (by omega), hr 19 (by decide)]
    refine ⟨fun q hq => ?_, (h2 t' ht' hb).2⟩
    rw [backL_ot (fun a ha => by omega) 5 0 μ (by omega)]
    exact (h2 t' ht' hb).1 q hq
  · rw [becL_at (by decide), if_pos (by omega)]
    show _ = (backL 8 6 5 0 μ) 4 (5 * 8 + q)
    rw [backL_at 5 0 μ (by omega) q hq, if_pos (by omega)]
    exact he q hq
  · rw [hr 20 (by decide), hm 0 (by decide)]; exact h4
theorem end_pair (σ : St) (x : Int32) : f_X3_end σ x = (x, (f_X3_end σ x).2) := by
  unfold f_X3_end
  split <;> rfl
theorem end_row {σ : St} {x : Int32} {r : Nat} (hr : r ≠ 20) : (f_X3_end σ x).2 r = σ r := by
  unfold f_X3_end f_X1_end
  split
  · dsimp only; rw [if_pos bz_0, up_row hr]
  · dsimp only; rw [if_neg (by rw [bz_1]; decide), up_row hr, up_row hr]
theorem end_20 {σ τ : St} {x : Int32} (h : σ 20 = τ 20) : (f_X3_end σ x).2 20 = (f_X3_end τ x).2 20 := by
  unfold f_X3_end f_X1_end
  split
  · dsimp only; rw [if_pos bz_0, if_pos bz_0, up_upd, up_upd, h]
  · dsimp only; rw [if_neg (by rw [bz_1]; decide), if_neg (by rw [bz_1]; decide), up_upd, up_upd, up_upd, up_upd, h]
/-- one level is left, on both sides -/
theorem fin_level {x len h : Nat} {back : Int32} (hh : h < 6) {d : Nat} (hd : d < 8) (hdd : digN (len - (h + 1)) x % 10 = d) {s μ : St} {r f : Int32} (hR : Rel s μ) (hK : Kp x len (h + 1) s μ) (hrf : (0 ≤ r ∧ f = 0) ∨ (¬ 0 ≤ r ∧ ¬ f = 0)) :
    ∃ s' μ' : St, (if 0 ≤ r then f_X3_end s r else if bz back = 0 then f_X3_end s r else f_X3_end (becL d (11 + h) 5 0 s) r) = (r, s') ∧ stepU x len back h (f, μ) = (f, μ') ∧ Rel s' μ' ∧ Kp x len h s' μ' := by
  obtain ⟨s4, m4, g1, g2, hR4, hs4, hm4⟩ := end_leave hR hrf
  have hK4 : Kp x len (h + 1) s4 m4 := hK.mono (by omega) (fun r hr => hs4 r (by omega)) (hm4 6 (by decide))
  have e4 : (f_X4_leave μ f).2 = m4 := by rw [g2]
  rcases hrf with ⟨h1, h2⟩ | ⟨h1, h2⟩
  · refine ⟨s4, m4, by rw [if_pos h1]; exact g1, ?_, hR4, hK4.less⟩
    unfold stepU
    dsimp only
    rw [if_pos h2, e4]
  · by_cases hb : bz back = 0
    · refine ⟨s4, m4, by rw [if_neg h1, if_pos hb]; exact g1, ?_, hR4, hK4.less⟩
      unfold stepU
      dsimp only
      rw [if_neg h2, if_pos hb, e4]
    · have hk := hK4.1 h (by omega)
      rw [hdd] at hk
      have hRb := rel_restore hR4 hd hh hk.1 hk.2
      have hrow : ∀ q, q ≠ 20 → (f_X3_end (becL d (11 + h) 5 0 s) r).2 q = (becL d (11 + h) 5 0 s4) q := fun q hq => by
        rw [end_row hq]
        by_cases hqd : q = d
        · subst hqd
          funext i
          rw [becL_at (by omega), becL_at (by omega), hs4 (11 + h) (by omega), hs4 q (by omega)]
        · rw [becL_row hqd, becL_row hqd, hs4 q hq]
      have h20 : (f_X3_end (becL d (11 + h) 5 0 s) r).2 20 = (becL d (11 + h) 5 0 s4) 20 := by
        rw [end_20 (τ := s) (becL_row (by omega) 5 0 s), becL_row (by omega), g1]
      have hall : ∀ q, (f_X3_end (becL d (11 + h) 5 0 s) r).2 q = (becL d (11 + h) 5 0 s4) q := fun q => by
        by_cases hq : q = 20
        · rw [hq]; exact h20
        · exact hrow q hq
      refine ⟨(f_X3_end (becL d (11 + h) 5 0 s) r).2, backL d h 5 0 m4, by rw [if_neg h1, if_neg hb]; exact end_pair _ _, ?_, hRb.rows (fun q _ => hall q) (fun _ _ => rfl), ?_⟩
      · unfold stepU
        dsimp only
        rw [if_neg h2, if_neg hb, e4, hdd]
      · refine hK4.less.mono (by omega) (fun q hq => ?_) (backL_row (by decide) 5 0 m4)
        rw [hall q, becL_row (by omega)]
