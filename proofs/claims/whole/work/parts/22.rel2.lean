theorem Rel.rows {σ μ σ' μ' : St} (h : Rel σ μ) (hs : ∀ r, (r ≤ 8 ∨ (17 ≤ r ∧ r ≤ 20)) → σ' r = σ r) (hm : ∀ r, r ≤ 4 → μ' r = μ r) : Rel σ' μ' := by
  obtain ⟨h1, h2, h3, h4⟩ := h
  refine ⟨fun t ht => ?_, fun t ht hb => ?_, fun k hk => ?_, ?_⟩
  · rw [hs 17 (by omega), hs 18 (by omega), hs 19 (by omega), hm 1 (by omega), hm 2 (by omega), hm 3 (by omega)]; exact h1 t ht
  · rw [hs 17 (by omega)] at hb
    rw [hs t (by omega), hs 19 (by omega), hm 4 (by omega)]; exact h2 t ht hb
  · rw [hs 8 (by omega), hm 4 (by omega)]; exact h3 k hk
  · rw [hs 20 (by omega), hm 0 (by omega)]; exact h4
theorem Rel.same {σ μ σ' μ' : St} (h : Rel σ μ) (hs : ∀ r, r ≠ 20 → σ' r = σ r) (hm : ∀ r, r ≠ 0 → μ' r = μ r) (hn : σ' 20 0 = μ' 0 1 ∧ σ' 20 1 = μ' 0 2 ∧ σ' 20 2 = μ' 0 3 ∧ σ' 20 3 = μ' 0 4) : Rel σ' μ' := by
  obtain ⟨h1, h2, h3, h4⟩ := h
  refine ⟨fun t ht => ?_, fun t ht hb => ?_, fun k hk => ?_, hn⟩
  · rw [hs 17 (by omega), hs 18 (by omega), hs 19 (by omega), hm 1 (by omega), hm 2 (by omega), hm 3 (by omega)]; exact h1 t ht
  · rw [hs 17 (by omega)] at hb
    rw [hs t (by omega), hs 19 (by omega), hm 4 (by omega)]; exact h2 t ht hb
  · rw [hs 8 (by omega), hm 4 (by omega)]; exact h3 k hk
theorem Rel.thrown {σ μ : St} (h : Rel σ μ) : Rel σ (up μ 0 0 0) :=
  h.same (fun _ _ => rfl) (fun r hr => up_row hr) (by rw [up_at (by decide), up_at (by decide), up_at (by decide), up_at (by decide)]; exact h.2.2.2)
theorem max_eq (d D : Int32) : (if D < d then d else D) = (if d ≤ D then D else d) := by
  by_cases h : d ≤ D
  · rw [if_pos h, if_neg (by rw [Int32.lt_iff_toInt_lt]; rw [Int32.le_iff_toInt_le] at h; omega)]
  · rw [if_neg h, if_pos (by rw [Int32.lt_iff_toInt_lt]; rw [Int32.le_iff_toInt_le] at h; omega)]
theorem begin_hold {σ μ : St} (h : Rel σ μ) {t : Nat} (ht : t < 8) :
    (f_X3_begin σ t = (0, σ) ∧ f_X4_hold μ t = (1, μ) ∧ bz (σ 17 t) = 0) ∨ ∃ s1 m1 : St, f_X3_begin σ t = (1, s1) ∧ f_X4_hold μ t = (0, m1) ∧ ¬ bz (σ 17 t) = 0 ∧ Rel s1 m1 ∧ (∀ r, r ≠ 20 → s1 r = σ r) ∧ ∀ r, r ≠ 0 → m1 r = μ r := by
  have h17 := (h.1 t ht).1
  by_cases hb : bz (σ 17 t) = 0
  · left
    rw [f_X3_begin, if_pos hb, f_X4_hold, if_pos (show bz (μ 1 t) = 0 by rw [← h17]; exact hb), hb]
    exact ⟨rfl, rfl, rfl⟩
  · right
    have hs : ∀ r, r ≠ 20 → f_X1_begin σ r = σ r := fun r hr => by
      unfold f_X1_begin
      rw [up_row hr, up_row hr, up_row hr]
    have h1 : bz (f_X1_begin σ 17 t) = 1 := by
      rw [hs 17 (by decide)]
      rcases bz_c (σ 17 t) with q | q
      · exact absurd q hb
      · exact q
    obtain ⟨n0, n1, n2, n3⟩ := h.2.2.2
    refine ⟨f_X1_begin σ, (f_X4_hold μ t).2, ?_, ?_, hb, ?_, hs, ?_⟩
    · rw [f_X3_begin, if_neg hb, h1]
    · rw [f_X4_hold, if_neg (show ¬ bz (μ 1 t) = 0 by rw [← h17]; exact hb)]
      split <;> rfl
    · refine h.same hs (fun r hr => ?_) ?_
      · rw [f_X4_hold, if_neg (show ¬ bz (μ 1 t) = 0 by rw [← h17]; exact hb)]
        split
        · dsimp only; rw [up_row hr, up_row hr, up_row hr]
        · dsimp only; rw [up_row hr, up_row hr, up_row hr]
      · rw [f_X4_hold, if_neg (show ¬ bz (μ 1 t) = 0 by rw [← h17]; exact hb)]
        have e : ∀ c : Prop, ∀ [Decidable c], ∀ a b : St, (if c then ((0 : Int32), a) else (0, b)).2 = if c then a else b := fun c _ a b => by split <;> rfl
        rw [e]
        have e1 : f_X1_begin σ 20 0 = σ 20 0 + 1 := by simp [f_X1_begin, up]
        have e2 : f_X1_begin σ 20 1 = σ 20 1 := by simp [f_X1_begin, up]
        have e3 : f_X1_begin σ 20 2 = σ 20 2 + 1 := by simp [f_X1_begin, up]
        have e4 : f_X1_begin σ 20 3 = if σ 20 3 < σ 20 2 + 1 then σ 20 2 + 1 else σ 20 3 := by simp [f_X1_begin, up]
        rw [e1, e2, e3, e4, max_eq, n0, n1, n2, n3]
        by_cases hc : μ 0 3 + 1 ≤ μ 0 4
        · rw [if_pos hc, if_pos (by simpa [up] using hc)]
          simp [up]
        · rw [if_neg hc, if_neg (by simpa [up] using hc)]
          simp [up]
    · intro r hr
      rw [f_X4_hold, if_neg (show ¬ bz (μ 1 t) = 0 by rw [← h17]; exact hb)]
      split
      · dsimp only; rw [up_row hr, up_row hr, up_row hr]
      · dsimp only; rw [up_row hr, up_row hr, up_row hr]
theorem end_leave {σ μ : St} (h : Rel σ μ) {x f : Int32} (hxf : (0 ≤ x ∧ f = 0) ∨ (¬ 0 ≤ x ∧ ¬ f = 0)) :
    ∃ s1 m1 : St, f_X3_end σ x = (x, s1) ∧ f_X4_leave μ f = (f, m1) ∧ Rel s1 m1 ∧ (∀ r, r ≠ 20 → s1 r = σ r) ∧ ∀ r, r ≠ 0 → m1 r = μ r := by
  obtain ⟨n0, n1, n2, n3⟩ := h.2.2.2
  rcases hxf with ⟨hx, hf⟩ | ⟨hx, hf⟩
  · have hs : ∀ r, r ≠ 20 → f_X1_end σ 0 r = σ r := fun r hr => by rw [f_X1_end, if_pos bz_0, up_row hr]
    have hm : ∀ r, r ≠ 0 → (up (up μ 0 3 ((μ 0 3) - 1)) 0 2 (((up μ 0 3 ((μ 0 3) - 1)) 0 2) + 0)) r = μ r := fun r hr => by rw [up_row hr, up_row hr]
    refine ⟨f_X1_end σ 0, _, by rw [f_X3_end, if_pos hx], by rw [f_X4_leave, if_pos hf], h.same hs hm ?_, hs, hm⟩
    rw [f_X1_end, if_pos bz_0]
    simp [up, n0, n1, n2, n3]
  · have hs : ∀ r, r ≠ 20 → f_X1_end σ 1 r = σ r := fun r hr => by rw [f_X1_end, if_neg (by rw [bz_1]; decide), up_row hr, up_row hr]
    have hm : ∀ r, r ≠ 0 → (up (up μ 0 3 ((μ 0 3) - 1)) 0 2 (((up μ 0 3 ((μ 0 3) - 1)) 0 2) + 1)) r = μ r := fun r hr => by rw [up_row hr, up_row hr]
    refine ⟨f_X1_end σ 1, _, by rw [f_X3_end, if_neg hx], by rw [f_X4_leave, if_neg hf], h.same hs hm ?_, hs, hm⟩
    rw [f_X1_end, if_neg (by rw [bz_1]; decide)]
    simp [up, n0, n1, n2, n3]
/-! coins from a till to the hand, and from the hand into a till -/
theorem core_pay {σ μ : St} (h : Rel σ μ) {t : Nat} (ht : t < 8) {g : Nat → Nat} {L : Nat} (hg : ∀ k, k < 5 → σ t k - σ 9 k = nI (g k)) (hL : σ 19 t = nI L) (hs : g 0 + g 1 + g 2 + g 3 + g 4 ≤ L) (h200 : L ≤ 200) (hth : ¬ bz (σ 17 t) = 0) (hp : ∀ k, k < 5 → σ 9 k = μ 5 k) : Rel (addL 8 9 5 0 (remL t 9 5 0 σ)) (goL t 8 5 5 0 μ) := by
  have hr : ∀ r, r ≠ 8 → r ≠ t → (addL 8 9 5 0 (remL t 9 5 0 σ)) r = σ r := fun r h1 h2 => by rw [addL_row h1, remL_row h2]
  have hm : ∀ r, r ≠ 4 → (goL t 8 5 5 0 μ) r = μ r := fun r h1 => goL_row h1 5 0 μ
  obtain ⟨h1, h2, h3, h4⟩ := h
  refine ⟨fun t' ht' => ?_, fun t' ht' hb => ?_, fun k hk => ?_, ?_⟩
  · rw [hr 17 (by omega) (by omega), hr 18 (by omega) (by omega), hr 19 (by omega) (by omega), hm 1 (by omega), hm 2 (by omega), hm 3 (by omega)]; exact h1 t' ht'
  · rw [hr 17 (by omega) (by omega)] at hb
    rw [hr 19 (by omega) (by omega)]
    by_cases htt : t' = t
    · subst htt
      have e : ∀ k, k < 5 → (addL 8 9 5 0 (remL t' 9 5 0 σ)) t' k = σ t' k - σ 9 k := fun k hk => by
        rw [addL_row (by omega), remL_at (by omega), if_pos (by omega)]
      refine ⟨fun k hk => ?_, g, L, fun k hk => (e k hk).trans (hg k hk), hL, hs, h200⟩
      rw [e k hk, goL_fr (by omega) (by omega) 5 0 μ (by omega) k hk, if_pos (by omega), ← hp k hk, (h2 t' ht' hb).1 k hk]
    · rw [hr t' (by omega) htt]
      refine ⟨fun k hk => ?_, (h2 t' ht' hb).2⟩
      rw [goL_ot (fun q hq => by omega) (fun q hq => by omega) 5 0 μ (by omega)]
      exact (h2 t' ht' hb).1 k hk
  · rw [addL_at (by omega), if_pos (by omega), remL_row (by omega), remL_row (by omega)]
    show _ = (goL t 8 5 5 0 μ) 4 (5 * 8 + k)
    rw [goL_to (by omega) (by omega) 5 0 μ (by omega) k hk, if_pos (by omega), ← hp k hk]
    show _ = μ 4 (40 + k) + _
    rw [h3 k hk]
  · rw [hr 20 (by omega) (by omega), hm 0 (by omega)]; exact h4
theorem core_lay {σ μ : St} (h : Rel σ μ) {t w : Nat} (ht : t < 8) (hw : w ≠ 4) {g : Nat → Nat} {L : Nat} (hg : ∀ k, k < 5 → σ t k + σ 9 k = nI (g k)) (hL : σ 19 t = nI L) (hs : g 0 + g 1 + g 2 + g 3 + g 4 ≤ L) (h200 : L ≤ 200) (hth : ¬ bz (σ 17 t) = 0) (hp : ∀ k, k < 5 → σ 9 k = μ w k) : Rel (addL t 9 5 0 (remL 8 9 5 0 σ)) (goL 8 t w 5 0 μ) ∧ ∀ k, k < 5 → (addL t 9 5 0 (remL 8 9 5 0 σ)) t k = nI (g k) := by
  have hr : ∀ r, r ≠ 8 → r ≠ t → (addL t 9 5 0 (remL 8 9 5 0 σ)) r = σ r := fun r h1 h2 => by rw [addL_row h2, remL_row h1]
  have hm : ∀ r, r ≠ 4 → (goL 8 t w 5 0 μ) r = μ r := fun r h1 => goL_row h1 5 0 μ
  obtain ⟨h1, h2, h3, h4⟩ := h
  have e : ∀ k, k < 5 → (addL t 9 5 0 (remL 8 9 5 0 σ)) t k = σ t k + σ 9 k := fun k hk => by
    rw [addL_at (by omega), if_pos (by omega), remL_row (by omega), remL_row (by omega)]
  refine ⟨⟨fun t' ht' => ?_, fun t' ht' hb => ?_, fun k hk => ?_, ?_⟩, fun k hk => (e k hk).trans (hg k hk)⟩
  · rw [hr 17 (by omega) (by omega), hr 18 (by omega) (by omega), hr 19 (by omega) (by omega), hm 1 (by omega), hm 2 (by omega), hm 3 (by omega)]; exact h1 t' ht'
  · rw [hr 17 (by omega) (by omega)] at hb
    rw [hr 19 (by omega) (by omega)]
    by_cases htt : t' = t
    · subst htt
      refine ⟨fun k hk => ?_, g, L, fun k hk => (e k hk).trans (hg k hk), hL, hs, h200⟩
      rw [e k hk, goL_to (by omega) hw 5 0 μ (by omega) k hk, if_pos (by omega), ← hp k hk, (h2 t' ht' hb).1 k hk]
    · rw [hr t' (by omega) htt]
      refine ⟨fun k hk => ?_, (h2 t' ht' hb).2⟩
      rw [goL_ot (fun q hq => by omega) (fun q hq => by omega) 5 0 μ (by omega)]
      exact (h2 t' ht' hb).1 k hk
  · rw [addL_row (by omega), remL_at (by omega), if_pos (by omega)]
    show _ = (goL 8 t w 5 0 μ) 4 (5 * 8 + k)
    rw [goL_fr (by omega) hw 5 0 μ (by omega) k hk, if_pos (by omega), ← hp k hk]
    show _ = μ 4 (40 + k) - _
    rw [h3 k hk]
  · rw [hr 20 (by omega) (by omega), hm 0 (by omega)]; exact h4
/-- the picked coins, as numbers, on both sides -/
def Pk (σ μ : St) (w : Nat) : Prop := ∃ p : Nat → Nat, ∀ k, k < 5 → σ 9 k = nI (p k) ∧ μ w k = nI (p k) ∧ p k ≤ 200
/-- a till that would take its picked coins again -/
def Rst (σ : St) (t : Nat) : Prop := ∃ (g : Nat → Nat) (L : Nat), (∀ k, k < 5 → σ t k + σ 9 k = nI (g k)) ∧ σ 19 t = nI L ∧ g 0 + g 1 + g 2 + g 3 + g 4 ≤ L ∧ L ≤ 200
theorem back_back {σ μ : St} (h : Rel σ μ) {t : Nat} (ht : t < 8) (hth : ¬ bz (σ 17 t) = 0) (hp : Pk σ μ 5) (hr : Rst σ t) : Rel (addL t 9 5 0 (remL 8 9 5 0 σ)) (goL 8 t 5 5 0 μ) := by
  obtain ⟨p, hp⟩ := hp
  obtain ⟨g, L, h1, h2, h3, h4⟩ := hr
  exact (core_lay h ht (by decide) h1 h2 h3 h4 hth (fun k hk => (hp k hk).1.trans (hp k hk).2.1.symm)).1
theorem nI_nn {n : Nat} (h : n < 2 ^ 31) : 0 ≤ nI n := nI_pos' h
theorem pay_pay {σ μ : St} (h : Rel σ μ) {t : Nat} (ht : t < 8) (hth : ¬ bz (σ 17 t) = 0) {w : Int32} (hw : ¬ w < 0) :
    ∃ (r f : Int32) (s1 m1 : St), f_X3_pay σ t w = (r, s1) ∧ f_X4_pay μ t w = (f, m1) ∧ Rel s1 m1 ∧ ((0 ≤ r ∧ f = 0 ∧ r = sumL (m1 5) 5 0 0 ∧ Pk s1 m1 5 ∧ Rst s1 t) ∨ (¬ 0 ≤ r ∧ ¬ f = 0 ∧ r = -10 - f)) ∧ (∀ q, q ≠ t → q ≠ 8 → q ≠ 9 → s1 q = σ q) ∧ ∀ q, q ≠ 4 → q ≠ 5 → m1 q = μ q := by
  have h18 := (h.1 t ht).2.1
  by_cases hsh : bz (σ 18 t) = 0
  · obtain ⟨hc, g, L, hg, hL, hsum, h200⟩ := h.2.1 t ht hth
    obtain ⟨a, ha, rfl⟩ := nI_of hw
    have hcr : ∀ k, k < 5 → σ t k = rowM μ t k := hc
    obtain ⟨⟨r0, hr0, hR⟩, hP⟩ := pkR_nat (f := σ t) (g := g) 5 a ha (fun k hk => ⟨hg k hk, by rcases lt5 hk with rfl | rfl | rfl | rfl | rfl <;> omega⟩)
    have e1 := pickL_1 (t := t) (by omega) 5 (nI a) σ
    have e2 := pickL_2 (t := t) (by omega) 5 (nI a) σ
    have e3 := fun q (hq : q ≠ 9) => pickL_row (t := t) hq 5 (nI a) σ
    have d1 := lacksL_1 (t := t) 5 (by omega) (nI a) μ
    have d2 := lacksL_2 (t := t) 5 (by omega) (nI a) μ
    have d3 := fun q (hq : q ≠ 5) => lacksL_row (t := t) hq 5 (nI a) μ
    rw [← pkR_congr 5 (nI a) hcr] at d1
    rw [f_X3_pay, if_pos hsh, f_X3_pick, f_X4_pay, if_pos (show bz (μ 2 t) = 0 by rw [← h18]; exact hsh)]
    generalize pickL t 5 (nI a) σ = P at e1 e2 e3
    generalize lacksL t 5 (nI a) μ = M at d1 d2 d3
    obtain ⟨pr, s⟩ := P
    obtain ⟨mr, m⟩ := M
    dsimp only at e1 e2 e3 d1 d2 d3
    subst e1
    subst d1
    have hRel : Rel s m := h.rows (fun r hr => e3 r (by omega)) (fun r hr => d3 r (by omega))
    dsimp only
    rw [hR]
    by_cases hz : r0 = 0
    · subst hz
      rw [if_pos nI_0]
      dsimp only
      rw [if_neg (by decide), if_pos (by rw [nI_0]; decide)]
      have hpk : ∃ p : Nat → Nat, ∀ k, k < 5 → s 9 k = nI (p k) ∧ m 5 k = nI (p k) ∧ p k ≤ g k := by
        have hP2 : ∀ k, ∃ p : Nat, k < 5 → pkP (σ t) 5 (nI a) k = nI p ∧ p ≤ g k := fun k => by
          by_cases hk : k < 5
          · obtain ⟨p, hp⟩ := hP k hk
            exact ⟨p, fun _ => hp⟩
          · exact ⟨0, fun h => absurd h hk⟩
        refine ⟨fun k => Classical.choose (hP2 k), fun k hk => ?_⟩
        have hc2 := Classical.choose_spec (hP2 k) hk
        rw [e2, d2, if_pos hk, if_pos hk, ← pkP_congr 5 (nI a) k hcr]
        exact ⟨hc2.1, hc2.1, hc2.2⟩
      obtain ⟨p, hp⟩ := hpk
      have hst : s t = σ t := e3 t (by omega)
      have hs19 : s 19 t = nI L := by rw [e3 19 (by omega)]; exact hL
      have hsub : ∀ k, k < 5 → s t k - s 9 k = nI (g k - p k) := fun k hk => by
        rw [hst, hg k hk, (hp k hk).1, pk_sub (hp k hk).2.2]
      have hb0 := (hp 0 (by omega)).2.2
      have hb1 := (hp 1 (by omega)).2.2
      have hb2 := (hp 2 (by omega)).2.2
      have hb3 := (hp 3 (by omega)).2.2
      have hb4 := (hp 4 (by omega)).2.2
      have hcore := core_pay hRel ht (g := fun k => g k - p k) hsub hs19 (show g 0 - p 0 + (g 1 - p 1) + (g 2 - p 2) + (g 3 - p 3) + (g 4 - p 4) ≤ L by omega) h200 (by rw [e3 17 (by omega)]; exact hth) (fun k hk => (hp k hk).1.trans (hp k hk).2.1.symm)
      have h9 : (addL 8 9 5 0 (remL t 9 5 0 s)) 9 = s 9 := by rw [addL_row (by omega), remL_row (by omega)]
      have h5 : (goL t 8 5 5 0 m) 5 = m 5 := goL_row (by omega) 5 0 m
      have htt : ∀ k, k < 5 → (addL 8 9 5 0 (remL t 9 5 0 s)) t k = nI (g k - p k) := fun k hk => by
        rw [addL_row (by omega), remL_at (by omega), if_pos (by omega)]; exact hsub k hk
      refine ⟨_, _, _, _, rfl, rfl, hcore, Or.inl ⟨?_, rfl, ?_, ⟨p, fun k hk => ?_⟩, ⟨g, L, fun k hk => ?_, ?_, hsum, h200⟩⟩, fun q h1 h2 h3 => ?_, fun q h1 h2 => ?_⟩
      · rw [h9, sum_nI (fun k hk => (hp k hk).1)]
        exact nI_nn (by omega)
      · rw [h9, h5, sum_nI (fun k hk => (hp k hk).1), sum_nI (fun k hk => (hp k hk).2.1)]
      · rw [h9, h5]
        refine ⟨(hp k hk).1, (hp k hk).2.1, ?_⟩
        rcases lt5 hk with rfl | rfl | rfl | rfl | rfl <;> omega
      · rw [htt k hk, h9, (hp k hk).1, nI_add]
        have := (hp k hk).2.2
        rw [Nat.sub_add_cancel this]
      · rw [addL_row (by omega), remL_row (by omega)]; exact hs19
      · rw [addL_row h2, remL_row h1]; exact e3 q h3
      · rw [goL_row h1]; exact d3 q h2
    · have hne : ¬ nI r0 = 0 := nI_ne0 (by omega) hr0
      rw [if_neg hne]
      dsimp only
      rw [if_pos rfl, if_neg (nI_nle (by omega) hr0)]
      exact ⟨_, _, _, _, rfl, rfl, hRel, Or.inr ⟨by decide, by decide, by decide⟩, fun q h1 h2 h3 => e3 q h3, fun q h1 h2 => d3 q h2⟩
  · rw [f_X3_pay, if_neg hsh, f_X4_pay, if_neg (show ¬ bz (μ 2 t) = 0 by rw [← h18]; exact hsh)]
    exact ⟨_, _, _, _, rfl, rfl, h, Or.inr ⟨by decide, by decide, by decide⟩, fun _ _ _ _ => rfl, fun _ _ _ => rfl⟩
theorem lay_lay {σ μ : St} (h : Rel σ μ) {t w : Nat} (ht : t < 8) (hth : ¬ bz (σ 17 t) = 0) (hw : w ≠ 4) (hp : Pk σ μ w) :
    ∃ (r f : Int32) (s1 m1 : St), f_X3_layPicked σ t = (r, s1) ∧ f_X4_lay μ t w = (f, m1) ∧ Rel s1 m1 ∧ ((0 ≤ r ∧ f = 0 ∧ r = sumL (rowM m1 t) 5 0 0) ∨ (¬ 0 ≤ r ∧ ¬ f = 0 ∧ r = -10 - f ∧ s1 = σ ∧ m1 = μ)) ∧ (∀ q, q ≠ t → q ≠ 8 → s1 q = σ q) ∧ ∀ q, q ≠ 4 → m1 q = μ q := by
  have h18 := (h.1 t ht).2.1
  have h19 := (h.1 t ht).2.2
  by_cases hsh : bz (σ 18 t) = 0
  · obtain ⟨hc, g, L, hg, hL, hsum, h200⟩ := h.2.1 t ht hth
    obtain ⟨p, hp⟩ := hp
    have hb0 := (hp 0 (by omega)).2.2
    have hb1 := (hp 1 (by omega)).2.2
    have hb2 := (hp 2 (by omega)).2.2
    have hb3 := (hp 3 (by omega)).2.2
    have hb4 := (hp 4 (by omega)).2.2
    have e1 : sumL (σ t) 5 0 0 = nI (g 0 + g 1 + g 2 + g 3 + g 4) := sum_nI hg
    have e2 : sumL (σ 9) 5 0 0 = nI (p 0 + p 1 + p 2 + p 3 + p 4) := sum_nI (fun k hk => (hp k hk).1)
    have e3 : sumL (rowM μ t) 5 0 0 = nI (g 0 + g 1 + g 2 + g 3 + g 4) := sum_nI (fun k hk => (hc k hk).symm.trans (hg k hk))
    have e4 : sumL (μ w) 5 0 0 = nI (p 0 + p 1 + p 2 + p 3 + p 4) := sum_nI (fun k hk => (hp k hk).2.1)
    rw [f_X3_layPicked, if_pos hsh, f_X4_lay, if_pos (show bz (μ 2 t) = 0 by rw [← h18]; exact hsh), f_X2_hasRoomFor, e1, e2, e3, e4, ← h19, hL, nI_add]
    by_cases hfit : g 0 + g 1 + g 2 + g 3 + g 4 + (p 0 + p 1 + p 2 + p 3 + p 4) ≤ L
    · rw [if_neg (mt (nI_ltI (by omega) (by omega)).mp (by omega)), if_neg (by decide), if_pos ((nI_leI (by omega) (by omega)).mpr hfit)]
      have hadd : ∀ k, k < 5 → σ t k + σ 9 k = nI (g k + p k) := fun k hk => by rw [hg k hk, (hp k hk).1, nI_add]
      obtain ⟨hcore, hval⟩ := core_lay h ht hw (g := fun k => g k + p k) hadd hL (show g 0 + p 0 + (g 1 + p 1) + (g 2 + p 2) + (g 3 + p 3) + (g 4 + p 4) ≤ L by omega) h200 hth (fun k hk => (hp k hk).1.trans (hp k hk).2.1.symm)
      refine ⟨_, _, _, _, rfl, rfl, hcore, Or.inl ⟨?_, rfl, ?_⟩, fun q h1 h2 => ?_, fun q h1 => goL_row h1 5 0 μ⟩
      · rw [sum_nI hval]; exact nI_nn (show g 0 + p 0 + (g 1 + p 1) + (g 2 + p 2) + (g 3 + p 3) + (g 4 + p 4) < 2 ^ 31 by omega)
      · refine sumL_congr 5 0 0 (fun q _ hq => ?_)
        have hb : ¬ bz ((addL t 9 5 0 (remL 8 9 5 0 σ)) 17 t) = 0 := by rw [addL_row (by omega), remL_row (by omega)]; exact hth
        exact (hcore.2.1 t ht hb).1 q (by omega)
      · rw [addL_row h1, remL_row h2]
    · rw [if_pos ((nI_ltI (by omega) (by omega)).mpr (by omega)), if_pos rfl, if_neg (mt (nI_leI (by omega) (by omega)).mp hfit)]
      exact ⟨_, _, _, _, rfl, rfl, h, Or.inr ⟨by decide, by decide, by decide, rfl, rfl⟩, fun _ _ _ => rfl, fun _ _ => rfl⟩
  · rw [f_X3_layPicked, if_neg hsh, f_X4_lay, if_neg (show ¬ bz (μ 2 t) = 0 by rw [← h18]; exact hsh)]
    exact ⟨_, _, _, _, rfl, rfl, h, Or.inr ⟨by decide, by decide, by decide, rfl, rfl⟩, fun _ _ _ => rfl, fun _ _ => rfl⟩
