theorem rel_put {σ μ : St} (h : Rel σ μ) (t kind n : Int32) : (f_X3_put σ t kind n).1 = (f_X4_put μ t kind n).1 ∧ Rel (f_X3_put σ t kind n).2 (f_X4_put μ t kind n).2 := by
  rw [f_X3_put, f_X4_put, isTill_eq, isKind_eq, isUpTo_eq]
  by_cases c1 : f_X4_isTill t = 0
  · rw [if_pos c1, if_pos c1]; exact ⟨rfl, h.thrown⟩
  · rw [if_neg c1, if_neg c1]
    by_cases c2 : f_X4_in kind 0 4 = 0
    · rw [if_pos c2, if_pos c2]; exact ⟨rfl, h.thrown⟩
    · rw [if_neg c2, if_neg c2]
      by_cases c3 : f_X4_in n 0 200 = 0
      · rw [if_pos c3, if_pos c3]; exact ⟨rfl, h.thrown⟩
      · rw [if_neg c3, if_neg c3]
        have ht := (X4_isTill_n c1).2
        have hk := (X4_in_n (M := 4) rfl (by decide) c2).2
        have hn := X4_in_n (M := 200) rfl (by decide) c3
        generalize tn t = i at ht
        generalize tn kind = kd at hk
        rcases begin_hold h.thrown ht with ⟨e1, e2, hb⟩ | ⟨s1, m1, e1, e2, hb, hR, hs, hm⟩
        · rw [e1, e2]
          dsimp only
          rw [if_pos rfl, if_neg (by decide), told_f (by decide)]
          exact ⟨(show (-11 : Int32) = -10 - 1 by decide), h.thrown⟩
        · rw [e1, e2]
          dsimp only
          rw [if_neg (by decide), if_pos rfl]
          obtain ⟨S, hS⟩ : ∃ S, S = addL 8 9 5 0 (up (clrL 9 5 0 s1) 9 kd n) := ⟨_, rfl⟩
          obtain ⟨M, hM⟩ : ∃ M, M = up (z7 (up m1 4 (40 + kd) (m1 4 (40 + kd) + n))) 7 kd n := ⟨_, rfl⟩
          rw [← hS, ← hM]
          have hSr : ∀ r, r ≠ 8 → r ≠ 9 → S r = s1 r := fun r a1 a2 => by rw [hS, addL_row a1, up_row a2, clrL_row a2]
          have hS9 : ∀ q, q < 5 → S 9 q = if q = kd then n else 0 := fun q hq => by
            rw [hS, addL_row (by decide)]
            by_cases e : q = kd
            · rw [e, up_same, if_pos rfl]
            · rw [up_at e, clrL_at, if_pos (by omega), if_neg e]
          have hS8 : ∀ q, q < 5 → S 8 q = if q = kd then s1 8 q + n else s1 8 q := fun q hq => by
            have h9 := hS9 q hq
            rw [hS, addL_row (by decide)] at h9
            rw [hS, addL_at (by decide), if_pos (by omega), h9, up_row (by decide), clrL_row (by decide)]
            by_cases e : q = kd
            · rw [if_pos e, if_pos e]
            · rw [if_neg e, if_neg e, Int32.add_zero]
          have hMr : ∀ r, r ≠ 4 → r ≠ 7 → M r = m1 r := fun r a1 a2 => by
            rw [hM, up_row a2]
            funext q
            show (if r = 7 then 0 else (up m1 4 (40 + kd) (m1 4 (40 + kd) + n)) r q) = m1 r q
            rw [if_neg a2, up_row a1]
          have hM7 : ∀ q, q < 5 → M 7 q = if q = kd then n else 0 := fun q hq => by
            rw [hM]
            by_cases e : q = kd
            · rw [e, up_same, if_pos rfl]
            · rw [up_at e, if_neg e]; rfl
          have hM4 : ∀ q, M 4 q = if q = 40 + kd then m1 4 q + n else m1 4 q := fun q => by
            rw [hM, up_row (by decide)]
            show (if 4 = 7 then 0 else (up m1 4 (40 + kd) (m1 4 (40 + kd) + n)) 4 q) = _
            rw [if_neg (by decide)]
            by_cases e : q = 40 + kd
            · rw [e, up_same, if_pos rfl]
            · rw [up_at e, if_neg e]
          have hR2 : Rel S M := by
            obtain ⟨h1, h2, h3, h4⟩ := hR
            refine ⟨fun t' ht' => ?_, fun t' ht' hb' => ?_, fun q hq => ?_, ?_⟩
            · rw [hSr 17 (by decide) (by decide), hSr 18 (by decide) (by decide), hSr 19 (by decide) (by decide), hMr 1 (by decide) (by decide), hMr 2 (by decide) (by decide), hMr 3 (by decide) (by decide)]
              exact h1 t' ht'
            · rw [hSr 17 (by decide) (by decide)] at hb'
              rw [hSr t' (by omega) (by omega), hSr 19 (by decide) (by decide)]
              refine ⟨fun q hq => ?_, (h2 t' ht' hb').2⟩
              rw [hM4, if_neg (by omega)]
              exact (h2 t' ht' hb').1 q hq
            · rw [hS8 q hq, hM4, h3 q hq]
              by_cases e : q = kd
              · rw [if_pos e, if_pos (by omega)]
              · rw [if_neg e, if_neg (by omega)]
            · rw [hSr 20 (by decide) (by decide), hMr 0 (by decide) (by decide)]
              exact h4
          have hPk : Pk S M 7 := by
            refine ⟨fun q => if q = kd then tn n else 0, fun q hq => ?_⟩
            rw [hS9 q hq, hM7 q hq]
            by_cases e : q = kd
            · rw [if_pos e]; simp only [if_pos e]; exact ⟨hn.1, hn.1, hn.2⟩
            · rw [if_neg e]; simp only [if_neg e]; exact ⟨rfl, rfl, Nat.zero_le _⟩
          obtain ⟨r, f, s2, m2, g1, g2, hR3, hcase, -, -⟩ := lay_lay hR2 ht (by rw [hSr 17 (by decide) (by decide), hs 17 (by decide)]; exact hb) (show 7 ≠ 4 by decide) hPk
          rw [g1, g2]
          dsimp only
          obtain ⟨s3, m3, g3, g4, hR4, -, hm3⟩ := end_leave hR3 (x := r) (f := f) (by rcases hcase with q | q
                                                                                      · exact Or.inl ⟨q.1, q.2.1⟩
                                                                                      · exact Or.inr ⟨q.1, q.2.1⟩)
          rw [g3, g4]
          refine ⟨?_, hR4⟩
          dsimp only
          rcases hcase with ⟨q1, q2, q3⟩ | ⟨q1, q2, q3, -⟩
          · rw [q2, told_0, q3]
            refine sumL_congr 5 0 0 (fun q _ _ => ?_)
            unfold rowM
            rw [hm3 4 (by decide)]
          · rw [told_f q2]; exact q3
theorem wsum_nI {f : Nat → Int32} {g : Nat → Nat} (h : ∀ k, k < 5 → f k = nI (g k)) : wsumL f 5 0 0 = nI (0 + g 0 * 1 + g 1 * 2 + g 2 * 5 + g 3 * 10 + g 4 * 20) := by
  simp only [wsumL, h 0 (by omega), h 1 (by omega), h 2 (by omega), h 3 (by omega), h 4 (by omega), wof_N, wofN]
  rw [show (0 : Int32) = nI 0 from rfl, pk_mul, pk_mul, pk_mul, pk_mul, pk_mul, nI_add, nI_add, nI_add, nI_add, nI_add]
theorem look_val {σ μ : St} (h : Rel σ μ) {t : Nat} (ht : t < 8) (hb : ¬ bz (σ 17 t) = 0) : ∀ n, n < 9 → f_X2_tell σ t (nI n) = f_X4_told_ μ t n 8 ∧ 0 ≤ f_X2_tell σ t (nI n) := by
  obtain ⟨hc, g, L, hg, hL, hsum, h200⟩ := h.2.1 t ht hb
  have h18 := (h.1 t ht).2.1
  have h19 := (h.1 t ht).2.2
  intro n hn
  match n, hn with
  | 0, _ =>
    have e : f_X2_tell σ t (nI 0) = σ t 0 := by rw [f_X2_tell, if_neg (by decide), if_neg (by decide), f_X0_tell, if_neg (by decide)]; rfl
    rw [e, f_X4_told_, if_neg (by decide)]
    refine ⟨hc 0 (by decide), ?_⟩
    rw [hg 0 (by decide)]
    exact nI_nn (by omega)
  | 1, _ =>
    have e : f_X2_tell σ t (nI 1) = σ t 1 := by rw [f_X2_tell, if_neg (by decide), if_neg (by decide), f_X0_tell, if_neg (by decide)]; rfl
    rw [e, f_X4_told_, if_neg (by decide)]
    refine ⟨hc 1 (by decide), ?_⟩
    rw [hg 1 (by decide)]
    exact nI_nn (by omega)
  | 2, _ =>
    have e : f_X2_tell σ t (nI 2) = σ t 2 := by rw [f_X2_tell, if_neg (by decide), if_neg (by decide), f_X0_tell, if_neg (by decide)]; rfl
    rw [e, f_X4_told_, if_neg (by decide)]
    refine ⟨hc 2 (by decide), ?_⟩
    rw [hg 2 (by decide)]
    exact nI_nn (by omega)
  | 3, _ =>
    have e : f_X2_tell σ t (nI 3) = σ t 3 := by rw [f_X2_tell, if_neg (by decide), if_neg (by decide), f_X0_tell, if_neg (by decide)]; rfl
    rw [e, f_X4_told_, if_neg (by decide)]
    refine ⟨hc 3 (by decide), ?_⟩
    rw [hg 3 (by decide)]
    exact nI_nn (by omega)
  | 4, _ =>
    have e : f_X2_tell σ t (nI 4) = σ t 4 := by rw [f_X2_tell, if_neg (by decide), if_neg (by decide), f_X0_tell, if_neg (by decide)]; rfl
    rw [e, f_X4_told_, if_neg (by decide)]
    refine ⟨hc 4 (by decide), ?_⟩
    rw [hg 4 (by decide)]
    exact nI_nn (by omega)
  | 5, _ =>
    have e : f_X2_tell σ t (nI 5) = sumL (σ t) 5 0 0 := by rw [f_X2_tell, if_neg (by decide), if_neg (by decide), f_X0_tell, if_pos (by decide), if_pos (by decide)]
    rw [e, f_X4_told_, if_pos (by decide), if_pos (by decide)]
    refine ⟨sumL_congr 5 0 0 (fun q _ hq => hc q (by omega)), ?_⟩
    rw [sum_nI hg]
    exact nI_nn (by omega)
  | 6, _ =>
    have e : f_X2_tell σ t (nI 6) = wsumL (σ t) 5 0 0 := by rw [f_X2_tell, if_neg (by decide), if_neg (by decide), f_X0_tell, if_pos (by decide), if_neg (by decide)]
    rw [e, f_X4_told_, if_pos (by decide), if_neg (by decide), if_pos (by decide)]
    refine ⟨wsum_eq hc, ?_⟩
    rw [wsum_nI hg]
    exact nI_nn (by omega)
  | 7, _ =>
    have e : f_X2_tell σ t (nI 7) = σ 19 t := by rw [f_X2_tell, if_pos (by decide)]
    rw [e, f_X4_told_, if_pos (by decide), if_neg (by decide), if_neg (by decide), if_pos (by decide)]
    refine ⟨h19, ?_⟩
    rw [hL]
    exact nI_nn (by omega)
  | 8, _ =>
    have e : f_X2_tell σ t (nI 8) = if bz (σ 18 t) = 0 then 0 else 1 := by rw [f_X2_tell, if_neg (by decide), if_pos (by decide)]
    have e2 : f_X4_told_ μ t 8 8 = if bz (μ 2 t) = 0 then 0 else 1 := by rw [f_X4_told_, if_pos (by decide), if_neg (by decide), if_neg (by decide), if_neg (by decide)]
    rw [e, e2, h18]
    refine ⟨rfl, ?_⟩
    split <;> decide
theorem rel_look {σ μ : St} (h : Rel σ μ) (t what : Int32) : (f_X3_look σ t what).1 = (f_X4_look μ t what).1 ∧ Rel (f_X3_look σ t what).2 (f_X4_look μ t what).2 := by
  rw [f_X3_look, f_X4_look, isTill_eq, isUpTo_eq]
  by_cases c1 : f_X4_isTill t = 0
  · rw [if_pos c1, if_pos c1]; exact ⟨rfl, h.thrown⟩
  · rw [if_neg c1, if_neg c1]
    by_cases c2 : f_X4_in what 0 8 = 0
    · rw [if_pos c2, if_pos c2]; exact ⟨rfl, h.thrown⟩
    · rw [if_neg c2, if_neg c2]
      have ht := (X4_isTill_n c1).2
      have hw := X4_in_n (M := 8) rfl (by decide) c2
      generalize tn t = i at ht
      generalize tn what = n at hw
      obtain ⟨rfl, hn⟩ := hw
      rcases begin_hold h.thrown ht with ⟨e1, e2, hb⟩ | ⟨s1, m1, e1, e2, hb, hR, hs, hm⟩
      · rw [e1, e2]
        dsimp only
        rw [if_pos rfl, if_neg (by decide), told_f (by decide)]
        exact ⟨(show (-11 : Int32) = -10 - 1 by decide), h.thrown⟩
      · rw [e1, e2]
        dsimp only
        rw [if_neg (by decide), if_pos rfl]
        have hb1 : ¬ bz (s1 17 i) = 0 := by rw [hs 17 (by decide)]; exact hb
        obtain ⟨v1, v2⟩ := look_val hR ht hb1 n (by omega)
        obtain ⟨s2, m2, g1, g2, hR2, hs2, hm2⟩ := end_leave hR (x := f_X2_tell s1 i (nI n)) (f := 0) (Or.inl ⟨v2, rfl⟩)
        rw [g1, g2]
        refine ⟨?_, hR2⟩
        dsimp only
        rw [told_0]
        have hR1 : Rel s1 m2 → True := fun _ => trivial
        obtain ⟨u1, u2⟩ := look_val hR2 ht (by rw [hs2 17 (by decide)]; exact hb1) n (by omega)
        rw [← u1]
        unfold f_X2_tell f_X0_tell
        rw [hs2 19 (by decide), hs2 18 (by decide), hs2 i (by omega)]
theorem rel_hand {σ μ : St} (h : Rel σ μ) (what : Int32) : (f_X3_hand σ what).1 = (f_X4_hand μ what).1 ∧ Rel (f_X3_hand σ what).2 (f_X4_hand μ what).2 := by
  rw [f_X3_hand, f_X4_hand, isUpTo_eq]
  by_cases c2 : f_X4_in what 0 6 = 0
  · rw [if_pos c2, if_pos c2]; exact ⟨rfl, h.thrown⟩
  · rw [if_neg c2, if_neg c2]
    refine ⟨?_, h.thrown⟩
    have hw := X4_in_n (M := 6) rfl (by decide) c2
    have hh := h.thrown.2.2.1
    dsimp only
    generalize up μ 0 0 0 = m at hh
    generalize tn what = n at hw
    obtain ⟨rfl, hn⟩ := hw
    have hn : n < 7 := by omega
    match n, hn with
    | 0, _ =>
      rw [f_X0_tell, if_neg (by decide), f_X4_told_, if_neg (by decide)]
      exact hh 0 (by decide)
    | 1, _ =>
      rw [f_X0_tell, if_neg (by decide), f_X4_told_, if_neg (by decide)]
      exact hh 1 (by decide)
    | 2, _ =>
      rw [f_X0_tell, if_neg (by decide), f_X4_told_, if_neg (by decide)]
      exact hh 2 (by decide)
    | 3, _ =>
      rw [f_X0_tell, if_neg (by decide), f_X4_told_, if_neg (by decide)]
      exact hh 3 (by decide)
    | 4, _ =>
      rw [f_X0_tell, if_neg (by decide), f_X4_told_, if_neg (by decide)]
      exact hh 4 (by decide)
    | 5, _ =>
      rw [f_X0_tell, if_pos (by decide), if_pos (by decide), f_X4_told_, if_pos (by decide), if_pos (by decide)]
      exact sumL_congr 5 0 0 (fun q _ hq => hh q (by omega))
    | 6, _ =>
      rw [f_X0_tell, if_pos (by decide), if_neg (by decide), f_X4_told_, if_pos (by decide), if_neg (by decide), if_pos (by decide)]
      exact wsum_eq (g := rowM m 8) hh
theorem there_eq {σ μ : St} (h : Rel σ μ) : ∀ (n k : Nat) (acc : Int32), k + n ≤ 8 → thereL σ n k acc = thereM μ n k acc := by
  intro n
  induction n with
  | zero => intro k acc hk; rfl
  | succ n ih =>
    intro k acc hk
    rw [thereL, thereM, (h.1 k (by omega)).1, Int32.add_zero]
    split
    · exact ih (k + 1) acc (by omega)
    · exact ih (k + 1) (acc + 1) (by omega)
theorem rel_count {σ μ : St} (h : Rel σ μ) (what : Int32) : f_X3_count σ what = (f_X4_count μ what).1 ∧ Rel σ (f_X4_count μ what).2 := by
  have ht := h.thrown
  obtain ⟨n0, n1, n2, n3⟩ := ht.2.2.2
  rw [f_X3_count, f_X4_count]
  by_cases c0 : what = 0
  · rw [if_pos c0, if_pos c0]; exact ⟨n0, ht⟩
  · rw [if_neg c0, if_neg c0]
    by_cases c1 : what = 1
    · rw [if_pos c1, if_pos c1]; exact ⟨n1, ht⟩
    · rw [if_neg c1, if_neg c1]
      by_cases c2 : what = 2
      · rw [if_pos c2, if_pos c2]; exact ⟨n3, ht⟩
      · rw [if_neg c2, if_neg c2]
        by_cases c3 : what = 3
        · rw [if_pos c3, if_pos c3]; exact ⟨there_eq ht 8 0 0 (by omega), ht⟩
        · rw [if_neg c3, if_neg c3]; exact ⟨rfl, ht⟩
