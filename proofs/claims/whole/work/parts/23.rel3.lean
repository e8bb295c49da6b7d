theorem isTill_eq (t : Int32) : f_X3_isTill t = f_X4_isTill t := by
  unfold f_X3_isTill f_X4_isTill f_X4_in
  by_cases h : t < 0
  · rw [if_pos h, if_pos h]
  · rw [if_neg h, if_neg h]
    have e : (8 ≤ t) ↔ (7 < t) := by
      rw [Int32.le_iff_toInt_le, Int32.lt_iff_toInt_lt, show (8 : Int32).toInt = 8 from rfl, show (7 : Int32).toInt = 7 from rfl]
      omega
    by_cases h2 : 8 ≤ t
    · rw [if_pos h2, if_pos (e.mp h2)]
    · rw [if_neg h2, if_neg (mt e.mpr h2)]
theorem isKind_eq (t : Int32) : f_X3_isKind t = f_X4_in t 0 4 := by
  unfold f_X3_isKind f_X4_in
  by_cases h : t < 0
  · rw [if_pos h, if_pos h]
  · rw [if_neg h, if_neg h]
    have e : (5 ≤ t) ↔ (4 < t) := by
      rw [Int32.le_iff_toInt_le, Int32.lt_iff_toInt_lt, show (5 : Int32).toInt = 5 from rfl, show (4 : Int32).toInt = 4 from rfl]
      omega
    by_cases h2 : 5 ≤ t
    · rw [if_pos h2, if_pos (e.mp h2)]
    · rw [if_neg h2, if_neg (mt e.mpr h2)]
theorem isUpTo_eq (n m : Int32) : f_X3_isUpTo n m = f_X4_in n 0 m := rfl
theorem X4_in_nn {x m : Int32} (h : ¬ f_X4_in x 0 m = 0) : ¬ x < 0 := by
  intro hx
  rw [f_X4_in, if_pos hx] at h
  exact h rfl
theorem told_0 (a : Int32) : f_X4_told 0 a = a := by rw [f_X4_told, if_pos rfl]
theorem told_f {f : Int32} (h : ¬ f = 0) (a : Int32) : f_X4_told f a = -10 - f := by rw [f_X4_told, if_neg h]
theorem rel_till {σ μ : St} (h : Rel σ μ) (t limit : Int32) : (f_X3_till σ t limit).1 = (f_X4_till μ t limit).1 ∧ Rel (f_X3_till σ t limit).2 (f_X4_till μ t limit).2 := by
  rw [f_X3_till, f_X4_till, isTill_eq, isUpTo_eq]
  by_cases c1 : f_X4_isTill t = 0
  · rw [if_pos c1, if_pos c1]; exact ⟨rfl, h.thrown⟩
  · rw [if_neg c1, if_neg c1]
    by_cases c2 : f_X4_in limit 0 200 = 0
    · rw [if_pos c2, if_pos c2]; exact ⟨rfl, h.thrown⟩
    · rw [if_neg c2, if_neg c2]
      refine ⟨rfl, ?_⟩
      have ht := (X4_isTill_n c1).2
      have hl := X4_in_n (M := 200) rfl (by decide) c2
      generalize tn t = k at ht
      obtain ⟨h1, h2, h3, h4⟩ := h
      dsimp only
      have hs : ∀ r, r ≠ 17 → r ≠ 18 → r ≠ 19 → r ≠ k → (clrL k 5 0 (up (up (up σ 17 k 1) 18 k 0) 19 k limit)) r = σ r := fun r a1 a2 a3 a4 => by
        rw [clrL_row a4, up_row a3, up_row a2, up_row a1]
      have hm : ∀ r, r ≠ 1 → r ≠ 2 → r ≠ 3 → r ≠ 4 → r ≠ 0 → (empL k 5 0 (up (up (up (up μ 0 0 0) 1 k 1) 2 k 0) 3 k limit)) r = μ r := fun r a1 a2 a3 a4 a5 => by
        rw [empL_row a4, up_row a3, up_row a2, up_row a1, up_row a5]
      refine ⟨fun t' ht' => ?_, fun t' ht' hb => ?_, fun q hq => ?_, ?_⟩
      · rw [clrL_row (by omega), clrL_row (by omega), clrL_row (by omega), empL_row (by omega), empL_row (by omega), empL_row (by omega)]
        by_cases e : t' = k
        · subst e; simp [up]
        · have := h1 t' ht'
          simp [up, e]
          exact this
      · by_cases e : t' = k
        · subst e
          have ez : ∀ q, q < 5 → (clrL t' 5 0 (up (up (up σ 17 t' 1) 18 t' 0) 19 t' limit)) t' q = 0 := fun q hq => by
            rw [clrL_at, if_pos (by omega)]
          refine ⟨fun q hq => ?_, (fun _ => 0), tn limit, fun q hq => ez q hq, ?_, Nat.zero_le _, hl.2⟩
          · rw [ez q hq, empL_at 5 0 _ (by omega) q hq, if_pos (by omega)]
          · rw [clrL_row (by omega), up_same]; exact hl.1
        · rw [hs t' (by omega) (by omega) (by omega) e, clrL_row (by omega), up_at e, up_row (by decide), up_row (by decide)]
          rw [clrL_row (by omega), up_row (by decide), up_row (by decide), up_at e] at hb
          refine ⟨fun q hq => ?_, (h2 t' ht' hb).2⟩
          rw [empL_ot (fun a ha => by omega) 5 0 _ (by omega), up_row (by decide), up_row (by decide), up_row (by decide), up_row (by decide)]
          exact (h2 t' ht' hb).1 q hq
      · rw [hs 8 (by decide) (by decide) (by decide) (by omega), empL_ot (fun a ha => by omega) 5 0 _ (by omega), up_row (by decide), up_row (by decide), up_row (by decide), up_row (by decide)]
        exact h3 q hq
      · rw [hs 20 (by decide) (by decide) (by decide) (by omega), empL_row (by decide), up_row (by decide), up_row (by decide), up_row (by decide), up_at (by decide), up_at (by decide), up_at (by decide), up_at (by decide)]
        exact h4
theorem rel_drop {σ μ : St} (h : Rel σ μ) (t : Int32) : (f_X3_drop σ t).1 = (f_X4_drop μ t).1 ∧ Rel (f_X3_drop σ t).2 (f_X4_drop μ t).2 := by
  rw [f_X3_drop, f_X4_drop, isTill_eq]
  by_cases c1 : f_X4_isTill t = 0
  · rw [if_pos c1, if_pos c1]; exact ⟨rfl, h.thrown⟩
  · rw [if_neg c1, if_neg c1]
    have ht := (X4_isTill_n c1).2
    generalize tn t = k at ht
    have hR : Rel (up σ 17 k 0) (empL k 5 0 (up (up μ 0 0 0) 1 k 0)) := by
      obtain ⟨h1, h2, h3, h4⟩ := h
      refine ⟨fun t' ht' => ?_, fun t' ht' hb => ?_, fun q hq => ?_, ?_⟩
      · rw [empL_row (by omega), empL_row (by omega), empL_row (by omega)]
        by_cases e : t' = k
        · subst e
          have := h1 t' ht'
          simp [up]
          exact this.2
        · have := h1 t' ht'
          simp [up, e]
          exact this
      · by_cases e : t' = k
        · subst e; rw [up_same] at hb; exact absurd bz_0 hb
        · rw [up_at e] at hb
          rw [up_row (by omega), up_row (by decide)]
          refine ⟨fun q hq => ?_, (h2 t' ht' hb).2⟩
          rw [empL_ot (fun a ha => by omega) 5 0 _ (by omega), up_row (by decide), up_row (by decide)]
          exact (h2 t' ht' hb).1 q hq
      · rw [up_row (by decide), empL_ot (fun a ha => by omega) 5 0 _ (by omega), up_row (by decide), up_row (by decide)]
        exact h3 q hq
      · rw [up_row (by decide), empL_row (by decide), up_row (by decide), up_at (by decide), up_at (by decide), up_at (by decide), up_at (by decide)]
        exact h4
    have h17 : bz (up μ 0 0 0 1 k) = bz (σ 17 k) := by rw [up_row (by decide)]; exact (h.1 k ht).1.symm
    rw [h17]
    split
    · exact ⟨rfl, hR⟩
    · exact ⟨rfl, hR⟩
theorem rel_set18 {σ μ : St} (h : Rel σ μ) (k : Nat) (x : Int32) : Rel (up σ 18 k x) (up μ 2 k x) := by
  obtain ⟨h1, h2, h3, h4⟩ := h
  refine ⟨fun t' ht' => ?_, fun t' ht' hb => ?_, fun q hq => ?_, ?_⟩
  · have := h1 t' ht'
    by_cases e : t' = k
    · subst e; simp [up]; exact ⟨this.1, this.2.2⟩
    · simp [up, e]; exact this
  · rw [up_row (by decide)] at hb
    rw [up_row (by omega), up_row (by decide), up_row (by decide)]
    exact h2 t' ht' hb
  · rw [up_row (by decide), up_row (by decide)]; exact h3 q hq
  · rw [up_row (by decide), up_row (by decide)]; exact h4
theorem rel_shut {σ μ : St} (h : Rel σ μ) (t is : Int32) : (f_X3_shut σ t is).1 = (f_X4_shut μ t is).1 ∧ Rel (f_X3_shut σ t is).2 (f_X4_shut μ t is).2 := by
  rw [f_X3_shut, f_X4_shut, isTill_eq]
  by_cases c1 : f_X4_isTill t = 0
  · rw [if_pos c1, if_pos c1]; exact ⟨rfl, h.thrown⟩
  · rw [if_neg c1, if_neg c1]
    have ht := (X4_isTill_n c1).2
    generalize tn t = k at ht
    rcases begin_hold h.thrown ht with ⟨e1, e2, hb⟩ | ⟨s1, m1, e1, e2, hb, hR, hs, hm⟩
    · rw [e1, e2]
      dsimp only
      rw [if_pos rfl, if_neg (by decide), told_f (by decide)]
      exact ⟨(show (-11 : Int32) = -10 - 1 by decide), h.thrown⟩
    · rw [e1, e2]
      dsimp only
      rw [if_neg (by decide), if_pos rfl]
      have h18 := (hR.1 k ht).2.1
      have hR2 := rel_set18 hR k is
      by_cases c2 : bz (s1 18 k) = 0
      · rw [if_pos c2, if_pos (show bz (m1 2 k) = 0 by rw [← h18]; exact c2)]
        obtain ⟨s2, m2, g1, g2, hR3, -, -⟩ := end_leave hR2 (x := 0) (f := 0) (Or.inl ⟨by decide, rfl⟩)
        rw [g1, g2]
        exact ⟨(told_0 0).symm, hR3⟩
      · rw [if_neg c2, if_neg (show ¬ bz (m1 2 k) = 0 by rw [← h18]; exact c2)]
        obtain ⟨s2, m2, g1, g2, hR3, -, -⟩ := end_leave hR2 (x := 1) (f := 0) (Or.inl ⟨by decide, rfl⟩)
        rw [g1, g2]
        exact ⟨(told_0 1).symm, hR3⟩
theorem rel_take {σ μ : St} (h : Rel σ μ) (t worth : Int32) : (f_X3_take σ t worth).1 = (f_X4_take μ t worth).1 ∧ Rel (f_X3_take σ t worth).2 (f_X4_take μ t worth).2 := by
  rw [f_X3_take, f_X4_take, isTill_eq, isUpTo_eq]
  by_cases c1 : f_X4_isTill t = 0
  · rw [if_pos c1, if_pos c1]; exact ⟨rfl, h.thrown⟩
  · rw [if_neg c1, if_neg c1]
    by_cases c2 : f_X4_in worth 0 10000 = 0
    · rw [if_pos c2, if_pos c2]; exact ⟨rfl, h.thrown⟩
    · rw [if_neg c2, if_neg c2]
      have ht := (X4_isTill_n c1).2
      generalize tn t = k at ht
      rcases begin_hold h.thrown ht with ⟨e1, e2, hb⟩ | ⟨s1, m1, e1, e2, hb, hR, hs, hm⟩
      · rw [e1, e2]
        dsimp only
        rw [if_pos rfl, if_neg (by decide), told_f (by decide)]
        exact ⟨(show (-11 : Int32) = -10 - 1 by decide), h.thrown⟩
      · rw [e1, e2]
        dsimp only
        rw [if_neg (by decide), if_pos rfl]
        obtain ⟨r, f, s2, m2, g1, g2, hR2, hcase, -, -⟩ := pay_pay hR ht (by rw [hs 17 (by decide)]; exact hb) (X4_in_nn c2)
        rw [g1, g2]
        dsimp only
        obtain ⟨s3, m3, g3, g4, hR3, -, hm3⟩ := end_leave hR2 (x := r) (f := f) (by rcases hcase with q | q
                                                                                    · exact Or.inl ⟨q.1, q.2.1⟩
                                                                                    · exact Or.inr ⟨q.1, q.2.1⟩)
        rw [g3, g4]
        refine ⟨?_, hR3⟩
        dsimp only
        rcases hcase with ⟨q1, q2, q3, -⟩ | ⟨q1, q2, q3⟩
        · rw [q2, told_0, hm3 5 (by decide)]; exact q3
        · rw [told_f q2]; exact q3
theorem rel_move {σ μ : St} (h : Rel σ μ) (a b worth back : Int32) : (f_X3_move σ a b worth back).1 = (f_X4_move μ a b worth back).1 ∧ Rel (f_X3_move σ a b worth back).2 (f_X4_move μ a b worth back).2 := by
  rw [f_X3_move, f_X4_move, isTill_eq, isTill_eq, isUpTo_eq]
  by_cases c1 : f_X4_isTill a = 0
  · rw [if_pos c1, if_pos c1]; exact ⟨rfl, h.thrown⟩
  · rw [if_neg c1, if_neg c1]
    by_cases c1b : f_X4_isTill b = 0
    · rw [if_pos c1b, if_pos c1b]; exact ⟨rfl, h.thrown⟩
    · rw [if_neg c1b, if_neg c1b]
      by_cases c2 : f_X4_in worth 0 10000 = 0
      · rw [if_pos c2, if_pos c2]; exact ⟨rfl, h.thrown⟩
      · rw [if_neg c2, if_neg c2]
        have ht := (X4_isTill_n c1).2
        have htb := (X4_isTill_n c1b).2
        generalize tn a = i at ht
        generalize tn b = j at htb
        rcases begin_hold h.thrown ht with ⟨e1, e2, hb⟩ | ⟨s1, m1, e1, e2, hb, hR, hs, hm⟩
        · rw [e1, e2]
          dsimp only
          rw [if_pos rfl, if_neg (by decide), told_f (by decide)]
          exact ⟨(show (-11 : Int32) = -10 - 1 by decide), h.thrown⟩
        · rw [e1, e2]
          dsimp only
          rw [if_neg (by decide), if_pos rfl, f_X3_moveWithin]
          obtain ⟨r, f, s2, m2, g1, g2, hR2, hcase, hs2, hm2⟩ := pay_pay hR ht (by rw [hs 17 (by decide)]; exact hb) (X4_in_nn c2)
          rw [g1, g2]
          dsimp only
          have h17 : s2 17 = σ 17 := (hs2 17 (by omega) (by decide) (by decide)).trans (hs 17 (by decide))
          rcases hcase with ⟨q1, q2, q3, qP, qR⟩ | ⟨q1, q2, q3⟩
          · rw [if_pos q1, if_pos q2]
            rcases begin_hold hR2 htb with ⟨e3, e4, hb3⟩ | ⟨s3, m3, e3, e4, hb3, hR3, hs3, hm3⟩
            · rw [e3, e4]
              dsimp only
              rw [if_pos rfl, if_neg (show ¬ (1 : Int32) = 0 by decide)]
              by_cases cb : bz back = 0
              · rw [if_pos cb, if_pos cb]
                dsimp only
                obtain ⟨s4, m4, g3, g4, hR4, -, -⟩ := end_leave hR2 (x := -11) (f := 1) (Or.inr ⟨by decide, by decide⟩)
                rw [g3, g4]
                dsimp only
                rw [told_f (by decide)]
                exact ⟨by decide, hR4⟩
              · rw [if_neg cb, if_neg cb]
                dsimp only
                have hRb := back_back hR2 ht (by rw [h17]; exact hb) qP qR
                obtain ⟨s4, m4, g3, g4, hR4, -, -⟩ := end_leave hRb (x := -11) (f := 1) (Or.inr ⟨by decide, by decide⟩)
                rw [g3, g4]
                dsimp only
                rw [told_f (by decide)]
                exact ⟨by decide, hR4⟩
            · rw [e3, e4]
              dsimp only
              rw [if_neg (show ¬ (1 : Int32) = 0 by decide), if_pos (show (0 : Int32) = 0 from rfl)]
              have qP3 : Pk s3 m3 5 := by
                obtain ⟨p, hp⟩ := qP
                exact ⟨p, fun k hk => by rw [hs3 9 (by decide), hm3 5 (by decide)]; exact hp k hk⟩
              have qR3 : Rst s3 i := by
                obtain ⟨g, L, w1, w2, w3⟩ := qR
                exact ⟨g, L, fun k hk => by rw [hs3 i (by omega), hs3 9 (by decide)]; exact w1 k hk, by rw [hs3 19 (by decide)]; exact w2, w3⟩
              obtain ⟨r4, f4, s4, m4, g3, g4, hR4, hcase4, hs4, hm4⟩ := lay_lay hR3 htb (by rw [hs3 17 (by decide)]; exact hb3) (show 5 ≠ 4 by decide) qP3
              rw [g3, g4]
              dsimp only
              rcases hcase4 with ⟨w1, w2, w3⟩ | ⟨w1, w2, w3, w4, w5⟩
              · obtain ⟨s5, m5, g5, g6, hR5, hs5, hm5⟩ := end_leave hR4 (x := r4) (f := f4) (Or.inl ⟨w1, w2⟩)
                rw [g5, g6]
                dsimp only
                rw [if_neg (show ¬ r4 < 0 by rw [Int32.lt_iff_toInt_lt]; rw [Int32.le_iff_toInt_le] at w1; omega), if_pos w2]
                obtain ⟨s6, m6, g7, g8, hR6, -, hm6⟩ := end_leave hR5 (x := r) (f := f4) (Or.inl ⟨q1, w2⟩)
                rw [g8]
                dsimp only
                rw [g7]
                dsimp only
                rw [w2, told_0, hm6 5 (by decide), hm5 5 (by decide), hm4 5 (by decide), hm3 5 (by decide)]
                exact ⟨q3, hR6⟩
              · subst w4
                subst w5
                obtain ⟨s5, m5, g5, g6, hR5, hs5, hm5⟩ := end_leave hR3 (x := r4) (f := f4) (Or.inr ⟨w1, w2⟩)
                rw [g5, g6]
                dsimp only
                rw [if_pos (show r4 < 0 by rw [Int32.lt_iff_toInt_lt]; rw [Int32.le_iff_toInt_le] at w1; omega), if_neg w2]
                by_cases cb : bz back = 0
                · rw [if_pos cb, if_pos cb]
                  dsimp only
                  obtain ⟨s6, m6, g7, g8, hR6, -, -⟩ := end_leave hR5 (x := r4) (f := f4) (Or.inr ⟨w1, w2⟩)
                  rw [g7, g8]
                  dsimp only
                  rw [told_f w2]
                  exact ⟨w3, hR6⟩
                · rw [if_neg cb, if_neg cb]
                  dsimp only
                  have qP5 : Pk s5 m5 5 := by
                    obtain ⟨p, hp⟩ := qP3
                    exact ⟨p, fun k hk => by rw [hs5 9 (by decide), hm5 5 (by decide)]; exact hp k hk⟩
                  have qR5 : Rst s5 i := by
                    obtain ⟨g, L, v1, v2, v3⟩ := qR3
                    exact ⟨g, L, fun k hk => by rw [hs5 i (by omega), hs5 9 (by decide)]; exact v1 k hk, by rw [hs5 19 (by decide)]; exact v2, v3⟩
                  have hRb := back_back hR5 ht (by rw [hs5 17 (by decide), hs3 17 (by decide), h17]; exact hb) qP5 qR5
                  obtain ⟨s6, m6, g7, g8, hR6, -, -⟩ := end_leave hRb (x := r4) (f := f4) (Or.inr ⟨w1, w2⟩)
                  rw [g7, g8]
                  dsimp only
                  rw [told_f w2]
                  exact ⟨w3, hR6⟩
          · rw [if_neg q1, if_neg q2]
            dsimp only
            obtain ⟨s3, m3, g3, g4, hR3, -, -⟩ := end_leave hR2 (x := r) (f := f) (Or.inr ⟨q1, q2⟩)
            rw [g3, g4]
            dsimp only
            rw [told_f q2]
            exact ⟨q3, hR3⟩
