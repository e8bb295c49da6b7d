theorem sub_nI {x y : Nat} (h : x ≤ y) : nI x - nI y = -(nI (y - x)) := by
  have e : nI y = nI x + nI (y - x) := by rw [nI_add]; congr 1; omega
  rw [e, Int32.sub_eq_add_neg, Int32.neg_add, Int32.sub_eq_add_neg (-(nI x)), ← Int32.add_assoc, ← Int32.sub_eq_add_neg (nI x) (nI x), Int32.sub_self, Int32.zero_add]
theorem neg_nn {k : Nat} (h0 : 0 < k) (hk : k < 2 ^ 30) : ¬ 0 ≤ -(nI k) := by
  rw [Int32.le_iff_toInt_le, Int32.toInt_neg, nI_toInt (by omega), Int.bmod_eq_of_le (by omega) (by omega)]
  show ¬ (0 : Int) ≤ -(k : Int)
  omega
theorem z_give (σ : St) (fr to kd : Nat) : up (up σ fr kd (σ fr kd - nI 0)) to kd ((up σ fr kd (σ fr kd - nI 0)) to kd + nI 0) = σ := by
  rw [show nI 0 = (0 : Int32) from rfl, Int32.sub_zero, up_self, Int32.add_zero, up_self]
theorem z_give4 (σ : St) (p q : Nat) : up (up σ 4 p (σ 4 p - nI 0)) 4 q ((up σ 4 p (σ 4 p - nI 0)) 4 q + nI 0) = σ := by
  rw [show nI 0 = (0 : Int32) from rfl, Int32.sub_zero, up_self, Int32.add_zero, up_self]
theorem rel_share {σ μ : St} (h : Rel σ μ) (a b kind : Int32) : (f_X3_share σ a b kind).1 = (f_X4_share μ a b kind).1 ∧ Rel (f_X3_share σ a b kind).2 (f_X4_share μ a b kind).2 := by
  have h10 : ¬ (1 : Int32) = 0 := by decide
  rw [f_X3_share, f_X4_share, isTill_eq, isTill_eq, isKind_eq]
  by_cases c1 : f_X4_isTill a = 0
  · rw [if_pos c1, if_pos c1]; exact ⟨rfl, h.thrown⟩
  · rw [if_neg c1, if_neg c1]
    by_cases c1b : f_X4_isTill b = 0
    · rw [if_pos c1b, if_pos c1b]; exact ⟨rfl, h.thrown⟩
    · rw [if_neg c1b, if_neg c1b]
      by_cases c2 : f_X4_in kind 0 4 = 0
      · rw [if_pos c2, if_pos c2]; exact ⟨rfl, h.thrown⟩
      · rw [if_neg c2, if_neg c2]
        have hi := (X4_isTill_n c1).2
        have hj := (X4_isTill_n c1b).2
        have hkd := (X4_in_n (M := 4) rfl (by decide) c2).2
        generalize tn a = i at hi
        generalize tn b = j at hj
        generalize tn kind = kd at hkd
        have hkd : kd < 5 := by omega
        rcases begin_hold h.thrown hi with ⟨e1, e2, hb⟩ | ⟨s1, m1, e1, e2, hb, hR, hs, hm⟩
        · rw [e1, e2]
          dsimp only
          rw [if_pos rfl, if_neg h10, told_f h10]
          exact ⟨(show (-11 : Int32) = -10 - 1 by decide), h.thrown⟩
        · rw [e1, e2]
          dsimp only
          rw [if_neg h10, if_pos rfl]
          rcases begin_hold hR hj with ⟨e3, e4, hb3⟩ | ⟨s2, m2, e3, e4, hb3, hR2, hs2, hm2⟩
          · rw [e3, e4]
            dsimp only
            rw [if_pos rfl, if_neg h10]
            obtain ⟨s3, m3, g1, g2, hR3, -, -⟩ := end_leave hR (x := -11) (f := 1) (Or.inr ⟨by decide, by decide⟩)
            rw [g1, g2]
            dsimp only
            rw [told_f h10]
            exact ⟨(show (-11 : Int32) = -10 - 1 by decide), hR3⟩
          · rw [e3, e4]
            dsimp only
            rw [if_neg h10, if_pos rfl]
            have hbi : ¬ bz (s2 17 i) = 0 := by rw [hs2 17 (by decide), hs 17 (by decide)]; exact hb
            have hbj : ¬ bz (s2 17 j) = 0 := by rw [hs2 17 (by decide)]; exact hb3
            obtain ⟨hci, gi, Li, hgi, hLi, hsi, h2i⟩ := hR2.2.1 i hi hbi
            obtain ⟨hcj, gj, Lj, hgj, hLj, hsj, h2j⟩ := hR2.2.1 j hj hbj
            have hx : m2 4 (5 * i + kd) = nI (gi kd) := (hci kd hkd).symm.trans (hgi kd hkd)
            have hy : m2 4 (5 * j + kd) = nI (gj kd) := (hcj kd hkd).symm.trans (hgj kd hkd)
            have hxb : gi kd ≤ 200 := by rcases lt5 hkd with rfl | rfl | rfl | rfl | rfl <;> omega
            have hyb : gj kd ≤ 200 := by rcases lt5 hkd with rfl | rfl | rfl | rfl | rfl <;> omega
            have h18i := (hR2.1 i hi).2.1
            have h18j := (hR2.1 j hj).2.1
            have h19i := (hR2.1 i hi).2.2
            have h19j := (hR2.1 j hj).2.2
            have sXi : sumL (s2 i) 5 0 0 = nI (gi 0 + gi 1 + gi 2 + gi 3 + gi 4) := sum_nI hgi
            have sXj : sumL (s2 j) 5 0 0 = nI (gj 0 + gj 1 + gj 2 + gj 3 + gj 4) := sum_nI hgj
            have sMi : sumL (rowM m2 i) 5 0 0 = nI (gi 0 + gi 1 + gi 2 + gi 3 + gi 4) := sum_nI (fun k hk => (hci k hk).symm.trans (hgi k hk))
            have sMj : sumL (rowM m2 j) 5 0 0 = nI (gj 0 + gj 1 + gj 2 + gj 3 + gj 4) := sum_nI (fun k hk => (hcj k hk).symm.trans (hgj k hk))
            have fin : ∀ (S M : St) (r f n : Int32), Rel S M → ((0 ≤ r ∧ f = 0) ∨ (¬ 0 ≤ r ∧ ¬ f = 0)) → r = f_X4_told f n → ∃ S1 S2 M1 M2 : St, f_X3_end S r = (r, S1) ∧ f_X3_end S1 r = (r, S2) ∧ f_X4_leave M f = (f, M1) ∧ f_X4_leave M1 f = (f, M2) ∧ Rel S2 M2 := by
              intro S M r f n hSM hrf _
              obtain ⟨S1, M1, g1, g2, hR3, -, -⟩ := end_leave hSM hrf
              obtain ⟨S2, M2, g3, g4, hR4, -, -⟩ := end_leave hR3 hrf
              exact ⟨S1, S2, M1, M2, g1, g3, g2, g4, hR4⟩
            by_cases hxy : gi kd ≤ gj kd
            · have hc : m2 4 (5 * i + kd) ≤ m2 4 (5 * j + kd) := by rw [hx, hy]; exact (nI_leI (by omega) (by omega)).mpr hxy
              by_cases ci : bz (s2 18 i) = 0
              · have mi : bz (m2 2 i) = 0 := by rw [← h18i]; exact ci
                by_cases cj : bz (s2 18 j) = 0
                · have mj : bz (m2 2 j) = 0 := by rw [← h18j]; exact cj
                  have hn : ((m2 4 (5 * j + kd) - m2 4 (5 * i + kd)) / 2) = nI ((gj kd - gi kd) / 2) := by rw [hx, hy, pk_sub (by omega), show (2 : Int32) = nI 2 from rfl, pk_div (by omega) (by decide) (by decide)]
                  obtain ⟨k, hk⟩ : ∃ k, k = (gj kd - gi kd) / 2 := ⟨_, rfl⟩
                  rw [← hk] at hn
                  have hh : (s2 i kd - s2 j kd) / 2 = -(nI k) := by rw [hgi kd hkd, hgj kd hkd, sub_nI hxy, half_neg (by omega), hk]
                  by_cases hk0 : k = 0
                  · subst hk0
                    rw [show -(nI 0) = nI 0 by decide] at hh
                    have hX : f_X3_halve s2 i j kd = (nI 0, s2) := by
                      rw [f_X3_halve, if_pos ci, if_pos cj, hh, if_pos (by decide), f_X3_give, f_X2_hasRoomFor, sXj, hLj, nI_add, if_neg (mt (nI_ltI (by omega) (by omega)).mp (by omega)), if_neg h10, z_give]
                    obtain ⟨S1, S2, M1, M2, q1, q2, q3, q4, hR4⟩ := fin s2 m2 (nI 0) 0 (nI 0) hR2 (Or.inl ⟨by decide, rfl⟩) (told_0 _).symm
                    rw [hX]
                    dsimp only
                    rw [q1]
                    dsimp only
                    rw [q2]
                    dsimp only
                    rw [if_pos hc, if_pos mi, if_pos mj, hn, if_pos (by decide), z_give4]
                    rw [q3]
                    dsimp only
                    rw [q4]
                    dsimp only
                    exact ⟨(told_0 _).symm, hR4⟩
                  · have hij : j ≠ i := fun e => by subst e; have hq := (nI_eq (a := gi kd) (b := gj kd) (by omega) (by omega)).mp (hx.symm.trans hy); omega
                    by_cases hfit : gi 0 + gi 1 + gi 2 + gi 3 + gi 4 + k ≤ Li
                    · have hG := rel_give hR2 (fr := j) (to := i) hj hi hij hkd hbj hbi hgj hLj hsj h2j hgi hLi (n := k) (by omega) hfit h2i
                      have hX : f_X3_halve s2 i j kd = (nI k, up (up s2 j kd (s2 j kd - nI k)) i kd ((up s2 j kd (s2 j kd - nI k)) i kd + nI k)) := by
                        rw [f_X3_halve, if_pos ci, if_pos cj, hh, if_neg (neg_nn (by omega) (by omega)), Int32.neg_neg, f_X3_give, f_X2_hasRoomFor, sXi, hLi, nI_add, if_neg (mt (nI_ltI (by omega) (by omega)).mp (by omega)), if_neg h10]
                      obtain ⟨S1, S2, M1, M2, q1, q2, q3, q4, hR4⟩ := fin (up (up s2 j kd (s2 j kd - nI k)) i kd ((up s2 j kd (s2 j kd - nI k)) i kd + nI k)) (up (up m2 4 (5 * j + kd) (m2 4 (5 * j + kd) - nI k)) 4 (5 * i + kd) ((up m2 4 (5 * j + kd) (m2 4 (5 * j + kd) - nI k)) 4 (5 * i + kd) + nI k)) (nI k) 0 (nI k) hG (Or.inl ⟨nI_nn (by omega), rfl⟩) (told_0 _).symm
                      rw [hX]
                      dsimp only
                      rw [q1]
                      dsimp only
                      rw [q2]
                      dsimp only
                      rw [if_pos hc, if_pos mi, if_pos mj, hn, if_neg (nI_nle (by omega) (by omega)), if_pos (show sumL (rowM m2 i) 5 0 0 + nI k ≤ m2 3 i by rw [sMi, ← h19i, hLi, nI_add]; exact (nI_leI (by omega) (by omega)).mpr hfit)]
                      rw [q3]
                      dsimp only
                      rw [q4]
                      dsimp only
                      exact ⟨(told_0 _).symm, hR4⟩
                    · have hX : f_X3_halve s2 i j kd = (-14, s2) := by
                        rw [f_X3_halve, if_pos ci, if_pos cj, hh, if_neg (neg_nn (by omega) (by omega)), Int32.neg_neg, f_X3_give, f_X2_hasRoomFor, sXi, hLi, nI_add, if_pos ((nI_ltI (by omega) (by omega)).mpr (by omega)), if_pos rfl]
                      obtain ⟨S1, S2, M1, M2, q1, q2, q3, q4, hR4⟩ := fin s2 m2 (-14) 4 (nI k) hR2 (Or.inr ⟨by decide, by decide⟩) (show (-14 : Int32) = f_X4_told 4 _ by rw [told_f (by decide)]; decide)
                      rw [hX]
                      dsimp only
                      rw [q1]
                      dsimp only
                      rw [q2]
                      dsimp only
                      rw [if_pos hc, if_pos mi, if_pos mj, hn, if_neg (nI_nle (by omega) (by omega)), if_neg (show ¬ sumL (rowM m2 i) 5 0 0 + nI k ≤ m2 3 i by rw [sMi, ← h19i, hLi, nI_add]; exact mt (nI_leI (by omega) (by omega)).mp hfit)]
                      rw [q3]
                      dsimp only
                      rw [q4]
                      dsimp only
                      exact ⟨(show (-14 : Int32) = f_X4_told 4 _ by rw [told_f (by decide)]; decide), hR4⟩
                · have mj : ¬ bz (m2 2 j) = 0 := by rw [← h18j]; exact cj
                  have hX : f_X3_halve s2 i j kd = (-12, s2) := by rw [f_X3_halve, if_pos ci, if_neg cj]
                  obtain ⟨S1, S2, M1, M2, q1, q2, q3, q4, hR4⟩ := fin s2 m2 (-12) 2 ((m2 4 (5 * j + kd) - m2 4 (5 * i + kd)) / 2) hR2 (Or.inr ⟨by decide, by decide⟩) (show (-12 : Int32) = f_X4_told 2 _ by rw [told_f (by decide)]; decide)
                  rw [hX]
                  dsimp only
                  rw [q1]
                  dsimp only
                  rw [q2]
                  dsimp only
                  rw [if_pos hc, if_pos mi, if_neg mj]
                  rw [q3]
                  dsimp only
                  rw [q4]
                  dsimp only
                  exact ⟨(show (-12 : Int32) = f_X4_told 2 _ by rw [told_f (by decide)]; decide), hR4⟩
              · have mi : ¬ bz (m2 2 i) = 0 := by rw [← h18i]; exact ci
                have hX : f_X3_halve s2 i j kd = (-12, s2) := by rw [f_X3_halve, if_neg ci]
                obtain ⟨S1, S2, M1, M2, q1, q2, q3, q4, hR4⟩ := fin s2 m2 (-12) 2 ((m2 4 (5 * j + kd) - m2 4 (5 * i + kd)) / 2) hR2 (Or.inr ⟨by decide, by decide⟩) (show (-12 : Int32) = f_X4_told 2 _ by rw [told_f (by decide)]; decide)
                rw [hX]
                dsimp only
                rw [q1]
                dsimp only
                rw [q2]
                dsimp only
                rw [if_pos hc, if_neg mi]
                rw [q3]
                dsimp only
                rw [q4]
                dsimp only
                exact ⟨(show (-12 : Int32) = f_X4_told 2 _ by rw [told_f (by decide)]; decide), hR4⟩
            · have hc : ¬ m2 4 (5 * i + kd) ≤ m2 4 (5 * j + kd) := by rw [hx, hy]; exact mt (nI_leI (by omega) (by omega)).mp hxy
              by_cases ci : bz (s2 18 i) = 0
              · have mi : bz (m2 2 i) = 0 := by rw [← h18i]; exact ci
                by_cases cj : bz (s2 18 j) = 0
                · have mj : bz (m2 2 j) = 0 := by rw [← h18j]; exact cj
                  have hn : ((m2 4 (5 * i + kd) - m2 4 (5 * j + kd)) / 2) = nI ((gi kd - gj kd) / 2) := by rw [hx, hy, pk_sub (by omega), show (2 : Int32) = nI 2 from rfl, pk_div (by omega) (by decide) (by decide)]
                  obtain ⟨k, hk⟩ : ∃ k, k = (gi kd - gj kd) / 2 := ⟨_, rfl⟩
                  rw [← hk] at hn
                  have hh : (s2 i kd - s2 j kd) / 2 = nI k := by rw [hgi kd hkd, hgj kd hkd, pk_sub (by omega), show (2 : Int32) = nI 2 from rfl, pk_div (by omega) (by decide) (by decide), hk]
                  by_cases hk0 : k = 0
                  · subst hk0
                    have hX : f_X3_halve s2 i j kd = (nI 0, s2) := by
                      rw [f_X3_halve, if_pos ci, if_pos cj, hh, if_pos (by decide), f_X3_give, f_X2_hasRoomFor, sXj, hLj, nI_add, if_neg (mt (nI_ltI (by omega) (by omega)).mp (by omega)), if_neg h10, z_give]
                    obtain ⟨S1, S2, M1, M2, q1, q2, q3, q4, hR4⟩ := fin s2 m2 (nI 0) 0 (nI 0) hR2 (Or.inl ⟨by decide, rfl⟩) (told_0 _).symm
                    rw [hX]
                    dsimp only
                    rw [q1]
                    dsimp only
                    rw [q2]
                    dsimp only
                    rw [if_neg hc, if_pos mi, if_pos mj, hn, if_pos (by decide), z_give4]
                    rw [q3]
                    dsimp only
                    rw [q4]
                    dsimp only
                    exact ⟨(told_0 _).symm, hR4⟩
                  · have hij : i ≠ j := fun e => by subst e; have hq := (nI_eq (a := gi kd) (b := gj kd) (by omega) (by omega)).mp (hx.symm.trans hy); omega
                    by_cases hfit : gj 0 + gj 1 + gj 2 + gj 3 + gj 4 + k ≤ Lj
                    · have hG := rel_give hR2 (fr := i) (to := j) hi hj hij hkd hbi hbj hgi hLi hsi h2i hgj hLj (n := k) (by omega) hfit h2j
                      have hX : f_X3_halve s2 i j kd = (nI k, up (up s2 i kd (s2 i kd - nI k)) j kd ((up s2 i kd (s2 i kd - nI k)) j kd + nI k)) := by
                        rw [f_X3_halve, if_pos ci, if_pos cj, hh, if_pos (nI_nn (by omega)), f_X3_give, f_X2_hasRoomFor, sXj, hLj, nI_add, if_neg (mt (nI_ltI (by omega) (by omega)).mp (by omega)), if_neg h10]
                      obtain ⟨S1, S2, M1, M2, q1, q2, q3, q4, hR4⟩ := fin (up (up s2 i kd (s2 i kd - nI k)) j kd ((up s2 i kd (s2 i kd - nI k)) j kd + nI k)) (up (up m2 4 (5 * i + kd) (m2 4 (5 * i + kd) - nI k)) 4 (5 * j + kd) ((up m2 4 (5 * i + kd) (m2 4 (5 * i + kd) - nI k)) 4 (5 * j + kd) + nI k)) (nI k) 0 (nI k) hG (Or.inl ⟨nI_nn (by omega), rfl⟩) (told_0 _).symm
                      rw [hX]
                      dsimp only
                      rw [q1]
                      dsimp only
                      rw [q2]
                      dsimp only
                      rw [if_neg hc, if_pos mi, if_pos mj, hn, if_neg (nI_nle (by omega) (by omega)), if_pos (show sumL (rowM m2 j) 5 0 0 + nI k ≤ m2 3 j by rw [sMj, ← h19j, hLj, nI_add]; exact (nI_leI (by omega) (by omega)).mpr hfit)]
                      rw [q3]
                      dsimp only
                      rw [q4]
                      dsimp only
                      exact ⟨(told_0 _).symm, hR4⟩
                    · have hX : f_X3_halve s2 i j kd = (-14, s2) := by
                        rw [f_X3_halve, if_pos ci, if_pos cj, hh, if_pos (nI_nn (by omega)), f_X3_give, f_X2_hasRoomFor, sXj, hLj, nI_add, if_pos ((nI_ltI (by omega) (by omega)).mpr (by omega)), if_pos rfl]
                      obtain ⟨S1, S2, M1, M2, q1, q2, q3, q4, hR4⟩ := fin s2 m2 (-14) 4 (nI k) hR2 (Or.inr ⟨by decide, by decide⟩) (show (-14 : Int32) = f_X4_told 4 _ by rw [told_f (by decide)]; decide)
                      rw [hX]
                      dsimp only
                      rw [q1]
                      dsimp only
                      rw [q2]
                      dsimp only
                      rw [if_neg hc, if_pos mi, if_pos mj, hn, if_neg (nI_nle (by omega) (by omega)), if_neg (show ¬ sumL (rowM m2 j) 5 0 0 + nI k ≤ m2 3 j by rw [sMj, ← h19j, hLj, nI_add]; exact mt (nI_leI (by omega) (by omega)).mp hfit)]
                      rw [q3]
                      dsimp only
                      rw [q4]
                      dsimp only
                      exact ⟨(show (-14 : Int32) = f_X4_told 4 _ by rw [told_f (by decide)]; decide), hR4⟩
                · have mj : ¬ bz (m2 2 j) = 0 := by rw [← h18j]; exact cj
                  have hX : f_X3_halve s2 i j kd = (-12, s2) := by rw [f_X3_halve, if_pos ci, if_neg cj]
                  obtain ⟨S1, S2, M1, M2, q1, q2, q3, q4, hR4⟩ := fin s2 m2 (-12) 2 ((m2 4 (5 * i + kd) - m2 4 (5 * j + kd)) / 2) hR2 (Or.inr ⟨by decide, by decide⟩) (show (-12 : Int32) = f_X4_told 2 _ by rw [told_f (by decide)]; decide)
                  rw [hX]
                  dsimp only
                  rw [q1]
                  dsimp only
                  rw [q2]
                  dsimp only
                  rw [if_neg hc, if_pos mi, if_neg mj]
                  rw [q3]
                  dsimp only
                  rw [q4]
                  dsimp only
                  exact ⟨(show (-12 : Int32) = f_X4_told 2 _ by rw [told_f (by decide)]; decide), hR4⟩
              · have mi : ¬ bz (m2 2 i) = 0 := by rw [← h18i]; exact ci
                have hX : f_X3_halve s2 i j kd = (-12, s2) := by rw [f_X3_halve, if_neg ci]
                obtain ⟨S1, S2, M1, M2, q1, q2, q3, q4, hR4⟩ := fin s2 m2 (-12) 2 ((m2 4 (5 * i + kd) - m2 4 (5 * j + kd)) / 2) hR2 (Or.inr ⟨by decide, by decide⟩) (show (-12 : Int32) = f_X4_told 2 _ by rw [told_f (by decide)]; decide)
                rw [hX]
                dsimp only
                rw [q1]
                dsimp only
                rw [q2]
                dsimp only
                rw [if_neg hc, if_neg mi]
                rw [q3]
                dsimp only
                rw [q4]
                dsimp only
                exact ⟨(show (-12 : Int32) = f_X4_told 2 _ by rw [told_f (by decide)]; decide), hR4⟩
