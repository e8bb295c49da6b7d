theorem rel_firstL {worth : Int32} (hw : ¬ worth < 0) : ∀ (n k : Nat) (σ μ : St), k + n ≤ 8 → Rel σ μ → (firstL worth n k σ).1 = (firstM worth n k μ).1 ∧ Rel (firstL worth n k σ).2 (firstM worth n k μ).2 := by
  have h10 : ¬ (1 : Int32) = 0 := by decide
  intro n
  induction n with
  | zero => intro k σ μ hk h; exact ⟨rfl, h⟩
  | succ n ih =>
    intro k σ μ hk h
    have ht : k < 8 := by omega
    rcases begin_hold h ht with ⟨e1, e2, hb⟩ | ⟨s1, m1, e1, e2, hb, hR, hs, hm⟩
    · have hcp : firstL worth (n + 1) k σ = firstL worth n (k + 1) σ := by simp only [firstL, f_X3_couldPay, e1, ↓reduceIte]
      have hfm : firstM worth (n + 1) k μ = firstM worth n (k + 1) μ := by simp only [firstM, e2, h10, ↓reduceIte]
      rw [hcp, hfm]
      exact ih (k + 1) σ μ (by omega) h
    · have hb1 : ¬ bz (s1 17 k) = 0 := by rw [hs 17 (by decide)]; exact hb
      have h18 := (hR.1 k ht).2.1
      by_cases c1 : bz (s1 18 k) = 0
      · obtain ⟨hc, g, L, hg, hL, hsum, h200⟩ := hR.2.1 k ht hb1
        have p1 := pickL_1 (t := k) (by omega) 5 worth s1
        have p3 := fun q (hq : q ≠ 9) => pickL_row (t := k) hq 5 worth s1
        obtain ⟨pr, s2, hP⟩ : ∃ a b, pickL k 5 worth s1 = (a, b) := ⟨_, _, rfl⟩
        rw [hP] at p1
        have p3 : ∀ q, q ≠ 9 → s2 q = s1 q := fun q hq => by have := p3 q hq; rw [hP] at this; exact this
        dsimp only at p1
        have hR2 : Rel s2 m1 := hR.rows (fun r hr => p3 r (by omega)) (fun _ _ => rfl)
        obtain ⟨s3, m2, g1, g2, hR3, hs3, hm2⟩ := end_leave hR2 (x := 0) (f := 0) (Or.inl ⟨by decide, rfl⟩)
        have c2m : bz (m2 2 k) = 0 := by rw [hm2 2 (by decide), ← h18]; exact c1
        have d1 := lacksL_1 (t := k) 5 (by omega) worth m2
        have d3 := fun q (hq : q ≠ 5) => lacksL_row (t := k) hq 5 worth m2
        have hrow : pkR (rowM m2 k) 5 worth = pkR (s1 k) 5 worth := pkR_congr 5 worth (fun q hq => by
          unfold rowM
          rw [hm2 4 (by decide)]
          exact (hc q hq).symm)
        obtain ⟨mr, m3, hM⟩ : ∃ a b, lacksL k 5 worth m2 = (a, b) := ⟨_, _, rfl⟩
        rw [hrow, ← p1, hM] at d1
        have d3 : ∀ q, q ≠ 5 → m3 q = m2 q := fun q hq => by have := d3 q hq; rw [hM] at this; exact this
        dsimp only at d1
        subst d1
        have hR4 : Rel s3 m3 := hR3.rows (fun _ _ => rfl) (fun r hr => d3 r (by omega))
        by_cases c2 : mr = 0
        · have hcp : firstL worth (n + 1) k σ = (nI k, s3) := by simp only [firstL, f_X3_couldPay, f_X3_pick, e1, h10, if_pos c1, hP, if_pos c2, g1, ↓reduceIte]
          have hfm : firstM worth (n + 1) k μ = (nI k, m3) := by simp only [firstM, e2, g2, if_pos c2m, hM, if_pos c2, ↓reduceIte]
          rw [hcp, hfm]
          exact ⟨rfl, hR4⟩
        · have hcp : firstL worth (n + 1) k σ = firstL worth n (k + 1) s3 := by simp only [firstL, f_X3_couldPay, f_X3_pick, e1, h10, if_pos c1, hP, if_neg c2, g1, ↓reduceIte]
          have hfm : firstM worth (n + 1) k μ = firstM worth n (k + 1) m3 := by simp only [firstM, e2, g2, if_pos c2m, hM, if_neg c2, ↓reduceIte]
          rw [hcp, hfm]
          exact ih (k + 1) s3 m3 (by omega) hR4
      · obtain ⟨s3, m2, g1, g2, hR3, hs3, hm2⟩ := end_leave hR (x := 0) (f := 0) (Or.inl ⟨by decide, rfl⟩)
        have c2m : ¬ bz (m2 2 k) = 0 := by rw [hm2 2 (by decide), ← h18]; exact c1
        have hcp : firstL worth (n + 1) k σ = firstL worth n (k + 1) s3 := by simp only [firstL, f_X3_couldPay, e1, h10, if_neg c1, g1, ↓reduceIte]
        have hfm : firstM worth (n + 1) k μ = firstM worth n (k + 1) m2 := by simp only [firstM, e2, g2, if_neg c2m, ↓reduceIte]
        rw [hcp, hfm]
        exact ih (k + 1) s3 m2 (by omega) hR3
theorem rel_first {σ μ : St} (h : Rel σ μ) (worth : Int32) : (f_X3_first σ worth).1 = (f_X4_first μ worth).1 ∧ Rel (f_X3_first σ worth).2 (f_X4_first μ worth).2 := by
  rw [f_X3_first, f_X4_first, isUpTo_eq]
  by_cases c2 : f_X4_in worth 0 10000 = 0
  · rw [if_pos c2, if_pos c2]; exact ⟨rfl, h.thrown⟩
  · rw [if_neg c2, if_neg c2]
    exact rel_firstL (X4_in_nn c2) 8 0 σ (up μ 0 0 0) (by omega) h.thrown
theorem up_self (σ : St) (r k : Nat) : up σ r k (σ r k) = σ := by
  funext a b
  unfold up
  split
  · rename_i h; rw [h.1, h.2]
  · rfl
theorem half_neg {d : Nat} (hd : d < 2 ^ 30) : (-(nI d)) / 2 = -(nI (d / 2)) := by
  apply Int32.toInt_inj.mp
  have h1 : (nI d).toInt = d := nI_toInt (by omega)
  have h2 : (nI (d / 2)).toInt = (d / 2 : Nat) := nI_toInt (by omega)
  have h3 : (-(nI d)).toInt = -(d : Int) := by
    rw [Int32.toInt_neg, h1]
    exact Int.bmod_eq_of_le (by omega) (by omega)
  have h4 : (-(nI (d / 2))).toInt = -((d / 2 : Nat) : Int) := by
    rw [Int32.toInt_neg, h2]
    exact Int.bmod_eq_of_le (by omega) (by omega)
  rw [h4, Int32.toInt_div_of_ne_right _ _ (by decide), h3, show (2 : Int32).toInt = 2 from rfl, Int.neg_tdiv]
  congr 1
/-- so many coins of a kind from one till to another -/
theorem rel_give {σ μ : St} (h : Rel σ μ) {fr to kd : Nat} (hfr : fr < 8) (hto : to < 8) (hne : fr ≠ to) (hkd : kd < 5) (hb1 : ¬ bz (σ 17 fr) = 0) (hb2 : ¬ bz (σ 17 to) = 0) {g g2 : Nat → Nat} {n L2 : Nat} {L : Nat} (hg : ∀ k, k < 5 → σ fr k = nI (g k)) (hL : σ 19 fr = nI L) (hsum : g 0 + g 1 + g 2 + g 3 + g 4 ≤ L) (hL200 : L ≤ 200) (hg2 : ∀ k, k < 5 → σ to k = nI (g2 k)) (hL2 : σ 19 to = nI L2) (hn : n ≤ g kd) (hfit : g2 0 + g2 1 + g2 2 + g2 3 + g2 4 + n ≤ L2) (h200 : L2 ≤ 200) :
    Rel (up (up σ fr kd (σ fr kd - nI n)) to kd ((up σ fr kd (σ fr kd - nI n)) to kd + nI n)) (up (up μ 4 (5 * fr + kd) (μ 4 (5 * fr + kd) - nI n)) 4 (5 * to + kd) ((up μ 4 (5 * fr + kd) (μ 4 (5 * fr + kd) - nI n)) 4 (5 * to + kd) + nI n)) := by
  obtain ⟨h1, h2, h3, h4⟩ := h
  obtain ⟨S, hS⟩ : ∃ S, S = up (up σ fr kd (σ fr kd - nI n)) to kd ((up σ fr kd (σ fr kd - nI n)) to kd + nI n) := ⟨_, rfl⟩
  obtain ⟨M, hM⟩ : ∃ M, M = up (up μ 4 (5 * fr + kd) (μ 4 (5 * fr + kd) - nI n)) 4 (5 * to + kd) ((up μ 4 (5 * fr + kd) (μ 4 (5 * fr + kd) - nI n)) 4 (5 * to + kd) + nI n) := ⟨_, rfl⟩
  rw [← hS, ← hM]
  have hSr : ∀ r, r ≠ fr → r ≠ to → S r = σ r := fun r a1 a2 => by rw [hS, up_row a2, up_row a1]
  have hMr : ∀ r, r ≠ 4 → M r = μ r := fun r a1 => by rw [hM, up_row a1, up_row a1]
  have hMo : ∀ q, q ≠ 5 * fr + kd → q ≠ 5 * to + kd → M 4 q = μ 4 q := fun q a1 a2 => by rw [hM, up_at a2, up_at a1]
  have hSf : S fr = upd (σ fr) kd (nI (g kd - n)) := by
    rw [hS, up_row hne, up_upd, hg kd hkd, pk_sub hn]
  have hSt : S to = upd (σ to) kd (nI (g2 kd + n)) := by
    rw [hS, up_upd, up_row (Ne.symm hne), hg2 kd hkd, nI_add]
  have hMf : M 4 (5 * fr + kd) = nI (g kd - n) := by
    rw [hM, up_at (by omega), up_same, ← (h2 fr hfr hb1).1 kd hkd, hg kd hkd, pk_sub hn]
  have hMt : M 4 (5 * to + kd) = nI (g2 kd + n) := by
    rw [hM, up_same, up_at (by omega), ← (h2 to hto hb2).1 kd hkd, hg2 kd hkd, nI_add]
  refine ⟨fun t' ht' => ?_, fun t' ht' hb => ?_, fun q hq => ?_, ?_⟩
  · rw [hSr 17 (by omega) (by omega), hSr 18 (by omega) (by omega), hSr 19 (by omega) (by omega), hMr 1 (by decide), hMr 2 (by decide), hMr 3 (by decide)]; exact h1 t' ht'
  · rw [hSr 17 (by omega) (by omega)] at hb
    rw [hSr 19 (by omega) (by omega)]
    have hc := (h2 t' ht' hb).1
    by_cases e1 : t' = fr
    · subst e1
      refine ⟨fun q hq => ?_, (fun q => if q = kd then g kd - n else g q), L, fun q hq => ?_, hL, ?_, hL200⟩
      · by_cases e : q = kd
        · rw [e, hSf, hMf]; simp [upd]
        · rw [hSf, hMo _ (by omega) (by omega)]; simp only [upd, if_neg e]; exact hc q hq
      · by_cases e : q = kd
        · rw [hSf]; simp [upd, e]
        · rw [hSf]; simp only [upd, if_neg e]; exact hg q hq
      · rcases lt5 hkd with rfl | rfl | rfl | rfl | rfl <;> simp <;> omega
    · by_cases e2 : t' = to
      · subst e2
        refine ⟨fun q hq => ?_, (fun q => if q = kd then g2 kd + n else g2 q), L2, fun q hq => ?_, hL2, ?_, h200⟩
        · by_cases e : q = kd
          · rw [e, hSt, hMt]; simp [upd]
          · rw [hSt, hMo _ (by omega) (by omega)]; simp only [upd, if_neg e]; exact hc q hq
        · by_cases e : q = kd
          · rw [hSt]; simp [upd, e]
          · rw [hSt]; simp only [upd, if_neg e]; exact hg2 q hq
        · rcases lt5 hkd with rfl | rfl | rfl | rfl | rfl <;> simp <;> omega
      · rw [hSr t' e1 e2]
        refine ⟨fun q hq => ?_, (h2 t' ht' hb).2⟩
        rw [hMo _ (by omega) (by omega)]
        exact hc q hq
  · rw [hSr 8 (by omega) (by omega), hMo _ (by omega) (by omega)]; exact h3 q hq
  · rw [hSr 20 (by omega) (by omega), hMr 0 (by decide)]; exact h4
