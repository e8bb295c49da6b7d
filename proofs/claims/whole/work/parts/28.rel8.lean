set_option maxHeartbeats 4000000 in
theorem pass_within {x len h n : Nat} {w back : Int32} (hw : ¬ w < 0) (hlen : len ≤ 6) (hhl : h < len) (hd : (digN (len - (h + 1)) x % 10) < 8) {σ m1 μ0 : St} (hR : Rel σ (keepL (digN (len - (h + 1)) x % 10) h 5 0 m1)) (hK : Kp x len (h + 1) σ (keepL (digN (len - (h + 1)) x % 10) h 5 0 m1)) (hb : ¬ bz (σ 17 (digN (len - (h + 1)) x % 10)) = 0) (hP : h = 0 ∨ Pk σ (keepL (digN (len - (h + 1)) x % 10) h 5 0 m1) 5) (e2 : f_X4_hold μ0 (digN (len - (h + 1)) x % 10) = (0, m1)) (rc : St → Nat → Int32 × St) :
    ∃ (rW fW : Int32) (s3 m3 : St), passW len w back rc σ (digN (len - (h + 1)) x % 10) h = (if 0 ≤ rW then rc s3 (h + 1) else (rW, s3)) ∧ mainL x len w (n + 1) h 0 μ0 = mainL x len w n (h + 1) fW m3 ∧ Rel s3 m3 ∧ Kp x len (h + 1) s3 m3 ∧ s3 21 = σ 21 ∧ ((0 ≤ rW ∧ fW = 0 ∧ (h + 1 < len → Pk s3 m3 5)) ∨ (¬ 0 ≤ rW ∧ ¬ fW = 0 ∧ rW = -10 - fW)) := by
  have z0 : (nI h = 0) ↔ h = 0 := fq_eq (b := 0) rfl (by omega) (by decide)
  have y1 : (nI (h + 1) ≤ 1) ↔ h = 0 := (fq_le (a := h + 1) (b := 1) (x := 1) rfl (by omega) (by decide)).trans (by omega)
  have y2 : (nI (h + 1) < nI len) ↔ h + 1 < len := nI_ltI (by omega) (by omega)
  have y3 : (nI len = 1) ↔ len = 1 := fq_eq (b := 1) rfl (by omega) (by decide)
  have zl : (nI h = nI len + (-1)) ↔ h + 1 = len := by
    have e : nI len + (-1) = nI (len - 1) := by
      have := pk_m1 (len - 1)
      rw [show len - 1 + 1 = len by omega] at this
      exact this
    rw [e, nI_eq (by omega) (by omega)]
    omega
  by_cases h0 : h = 0
  · obtain ⟨r, f, s3, m3, g1, g2, hR3, hcase, hs3, hm3⟩ := pay_pay hR hd hb hw
    have z := z0.mpr h0
    refine ⟨r, f, s3, m3, ?_, ?_, hR3, hK.mono (by omega) (fun q hq => hs3 q (by omega) (by omega) (by omega)) (hm3 6 (by decide) (by decide)), hs3 21 (by omega) (by decide) (by decide), ?_⟩
    · obtain ⟨a, b', hrc⟩ : ∃ a b', rc s3 (h + 1) = (a, b') := ⟨_, _, rfl⟩
      by_cases hl : nI h = nI len + (-1)
      · by_cases hr : 0 ≤ r
        · simp only [passW, if_pos z, if_pos hl, g1, if_pos hr, hrc]
        · simp only [passW, if_pos z, if_pos hl, g1, if_neg hr]
      · by_cases hr : 0 ≤ r
        · simp only [passW, if_pos z, if_neg hl, g1, if_pos hr, hrc]
        · simp only [passW, if_pos z, if_neg hl, g1, if_neg hr]
    · by_cases h2 : h + 1 < len
      · simp only [mainL, ↓reduceIte, e2, if_pos (y1.mpr h0), if_pos (y2.mpr h2), g2]
      · simp only [mainL, ↓reduceIte, e2, if_pos (y1.mpr h0), if_neg (mt y2.mp h2), if_pos (y3.mpr (by omega)), g2]
    · rcases hcase with ⟨q1, q2, q3, q4, q5⟩ | q
      · exact Or.inl ⟨q1, q2, fun _ => q4⟩
      · exact Or.inr q
  · have z := mt z0.mp h0
    have hPk := hP.resolve_left h0
    obtain ⟨r1, f1, s2, m2, g1, g2, hR2, hcase2, hs2, hm2⟩ := lay_lay hR hd hb (show 5 ≠ 4 by decide) hPk
    have hK2 : Kp x len (h + 1) s2 m2 := hK.mono (by omega) (fun q hq => hs2 q (by omega) (by omega)) (hm2 6 (by decide))
    have h21 : s2 21 = σ 21 := hs2 21 (by omega) (by decide)
    rcases hcase2 with ⟨q1, q2, q3⟩ | ⟨q1, q2, q3, -, -⟩
    · have hlt : ¬ r1 < 0 := by rw [Int32.lt_iff_toInt_lt]; rw [Int32.le_iff_toInt_le] at q1; omega
      by_cases hl : h + 1 = len
      · refine ⟨r1, f1, s2, m2, ?_, ?_, hR2, hK2, h21, Or.inl ⟨q1, q2, fun q => absurd q (by omega)⟩⟩
        · obtain ⟨a, b', hrc⟩ : ∃ a b', rc s2 (h + 1) = (a, b') := ⟨_, _, rfl⟩
          simp only [passW, if_neg z, if_pos (zl.mpr hl), g1, if_neg hlt, if_pos q1, hrc]
        · simp only [mainL, ↓reduceIte, e2, if_neg (mt y1.mp h0), g2, if_pos q2, if_neg (mt y2.mp (show ¬ h + 1 < len by omega)), if_neg (mt y3.mp (show ¬ len = 1 by omega))]
      · obtain ⟨r, f, s3, m3, g3, g4, hR3, hcase, hs3, hm3⟩ := pay_pay hR2 hd (by rw [hs2 17 (by omega) (by decide)]; exact hb) hw
        refine ⟨r, f, s3, m3, ?_, ?_, hR3, hK2.mono (by omega) (fun q hq => hs3 q (by omega) (by omega) (by omega)) (hm3 6 (by decide) (by decide)), (hs3 21 (by omega) (by decide) (by decide)).trans h21, ?_⟩
        · obtain ⟨a, b', hrc⟩ : ∃ a b', rc s3 (h + 1) = (a, b') := ⟨_, _, rfl⟩
          by_cases hr : 0 ≤ r
          · simp only [passW, if_neg z, if_neg (mt zl.mp hl), g1, if_neg hlt, g3, if_pos hr, hrc]
          · simp only [passW, if_neg z, if_neg (mt zl.mp hl), g1, if_neg hlt, g3, if_neg hr]
        · simp only [mainL, ↓reduceIte, e2, if_neg (mt y1.mp h0), g2, if_pos q2, if_pos (y2.mpr (show h + 1 < len by omega)), g4]
        · rcases hcase with ⟨q1, q2, q3, q4, q5⟩ | q
          · exact Or.inl ⟨q1, q2, fun _ => q4⟩
          · exact Or.inr q
    · have hlt : r1 < 0 := by rw [Int32.lt_iff_toInt_lt]; rw [Int32.le_iff_toInt_le] at q1; omega
      refine ⟨r1, f1, s2, m2, ?_, ?_, hR2, hK2, h21, Or.inr ⟨q1, q2, q3⟩⟩
      · by_cases hl : nI h = nI len + (-1)
        · simp only [passW, if_neg z, if_pos hl, g1, if_pos hlt, if_neg q1]
        · simp only [passW, if_neg z, if_neg hl, g1, if_pos hlt, if_neg q1]
      · simp only [mainL, ↓reduceIte, e2, if_neg (mt y1.mp h0), g2, if_neg q2]
theorem pass_sim {x len : Nat} {w back : Int32} (hw : ¬ w < 0) (hlen : len ≤ 6) (hdig : ∀ k, k < len → digN (len - (k + 1)) x % 10 < 8) : ∀ (n c h : Nat) (σ μ : St), n + 1 ≤ c → h + n = len → Rel σ μ → Kp x len h σ μ → (∀ k, k < len → σ 21 k = nI (digN (len - (k + 1)) x % 10)) → (h = 0 ∨ h = len ∨ Pk σ μ 5) →
    ∃ (r : Int32) (s' : St) (hF : Nat) (fF : Int32) (mF mU : St), passF len w back c σ h = (r, s') ∧ mainL x len w n h 0 μ = (hF, fF, mF) ∧ h ≤ hF ∧ unwQ x len back (hF - h) h fF mF = (fF, mU) ∧ Rel s' mU ∧ Kp x len h s' mU ∧ ((0 ≤ r ∧ fF = 0 ∧ r = nI len) ∨ (¬ 0 ≤ r ∧ ¬ fF = 0 ∧ r = -10 - fF)) := by
  have h10 : ¬ (1 : Int32) = 0 := by decide
  intro n
  induction n with
  | zero =>
    intro c h σ μ hc hhn hR hK hpl hPk
    obtain ⟨c, rfl⟩ : ∃ c', c = c' + 1 := ⟨c - 1, by omega⟩
    refine ⟨nI len, σ, h, 0, μ, μ, ?_, rfl, Nat.le_refl _, by rw [Nat.sub_self]; rfl, hR, hK, Or.inl ⟨nI_nn (by omega), rfl, rfl⟩⟩
    rw [passF, if_pos ((nI_leI (by omega) (by omega)).mpr (by omega))]
  | succ n ih =>
    intro c h σ μ hc hhn hR hK hpl hPk
    obtain ⟨c, rfl⟩ : ∃ c', c = c' + 1 := ⟨c - 1, by omega⟩
    have hhl : h < len := by omega
    have hd := hdig h hhl
    have hlh : ¬ nI len ≤ nI h := mt (nI_leI (by omega) (by omega)).mp (by omega)
    have h6 : nI h < 6 := (fq_lt (b := 6) rfl (by omega) (by decide)).mpr (by omega)
    have htn : tn (σ 21 h) = (digN (len - (h + 1)) x % 10) := by rw [hpl h hhl]; exact nI_clamp (by omega)
    rcases begin_hold hR hd with ⟨e1, e2, hb⟩ | ⟨s1, m1, e1, e2, hb, hR1, hs1, hm1⟩
    · refine ⟨-11, σ, h, 1, μ, μ, ?_, ?_, Nat.le_refl _, by rw [Nat.sub_self]; rfl, hR, hK, Or.inr ⟨by decide, by decide, by decide⟩⟩
      · simp only [passF, if_neg hlh, if_pos h6, htn, e1, ↓reduceIte]
      · simp only [mainL, ↓reduceIte, e2, h10, mainL_stop h10]
    · have hs2r : ∀ r, r ≠ 11 + h → (becL (11 + h) (digN (len - (h + 1)) x % 10) 5 0 s1) r = s1 r := fun r hr => becL_row hr 5 0 s1
      have hm2r : ∀ r, r ≠ 6 → (keepL (digN (len - (h + 1)) x % 10) h 5 0 m1) r = m1 r := fun r hr => keepL_row hr 5 0 m1
      have hR2 : Rel (becL (11 + h) (digN (len - (h + 1)) x % 10) 5 0 s1) (keepL (digN (len - (h + 1)) x % 10) h 5 0 m1) := hR1.rows (fun r hr => hs2r r (by omega)) (fun r hr => hm2r r (by omega))
      have hb1 : ¬ bz (s1 17 (digN (len - (h + 1)) x % 10)) = 0 := by rw [hs1 17 (by decide)]; exact hb
      have hco := hR1.2.1 _ hd hb1
      have hK2 : Kp x len (h + 1) (becL (11 + h) (digN (len - (h + 1)) x % 10) 5 0 s1) (keepL (digN (len - (h + 1)) x % 10) h 5 0 m1) := by
        refine ⟨fun j hj => ?_, fun i hi => ?_⟩
        · rw [hs2r 19 (by omega), hs1 19 (by decide)]
          by_cases hjh : j = h
          · subst hjh
            have ev : ∀ i, i < 5 → (becL (11 + j) (digN (len - (j + 1)) x % 10) 5 0 s1) (11 + j) i = s1 (digN (len - (j + 1)) x % 10) i := fun i hi => by
              rw [becL_at (by omega), if_pos (by omega)]
            refine ⟨fun i hi => ?_, hco.2.congr ev (by rw [hs1 19 (by decide)])⟩
            rw [ev i hi, keepL_at 5 0 m1 (by omega) i hi, if_pos (by omega)]
            exact hco.1 i hi
          · rw [hs2r (11 + j) (by omega), hs1 (11 + j) (by omega)]
            refine ⟨fun i hi => ?_, (hK.1 j (by omega)).2⟩
            rw [keepL_ot (fun q hq => by omega) 5 0 m1 (by omega), hm1 6 (by decide)]
            exact (hK.1 j (by omega)).1 i hi
        · rw [hs2r 10 (by omega), hs1 10 (by decide), keepL_ot (fun q hq => by omega) 5 0 m1 (by omega), hm1 6 (by decide)]
          exact hK.2 i hi
      have hP2 : h = 0 ∨ Pk (becL (11 + h) (digN (len - (h + 1)) x % 10) 5 0 s1) (keepL (digN (len - (h + 1)) x % 10) h 5 0 m1) 5 := by
        rcases hPk with q | q | q
        · exact Or.inl q
        · omega
        · right
          obtain ⟨p, hp⟩ := q
          refine ⟨p, fun k hk => ?_⟩
          rw [hs2r 9 (by omega), hs1 9 (by decide), hm2r 5 (by decide), hm1 5 (by decide)]
          exact hp k hk
      obtain ⟨rW, fW, s3, m3, hxW, hyW, hR3, hK3, h21, hcase⟩ := pass_within (n := n) (back := back) hw hlen hhl hd hR2 hK2 (by rw [hs2r 17 (by omega)]; exact hb1) hP2 e2 (passF len w back c)
      have h21 : s3 21 = σ 21 := by rw [h21, hs2r 21 (by omega), hs1 21 (by decide)]
      have tail : ∀ (r : Int32) (s4 s5 : St), passW len w back (passF len w back c) (becL (11 + h) (digN (len - (h + 1)) x % 10) 5 0 s1) (digN (len - (h + 1)) x % 10) h = (r, s4) → (if 0 ≤ r then f_X3_end s4 r else if bz back = 0 then f_X3_end s4 r else f_X3_end (becL (digN (len - (h + 1)) x % 10) (11 + h) 5 0 s4) r) = (r, s5) → passF len w back (c + 1) σ h = (r, s5) := by
        intro r s4 s5 hW hE
        by_cases hr : 0 ≤ r
        · rw [if_pos hr] at hE
          simp only [passF, if_neg hlh, if_pos h6, htn, e1, h10, ↓reduceIte, hW, if_pos hr, hE]
        · rw [if_neg hr] at hE
          by_cases hbk : bz back = 0
          · rw [if_pos hbk] at hE
            simp only [passF, if_neg hlh, if_pos h6, htn, e1, h10, ↓reduceIte, hW, if_neg hr, if_pos hbk, hE]
          · rw [if_neg hbk] at hE
            simp only [passF, if_neg hlh, if_pos h6, htn, e1, h10, ↓reduceIte, hW, if_neg hr, if_neg hbk, hE]
      rcases hcase with ⟨q1, q2, q3⟩ | ⟨q1, q2, q3⟩
      · subst q2
        rw [if_pos q1] at hxW
        obtain ⟨r, s', hF, fF, mF, mU, hp, hm, hle, hu, hRU, hKU, hcase'⟩ := ih c (h + 1) s3 m3 (by omega) (by omega) hR3 hK3 (fun k hk => by rw [h21]; exact hpl k hk) (by
          by_cases q : h + 1 < len
          · exact Or.inr (Or.inr (q3 q))
          · exact Or.inr (Or.inl (by omega)))
        have hrf : (0 ≤ r ∧ fF = 0) ∨ (¬ 0 ≤ r ∧ ¬ fF = 0) := by
          rcases hcase' with q | q
          · exact Or.inl ⟨q.1, q.2.1⟩
          · exact Or.inr ⟨q.1, q.2.1⟩
        obtain ⟨s5, m5, t1, t2, hR5, hK5⟩ := fin_level (x := x) (len := len) (back := back) (show h < 6 by omega) hd rfl hRU hKU hrf
        refine ⟨r, s5, hF, fF, mF, m5, tail r s' s5 (hxW.trans hp) t1, hyW.trans hm, by omega, ?_, hR5, hK5, hcase'⟩
        rw [show hF - h = (hF - (h + 1)) + 1 by omega, unwQ, hu]
        exact t2
      · rw [if_neg q1] at hxW
        obtain ⟨s5, m5, t1, t2, hR5, hK5⟩ := fin_level (x := x) (len := len) (back := back) (show h < 6 by omega) hd rfl hR3 hK3 (r := rW) (f := fW) (Or.inr ⟨q1, q2⟩)
        refine ⟨rW, s5, h + 1, fW, m3, m5, tail rW s3 s5 hxW t1, hyW.trans (mainL_stop q2 n (h + 1) m3), by omega, ?_, hR5, hK5, Or.inr ⟨q1, q2, q3⟩⟩
        rw [show h + 1 - h = 0 + 1 by omega, unwQ]
        exact t2
theorem rel_pass {σ μ : St} (h : Rel σ μ) (row worth back : Int32) : (f_X3_pass σ row worth back).1 = (f_X4_pass μ row worth back).1 ∧ Rel (f_X3_pass σ row worth back).2 (f_X4_pass μ row worth back).2 := by
  have ht := h.thrown
  rw [f_X3_pass, f_X4_pass, f_X3_passG, f_X3_readRow, isUpTo_eq, isUpTo_eq]
  by_cases c1 : f_X4_in row 0 777777 = 0
  · rw [if_pos c1, if_pos c1]
    dsimp only
    rw [if_pos rfl]
    exact ⟨rfl, ht⟩
  · rw [if_neg c1, if_neg c1]
    have hx := X4_in_n (M := 777777) rfl (by decide) c1
    obtain ⟨x, hxx⟩ : ∃ x, x = tn row := ⟨_, rfl⟩
    rw [← hxx] at hx ⊢
    obtain ⟨hrow, hx7⟩ := hx
    have hlen0 := digsN_le 5 x 1
    obtain ⟨len, hlen⟩ : ∃ l, l = digsN 5 x 1 := ⟨_, rfl⟩
    rw [hrow, digits_eq hx7, ← hlen]
    rw [← hlen] at hlen0
    obtain ⟨a1, a2⟩ := rrL_all (x := x) (len := len) (by omega) len σ (Nat.le_refl _) (fun k h1 h2 => absurd h2 (by omega))
    have hrows : ∀ r, r ≠ 21 → (rrL len len (nI x) σ).2 r = σ r := fun r hr => rrL_row hr len (nI x) σ
    rw [Nat.sub_self] at a1 a2
    by_cases hall : ∀ k, k < len → digN (len - (k + 1)) x % 10 < 8
    · obtain ⟨s2, hs2, hpl⟩ := a1 hall
      have hs2 : rrL len len (nI x) σ = (nI len, s2) := hs2
      rw [hs2] at hrows ⊢
      dsimp only at hrows ⊢
      have hn1 : ¬ nI len = -1 := by
        intro q
        have q2 : (nI len).toInt = (-1 : Int32).toInt := by rw [q]
        rw [nI_toInt (by omega), show (-1 : Int32).toInt = -1 from rfl] at q2
        omega
      rw [if_neg hn1]
      have hR2 : Rel s2 (up μ 0 0 0) := ht.rows (fun r hr => hrows r (by omega)) (fun _ _ => rfl)
      by_cases c2 : f_X4_in worth 0 10000 = 0
      · rw [if_pos c2, if_pos c2]; exact ⟨rfl, hR2⟩
      · rw [if_neg c2, if_neg c2]
        have hok : okL x len len 0 1 = 1 := okL_one len 0 (fun j _ hj => hall j (by omega))
        rw [hok, if_neg (show ¬ (1 : Int32) = 0 by decide)]
        have htl : tn (nI len) = len := nI_clamp (by omega)
        rw [htl]
        have hR3 : Rel (becL 10 8 5 0 s2) (keepL 8 6 5 0 (up μ 0 0 0)) := hR2.rows (fun r hr => becL_row (by omega) 5 0 s2) (fun r hr => keepL_row (by omega) 5 0 _)
        have hK3 : Kp x len 0 (becL 10 8 5 0 s2) (keepL 8 6 5 0 (up μ 0 0 0)) := by
          refine ⟨fun j hj => absurd hj (by omega), fun i hi => ?_⟩
          rw [becL_at (by decide), if_pos (by omega)]
          show _ = (keepL 8 6 5 0 (up μ 0 0 0)) 6 (5 * 6 + i)
          rw [keepL_at 5 0 _ (by omega) i hi, if_pos (by omega)]
          exact hR2.2.2.1 i hi
        obtain ⟨r, s', hF, fF, mF, mU, hp, hm, hle, hu, hRU, hKU, hcase⟩ := pass_sim (back := back) (X4_in_nn c2) (by omega) hall len 7 0 _ _ (by omega) (by omega) hR3 hK3 (fun k hk => by rw [becL_row (by decide)]; exact hpl k hk) (Or.inl rfl)
        have hunw : unwL x len back hF fF mF = (fF, mU) := by
          have q := unw_all (x := x) (len := len) (back := back) hF 0 fF mF
          rw [Nat.sub_zero] at hu
          rw [Nat.zero_add, hu] at q
          exact q
        rw [hp, hm]
        dsimp only
        rw [hunw]
        dsimp only
        rcases hcase with ⟨q1, q2, q3⟩ | ⟨q1, q2, q3⟩
        · rw [if_pos q1, if_pos q2, q2, told_0]
          exact ⟨q3, hRU⟩
        · rw [if_neg q1, if_neg q2]
          by_cases cb : bz back = 0
          · rw [if_pos cb, if_pos cb]
            dsimp only
            rw [told_f q2]
            exact ⟨q3, hRU⟩
          · rw [if_neg cb, if_neg cb]
            dsimp only
            rw [told_f q2]
            exact ⟨q3, rel_handback hRU hKU.2⟩
    · have hex : ∃ k, k < len ∧ 8 ≤ digN (len - (k + 1)) x % 10 := by
        apply Classical.byContradiction
        intro hno
        apply hall
        intro k hk
        rcases Nat.lt_or_ge (digN (len - (k + 1)) x % 10) 8 with q | q
        · exact q
        · exact absurd ⟨k, hk, q⟩ hno
      obtain ⟨s2, hs2⟩ := a2 hex
      have hs2 : rrL len len (nI x) σ = (-1, s2) := hs2
      rw [hs2] at hrows ⊢
      dsimp only at hrows ⊢
      rw [if_pos rfl]
      have hR2 : Rel s2 (up μ 0 0 0) := ht.rows (fun r hr => hrows r (by omega)) (fun _ _ => rfl)
      have hok : okL x len len 0 1 = 0 := by
        apply Classical.byContradiction
        intro hne
        obtain ⟨k, h1, h2⟩ := hex
        have := okL_spec x len len 0 1 hne k (Nat.zero_le _) (by omega)
        omega
      rw [hok]
      by_cases c2 : f_X4_in worth 0 10000 = 0
      · rw [if_pos c2]; exact ⟨rfl, hR2⟩
      · rw [if_neg c2, if_pos rfl]; exact ⟨rfl, hR2⟩
