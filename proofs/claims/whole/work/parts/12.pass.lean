theorem becL_row {j i r : Nat} (h : r ≠ j) : ∀ (n k : Nat) (σ : St), becL j i n k σ r = σ r := by
  intro n
  induction n with
  | zero => intro k σ; rfl
  | succ n ih => intro k σ; rw [becL, ih, up_row h]
theorem addL_row {j i r : Nat} (h : r ≠ j) : ∀ (n k : Nat) (σ : St), addL j i n k σ r = σ r := by
  intro n
  induction n with
  | zero => intro k σ; rfl
  | succ n ih => intro k σ; rw [addL, ih, up_row h]
theorem remL_row {j i r : Nat} (h : r ≠ j) : ∀ (n k : Nat) (σ : St), remL j i n k σ r = σ r := by
  intro n
  induction n with
  | zero => intro k σ; rfl
  | succ n ih => intro k σ; rw [remL, ih, up_row h]
theorem clrL_row {j r : Nat} (h : r ≠ j) : ∀ (n k : Nat) (σ : St), clrL j n k σ r = σ r := by
  intro n
  induction n with
  | zero => intro k σ; rfl
  | succ n ih => intro k σ; rw [clrL, ih, up_row h]
theorem pickL_row {t r : Nat} (h : r ≠ 9) : ∀ (n : Nat) (rest : Int32) (σ : St), (pickL t n rest σ).2 r = σ r := by
  intro n
  induction n with
  | zero => intro k σ; rfl
  | succ n ih => intro k σ; rw [pickL, ih, up_row h]
theorem X3_begin_21 {σ s1 : St} {t : Nat} {r : Int32} (e : f_X3_begin σ t = (r, s1)) : s1 21 = σ 21 := by
  unfold f_X3_begin f_X1_begin at e
  split at e <;> cases e <;> simp [up_row]
theorem X3_end_21 {σ s1 : St} {x r : Int32} (e : f_X3_end σ x = (r, s1)) : s1 21 = σ 21 := by
  unfold f_X3_end f_X1_end at e
  split at e <;> cases e <;> (try split) <;> simp [up_row]
theorem X3_pick_row {σ s1 : St} {t : Nat} {w r : Int32} (e : f_X3_pick σ t w = (r, s1)) {q : Nat} (hq : q ≠ 9) : s1 q = σ q := by
  have h := pickL_row (t := t) hq 5 w σ
  unfold f_X3_pick at e
  generalize pickL t 5 w σ = P at h e
  obtain ⟨a, b⟩ := P
  dsimp only at e h
  split at e <;> cases e <;> exact h
theorem X3_pay_21 {σ s1 : St} {t : Nat} (ht : t < 8) {w r : Int32} (e : f_X3_pay σ t w = (r, s1)) : s1 21 = σ 21 := by
  unfold f_X3_pay at e
  split at e
  · cases h : f_X3_pick σ t w with
    | mk a b =>
      have hb := X3_pick_row h (q := 21) (by omega)
      rw [h] at e
      dsimp only at e
      split at e <;> cases e
      · exact hb
      · rw [addL_row (by omega), remL_row (by omega)]; exact hb
  · cases e; rfl
theorem X3_layPicked_21 {σ s1 : St} {t : Nat} (ht : t < 8) {r : Int32} (e : f_X3_layPicked σ t = (r, s1)) : s1 21 = σ 21 := by
  unfold f_X3_layPicked at e
  split at e
  · split at e <;> cases e
    · rfl
    · rw [addL_row (by omega), remL_row (by omega)]
  · cases e; rfl
def f_X3_count (σ : St) (what : Int32) : Int32 :=
  if what = 0 then
    σ 20 0
  else
    if what = 1 then
      σ 20 1
    else
      if what = 2 then
        σ 20 3
      else
        if what = 3 then
          thereL σ 8 0 0
        else
          (-1)
set_option maxRecDepth 100000 in
set_option maxHeartbeats 4000000 in
theorem c_X3_count (l : Launch) {E : EV} (hA : AD E) (σ μ : St) (what : Int32) : Met l yX3_count (.code yX3_count cX3_count 2 (some .int) :: gtbl) (rmL 1) (va_Pc [.ref (ea E 0), .int what] (PR E σ μ)) (QI E (f_X3_count σ what) σ μ) 0 0 (eA E) := by
  refine x_met (own := RX3) (by decide) rfl hA (Nat.le_of_ble_eq_true rfl) ?_
  intro p e s m below meth c ls F hr hlk hH hl
  have hl : lv_has ls 2 [(0, .ref (ea E 0)), (1, .int what)] := hl
  have hx := F.hx
  have hb := F.hb
  refine lv_iload_n hx hb dX3_count_0 rfl (lv_at hl 1 rfl) ?_
  by_cases h0 : what = 0
  · refine lv_tableIn (off := 31) (tgt := 32) hx hb dX3_count_1 (by rw [h0]; decide) (by rw [h0]; decide) (by rw [h0]; rfl) (by decide) ?_
    refine lv_aload_n hx hb dX3_count_32 rfl (lv_at hl 0 rfl) ?_
    refine g_X3_holds F hH kw_100 dX3_count_33 ?_
    refine g_X1_begun F hH kw_82 dX3_count_36 ?_
    exact x_iretR F hr hlk hH (by simp only [f_X3_count, if_pos h0]) dX3_count_39
  ·
    by_cases h1 : what = 1
    · refine lv_tableIn (off := 39) (tgt := 40) hx hb dX3_count_1 (by rw [h1]; decide) (by rw [h1]; decide) (by rw [h1]; rfl) (by decide) ?_
      refine lv_aload_n hx hb dX3_count_40 rfl (lv_at hl 0 rfl) ?_
      refine g_X3_holds F hH kw_100 dX3_count_41 ?_
      refine g_X1_left F hH kw_84 dX3_count_44 ?_
      exact x_iretR F hr hlk hH (by simp only [f_X3_count, if_neg h0, if_pos h1]) dX3_count_47
    ·
      by_cases h2 : what = 2
      · refine lv_tableIn (off := 47) (tgt := 48) hx hb dX3_count_1 (by rw [h2]; decide) (by rw [h2]; decide) (by rw [h2]; rfl) (by decide) ?_
        refine lv_aload_n hx hb dX3_count_48 rfl (lv_at hl 0 rfl) ?_
        refine g_X3_holds F hH kw_100 dX3_count_49 ?_
        refine g_X1_deepest F hH kw_87 dX3_count_52 ?_
        exact x_iretR F hr hlk hH (by simp only [f_X3_count, if_neg h0, if_neg h1, if_pos h2]) dX3_count_55
      ·
        by_cases h3 : what = 3
        · refine lv_tableIn (off := 55) (tgt := 56) hx hb dX3_count_1 (by rw [h3]; decide) (by rw [h3]; decide) (by rw [h3]; rfl) (by decide) ?_
          refine lv_aload_n hx hb dX3_count_56 rfl (lv_at hl 0 rfl) ?_
          refine x_calliR F hH 0 (F.lt (by omega)) (vv0 (by decide)) rfl (c_X3_tillsThere l F.ad σ μ ) cw_X3_130 rfl rfl ⟨Nat.le_of_ble_eq_true rfl, Nat.le_of_ble_eq_true rfl⟩ rfl hl.1 rfl (Nat.le_of_ble_eq_true rfl) ⟨Nat.zero_le _, Nat.zero_le _⟩ dX3_count_57 (fun H locs hH => ?_)
          exact x_iretR F hr hlk hH (by simp only [f_X3_count, if_neg h0, if_neg h1, if_neg h2, if_pos h3]) dX3_count_60
        ·
          refine lv_tableOut (tgt := 61) hx hb dX3_count_1 (by have a0 := lv_neT h0 (a := 0) rfl; have a1 := lv_neT h1 (a := 1) rfl; have a2 := lv_neT h2 (a := 2) rfl; have a3 := lv_neT h3 (a := 3) rfl; omega) (by decide) ?_
          refine lv_iconst (v := -1) hx hb dX3_count_61 (by decide) ?_
          exact x_iretR F hr hlk hH (by simp only [f_X3_count, if_neg h0, if_neg h1, if_neg h2, if_neg h3]) dX3_count_62
def passW (len : Nat) (worth back : Int32) (rc : St → Nat → Int32 × St) (σ : St) (t pl : Nat) : Int32 × St :=
  if (nI pl) = 0 then
    if (nI pl) = (nI len + (-1)) then
      match f_X3_pay σ t worth with
      | (r_52, s_53) =>
        if 0 ≤ r_52 then
          match rc s_53 (pl + 1) with
          | (r_56, s_57) =>
            (r_56, s_57)
        else
          (r_52, s_53)
    else
      match f_X3_pay σ t worth with
      | (r_42, s_43) =>
        if 0 ≤ r_42 then
          match rc s_43 (pl + 1) with
          | (r_46, s_47) =>
            (r_46, s_47)
        else
          (r_42, s_43)
  else
    if (nI pl) = (nI len + (-1)) then
      match f_X3_layPicked σ t with
      | (r_23, s_24) =>
        if r_23 < 0 then
          if 0 ≤ r_23 then
            match rc s_24 (pl + 1) with
            | (r_28, s_29) =>
              (r_28, s_29)
          else
            (r_23, s_24)
        else
          if 0 ≤ r_23 then
            match rc s_24 (pl + 1) with
            | (r_34, s_35) =>
              (r_34, s_35)
          else
            (r_23, s_24)
    else
      match f_X3_layPicked σ t with
      | (r_5, s_6) =>
        if r_5 < 0 then
          if 0 ≤ r_5 then
            match rc s_6 (pl + 1) with
            | (r_10, s_11) =>
              (r_10, s_11)
          else
            (r_5, s_6)
        else
          match f_X3_pay s_6 t worth with
          | (r_15, s_16) =>
            if 0 ≤ r_15 then
              match rc s_16 (pl + 1) with
              | (r_19, s_20) =>
                (r_19, s_20)
            else
              (r_15, s_16)
set_option maxRecDepth 100000 in
set_option maxHeartbeats 4000000 in
theorem c_X3_passWithin (l : Launch) {E : EV} (hA : AD E) (len : Nat) (worth back : Int32) (hlen : len < 7) (pr : Nat → Int32) (n : Nat) (rc : St → Nat → Int32 × St) (pl : Nat) (hpl : pl < 6) (hrec : ∀ (σ μ : St), σ 21 = pr → Met l yX3_passFrom (.code yX3_passFrom cX3_passFrom 7 (some .int) :: gtbl) (rmL (20 + 2 * n)) (va_Pc [.ref (ea E 0), .int (nI (pl + 1)), .int (nI len), .int worth, .int (bz back)] (PR E σ μ)) (QI E (rc σ (pl + 1)).1 (rc σ (pl + 1)).2 μ) 0 0 (eA E)) (σ μ : St) (hσ : σ 21 = pr) (t : Nat) (ht : t < 8) : Met l yX3_passWithin (.code yX3_passWithin cX3_passWithin 9 (some .int) :: gtbl) (rmL (21 + 2 * n)) (va_Pc [.ref (ea E 0), .ref (ea E (5 + t)), .int (nI pl), .int (nI len), .int worth, .int (bz back)] (PR E σ μ)) (QI E (passW len worth back rc σ t pl).1 (passW len worth back rc σ t pl).2 μ) 0 0 (eA E) := by
  refine x_met (own := RX3) (by decide) rfl hA (Nat.le_of_ble_eq_true rfl) ?_
  intro p e s m below meth c ls F hr hlk hH hl
  have hl : lv_has ls 9 [(0, .ref (ea E 0)), (1, .ref (ea E (5 + t))), (2, .int (nI pl)), (3, .int (nI len)), (4, .int worth), (5, .int (bz back))] := hl
  have hx := F.hx
  have hb := F.hb
  refine lv_iload_n hx hb dX3_passWithin_0 rfl (lv_at hl 2 rfl) ?_
  refine lv_if_ne (tgt := 8) hx hb dX3_passWithin_1 (by decide) (fun c_1 => ?_) (fun c_1 => ?_)
  · have q_2 := mt (fq_eq (a := pl) (b := 0) rfl (by omega) (by omega)).mpr c_1
    refine lv_iconst (v := 0) hx hb dX3_passWithin_8 (by decide) ?_
    refine lv_istore (lv' := [(6, .int 0), (0, .ref (ea E 0)), (1, .ref (ea E (5 + t))), (2, .int (nI pl)), (3, .int (nI len)), (4, .int worth), (5, .int (bz back))]) hx hb dX3_passWithin_9 hl (by decide) rfl (fun ls hl => ?_)
    refine lv_iload_n hx hb dX3_passWithin_11 rfl (lv_at hl 3 rfl) ?_
    refine lv_iload_n hx hb dX3_passWithin_12 rfl (lv_at hl 4 rfl) ?_
    refine lv_iconst (v := 1) hx hb dX3_passWithin_13 (by decide) ?_
    refine lv_isub hx hb dX3_passWithin_14 ?_
    refine x_top (nI_sub1 len) ?_
    refine lv_icmp_ne (tgt := 22) hx hb dX3_passWithin_15 (by decide) (fun c_3 => ?_) (fun c_3 => ?_)
    · refine lv_iconst (v := 0) hx hb dX3_passWithin_22 (by decide) ?_
      refine lv_istore (lv' := [(7, .int 0), (6, .int 0), (0, .ref (ea E 0)), (1, .ref (ea E (5 + t))), (2, .int (nI pl)), (3, .int (nI len)), (4, .int worth), (5, .int (bz back))]) hx hb dX3_passWithin_23 hl (by decide) rfl (fun ls hl => ?_)
      refine lv_iload hx hb dX3_passWithin_25 (lv_at hl 1 rfl) ?_
      refine lv_if_eq (tgt := 34) hx hb dX3_passWithin_27 (by decide) (fun _ => ?_) (fun c_4 => absurd (by decide) c_4)
      refine lv_aload_n hx hb dX3_passWithin_34 rfl (lv_at hl 2 rfl) ?_
      refine lv_aload_n hx hb dX3_passWithin_35 rfl (lv_at hl 3 rfl) ?_
      refine x_calliX F hH 0 (F.lt (by omega)) (vv0 (by decide)) rfl (c_X3_layPicked l F.ad σ μ t (by omega)) cw_X3_87 rfl rfl ⟨(show 2 + 1 ≤ 21 + 2 * n by omega), (show 8 + (2 + 11) + 40 * (2) ≤ 40 * (21 + 2 * n) by omega)⟩ rfl hl.1 rfl (Nat.le_of_ble_eq_true rfl) ⟨Nat.zero_le _, Nat.zero_le _⟩ dX3_passWithin_36 (fun r_5 s_6 H locs e_7 hH => ?_)
      have z1 : s_6 21 = pr := (X3_layPicked_21 (by omega) e_7).trans hσ
      refine lv_istore (lv' := [(8, .int r_5), (7, .int 0), (6, .int 0), (0, .ref (ea E 0)), (1, .ref (ea E (5 + t))), (2, .int (nI pl)), (3, .int (nI len)), (4, .int worth), (5, .int (bz back))]) hx hb dX3_passWithin_39 hl (by decide) rfl (fun ls hl => ?_)
      refine lv_iload hx hb dX3_passWithin_41 (lv_at hl 0 rfl) ?_
      refine lv_if_lt (tgt := 65) hx hb dX3_passWithin_43 (by decide) (fun c_8 => ?_) (fun c_8 => ?_)
      · refine lv_iload hx hb dX3_passWithin_65 (lv_at hl 0 rfl) ?_
        refine lv_if_ge (tgt := 75) hx hb dX3_passWithin_67 (by decide) (fun c_9 => ?_) (fun c_9 => ?_)
        · refine lv_aload_n hx hb dX3_passWithin_75 rfl (lv_at hl 3 rfl) ?_
          refine lv_iload_n hx hb dX3_passWithin_76 rfl (lv_at hl 5 rfl) ?_
          refine lv_iconst (v := 1) hx hb dX3_passWithin_77 (by decide) ?_
          refine lv_iadd hx hb dX3_passWithin_78 ?_
          refine x_top (nI_add pl 1) ?_
          refine lv_iload_n hx hb dX3_passWithin_79 rfl (lv_at hl 6 rfl) ?_
          refine lv_iload hx hb dX3_passWithin_80 (lv_at hl 7 rfl) ?_
          refine lv_iload hx hb dX3_passWithin_82 (lv_at hl 8 rfl) ?_
          refine x_calliX F hH 0 (F.lt (by omega)) (vv0 (by decide)) rfl (hrec s_6 μ z1) cw_X3_105 rfl rfl ⟨(show 20 + 2 * n + 1 ≤ 21 + 2 * n by omega), (show 8 + (7 + 11) + 40 * (20 + 2 * n) ≤ 40 * (21 + 2 * n) by omega)⟩ rfl hl.1 rfl (Nat.le_of_ble_eq_true rfl) ⟨Nat.zero_le _, Nat.zero_le _⟩ dX3_passWithin_84 (fun r_10 s_11 H locs e_12 hH => ?_)
          exact x_iretX F hr hlk hH (by simp only [passW, if_neg c_1, if_neg c_3, e_7, if_pos c_8, if_pos c_9, e_12]) dX3_passWithin_87
        · refine lv_iload hx hb dX3_passWithin_70 (lv_at hl 0 rfl) ?_
          refine lv_goto (tgt := 87) hx hb dX3_passWithin_72 (by decide) ?_
          exact x_iretX F hr hlk hH (by simp only [passW, if_neg c_1, if_neg c_3, e_7, if_pos c_8, if_neg c_9]) dX3_passWithin_87
      · refine lv_iload hx hb dX3_passWithin_46 (lv_at hl 2 rfl) ?_
        refine lv_if_ne (tgt := 56) hx hb dX3_passWithin_48 (by decide) (fun c_13 => absurd (by decide) c_13) (fun _ => ?_)
        refine lv_iload hx hb dX3_passWithin_51 (lv_at hl 1 rfl) ?_
        refine lv_if_ne (tgt := 65) hx hb dX3_passWithin_53 (by decide) (fun c_14 => absurd (by decide) c_14) (fun _ => ?_)
        refine lv_aload_n hx hb dX3_passWithin_56 rfl (lv_at hl 3 rfl) ?_
        refine lv_aload_n hx hb dX3_passWithin_57 rfl (lv_at hl 4 rfl) ?_
        refine lv_iload hx hb dX3_passWithin_58 (lv_at hl 7 rfl) ?_
        refine x_calliX F hH 0 (F.lt (by omega)) (vv0 (by decide)) rfl (c_X3_pay l F.ad s_6 μ t worth (by omega)) cw_X3_91 rfl rfl ⟨(show 2 + 1 ≤ 21 + 2 * n by omega), (show 8 + (3 + 11) + 40 * (2) ≤ 40 * (21 + 2 * n) by omega)⟩ rfl hl.1 rfl (Nat.le_of_ble_eq_true rfl) ⟨Nat.zero_le _, Nat.zero_le _⟩ dX3_passWithin_60 (fun r_15 s_16 H locs e_17 hH => ?_)
        have z3 : s_16 21 = pr := (X3_pay_21 (by omega) e_17).trans z1
        refine lv_istore (lv' := [(8, .int r_15), (7, .int 0), (6, .int 0), (0, .ref (ea E 0)), (1, .ref (ea E (5 + t))), (2, .int (nI pl)), (3, .int (nI len)), (4, .int worth), (5, .int (bz back))]) hx hb dX3_passWithin_63 hl (by decide) rfl (fun ls hl => ?_)
        refine lv_iload hx hb dX3_passWithin_65 (lv_at hl 0 rfl) ?_
        refine lv_if_ge (tgt := 75) hx hb dX3_passWithin_67 (by decide) (fun c_18 => ?_) (fun c_18 => ?_)
        · refine lv_aload_n hx hb dX3_passWithin_75 rfl (lv_at hl 3 rfl) ?_
          refine lv_iload_n hx hb dX3_passWithin_76 rfl (lv_at hl 5 rfl) ?_
          refine lv_iconst (v := 1) hx hb dX3_passWithin_77 (by decide) ?_
          refine lv_iadd hx hb dX3_passWithin_78 ?_
          refine x_top (nI_add pl 1) ?_
          refine lv_iload_n hx hb dX3_passWithin_79 rfl (lv_at hl 6 rfl) ?_
          refine lv_iload hx hb dX3_passWithin_80 (lv_at hl 7 rfl) ?_
          refine lv_iload hx hb dX3_passWithin_82 (lv_at hl 8 rfl) ?_
          refine x_calliX F hH 0 (F.lt (by omega)) (vv0 (by decide)) rfl (hrec s_16 μ z3) cw_X3_105 rfl rfl ⟨(show 20 + 2 * n + 1 ≤ 21 + 2 * n by omega), (show 8 + (7 + 11) + 40 * (20 + 2 * n) ≤ 40 * (21 + 2 * n) by omega)⟩ rfl hl.1 rfl (Nat.le_of_ble_eq_true rfl) ⟨Nat.zero_le _, Nat.zero_le _⟩ dX3_passWithin_84 (fun r_19 s_20 H locs e_21 hH => ?_)
          exact x_iretX F hr hlk hH (by simp only [passW, if_neg c_1, if_neg c_3, e_7, if_neg c_8, e_17, if_pos c_18, e_21]) dX3_passWithin_87
        · refine lv_iload hx hb dX3_passWithin_70 (lv_at hl 0 rfl) ?_
          refine lv_goto (tgt := 87) hx hb dX3_passWithin_72 (by decide) ?_
          exact x_iretX F hr hlk hH (by simp only [passW, if_neg c_1, if_neg c_3, e_7, if_neg c_8, e_17, if_neg c_18]) dX3_passWithin_87
    · refine lv_iconst (v := 1) hx hb dX3_passWithin_18 (by decide) ?_
      refine lv_goto (tgt := 23) hx hb dX3_passWithin_19 (by decide) ?_
      refine lv_istore (lv' := [(7, .int 1), (6, .int 0), (0, .ref (ea E 0)), (1, .ref (ea E (5 + t))), (2, .int (nI pl)), (3, .int (nI len)), (4, .int worth), (5, .int (bz back))]) hx hb dX3_passWithin_23 hl (by decide) rfl (fun ls hl => ?_)
      refine lv_iload hx hb dX3_passWithin_25 (lv_at hl 1 rfl) ?_
      refine lv_if_eq (tgt := 34) hx hb dX3_passWithin_27 (by decide) (fun _ => ?_) (fun c_22 => absurd (by decide) c_22)
      refine lv_aload_n hx hb dX3_passWithin_34 rfl (lv_at hl 2 rfl) ?_
      refine lv_aload_n hx hb dX3_passWithin_35 rfl (lv_at hl 3 rfl) ?_
      refine x_calliX F hH 0 (F.lt (by omega)) (vv0 (by decide)) rfl (c_X3_layPicked l F.ad σ μ t (by omega)) cw_X3_87 rfl rfl ⟨(show 2 + 1 ≤ 21 + 2 * n by omega), (show 8 + (2 + 11) + 40 * (2) ≤ 40 * (21 + 2 * n) by omega)⟩ rfl hl.1 rfl (Nat.le_of_ble_eq_true rfl) ⟨Nat.zero_le _, Nat.zero_le _⟩ dX3_passWithin_36 (fun r_23 s_24 H locs e_25 hH => ?_)
      have z5 : s_24 21 = pr := (X3_layPicked_21 (by omega) e_25).trans hσ
      refine lv_istore (lv' := [(8, .int r_23), (7, .int 1), (6, .int 0), (0, .ref (ea E 0)), (1, .ref (ea E (5 + t))), (2, .int (nI pl)), (3, .int (nI len)), (4, .int worth), (5, .int (bz back))]) hx hb dX3_passWithin_39 hl (by decide) rfl (fun ls hl => ?_)
      refine lv_iload hx hb dX3_passWithin_41 (lv_at hl 0 rfl) ?_
      refine lv_if_lt (tgt := 65) hx hb dX3_passWithin_43 (by decide) (fun c_26 => ?_) (fun c_26 => ?_)
      · refine lv_iload hx hb dX3_passWithin_65 (lv_at hl 0 rfl) ?_
        refine lv_if_ge (tgt := 75) hx hb dX3_passWithin_67 (by decide) (fun c_27 => ?_) (fun c_27 => ?_)
        · refine lv_aload_n hx hb dX3_passWithin_75 rfl (lv_at hl 3 rfl) ?_
          refine lv_iload_n hx hb dX3_passWithin_76 rfl (lv_at hl 5 rfl) ?_
          refine lv_iconst (v := 1) hx hb dX3_passWithin_77 (by decide) ?_
          refine lv_iadd hx hb dX3_passWithin_78 ?_
          refine x_top (nI_add pl 1) ?_
          refine lv_iload_n hx hb dX3_passWithin_79 rfl (lv_at hl 6 rfl) ?_
          refine lv_iload hx hb dX3_passWithin_80 (lv_at hl 7 rfl) ?_
          refine lv_iload hx hb dX3_passWithin_82 (lv_at hl 8 rfl) ?_
          refine x_calliX F hH 0 (F.lt (by omega)) (vv0 (by decide)) rfl (hrec s_24 μ z5) cw_X3_105 rfl rfl ⟨(show 20 + 2 * n + 1 ≤ 21 + 2 * n by omega), (show 8 + (7 + 11) + 40 * (20 + 2 * n) ≤ 40 * (21 + 2 * n) by omega)⟩ rfl hl.1 rfl (Nat.le_of_ble_eq_true rfl) ⟨Nat.zero_le _, Nat.zero_le _⟩ dX3_passWithin_84 (fun r_28 s_29 H locs e_30 hH => ?_)
          exact x_iretX F hr hlk hH (by simp only [passW, if_neg c_1, if_pos c_3, e_25, if_pos c_26, if_pos c_27, e_30]) dX3_passWithin_87
        · refine lv_iload hx hb dX3_passWithin_70 (lv_at hl 0 rfl) ?_
          refine lv_goto (tgt := 87) hx hb dX3_passWithin_72 (by decide) ?_
          exact x_iretX F hr hlk hH (by simp only [passW, if_neg c_1, if_pos c_3, e_25, if_pos c_26, if_neg c_27]) dX3_passWithin_87
      · refine lv_iload hx hb dX3_passWithin_46 (lv_at hl 2 rfl) ?_
        refine lv_if_ne (tgt := 56) hx hb dX3_passWithin_48 (by decide) (fun c_31 => absurd (by decide) c_31) (fun _ => ?_)
        refine lv_iload hx hb dX3_passWithin_51 (lv_at hl 1 rfl) ?_
        refine lv_if_ne (tgt := 65) hx hb dX3_passWithin_53 (by decide) (fun _ => ?_) (fun c_32 => absurd c_32 (by decide))
        refine lv_iload hx hb dX3_passWithin_65 (lv_at hl 0 rfl) ?_
        refine lv_if_ge (tgt := 75) hx hb dX3_passWithin_67 (by decide) (fun c_33 => ?_) (fun c_33 => ?_)
        · refine lv_aload_n hx hb dX3_passWithin_75 rfl (lv_at hl 3 rfl) ?_
          refine lv_iload_n hx hb dX3_passWithin_76 rfl (lv_at hl 5 rfl) ?_
          refine lv_iconst (v := 1) hx hb dX3_passWithin_77 (by decide) ?_
          refine lv_iadd hx hb dX3_passWithin_78 ?_
          refine x_top (nI_add pl 1) ?_
          refine lv_iload_n hx hb dX3_passWithin_79 rfl (lv_at hl 6 rfl) ?_
          refine lv_iload hx hb dX3_passWithin_80 (lv_at hl 7 rfl) ?_
          refine lv_iload hx hb dX3_passWithin_82 (lv_at hl 8 rfl) ?_
          refine x_calliX F hH 0 (F.lt (by omega)) (vv0 (by decide)) rfl (hrec s_24 μ z5) cw_X3_105 rfl rfl ⟨(show 20 + 2 * n + 1 ≤ 21 + 2 * n by omega), (show 8 + (7 + 11) + 40 * (20 + 2 * n) ≤ 40 * (21 + 2 * n) by omega)⟩ rfl hl.1 rfl (Nat.le_of_ble_eq_true rfl) ⟨Nat.zero_le _, Nat.zero_le _⟩ dX3_passWithin_84 (fun r_34 s_35 H locs e_36 hH => ?_)
          exact x_iretX F hr hlk hH (by simp only [passW, if_neg c_1, if_pos c_3, e_25, if_neg c_26, if_pos c_33, e_36]) dX3_passWithin_87
        · refine lv_iload hx hb dX3_passWithin_70 (lv_at hl 0 rfl) ?_
          refine lv_goto (tgt := 87) hx hb dX3_passWithin_72 (by decide) ?_
          exact x_iretX F hr hlk hH (by simp only [passW, if_neg c_1, if_pos c_3, e_25, if_neg c_26, if_neg c_33]) dX3_passWithin_87
  · have q_37 := (fq_eq (a := pl) (b := 0) rfl (by omega) (by omega)).mp c_1
    refine lv_iconst (v := 1) hx hb dX3_passWithin_4 (by decide) ?_
    refine lv_goto (tgt := 9) hx hb dX3_passWithin_5 (by decide) ?_
    refine lv_istore (lv' := [(6, .int 1), (0, .ref (ea E 0)), (1, .ref (ea E (5 + t))), (2, .int (nI pl)), (3, .int (nI len)), (4, .int worth), (5, .int (bz back))]) hx hb dX3_passWithin_9 hl (by decide) rfl (fun ls hl => ?_)
    refine lv_iload_n hx hb dX3_passWithin_11 rfl (lv_at hl 3 rfl) ?_
    refine lv_iload_n hx hb dX3_passWithin_12 rfl (lv_at hl 4 rfl) ?_
    refine lv_iconst (v := 1) hx hb dX3_passWithin_13 (by decide) ?_
    refine lv_isub hx hb dX3_passWithin_14 ?_
    refine x_top (nI_sub1 len) ?_
    refine lv_icmp_ne (tgt := 22) hx hb dX3_passWithin_15 (by decide) (fun c_38 => ?_) (fun c_38 => ?_)
    · refine lv_iconst (v := 0) hx hb dX3_passWithin_22 (by decide) ?_
      refine lv_istore (lv' := [(7, .int 0), (6, .int 1), (0, .ref (ea E 0)), (1, .ref (ea E (5 + t))), (2, .int (nI pl)), (3, .int (nI len)), (4, .int worth), (5, .int (bz back))]) hx hb dX3_passWithin_23 hl (by decide) rfl (fun ls hl => ?_)
      refine lv_iload hx hb dX3_passWithin_25 (lv_at hl 1 rfl) ?_
      refine lv_if_eq (tgt := 34) hx hb dX3_passWithin_27 (by decide) (fun c_39 => absurd c_39 (by decide)) (fun _ => ?_)
      refine lv_iconst (v := 0) hx hb dX3_passWithin_30 (by decide) ?_
      refine lv_goto (tgt := 39) hx hb dX3_passWithin_31 (by decide) ?_
      refine lv_istore (lv' := [(8, .int 0), (7, .int 0), (6, .int 1), (0, .ref (ea E 0)), (1, .ref (ea E (5 + t))), (2, .int (nI pl)), (3, .int (nI len)), (4, .int worth), (5, .int (bz back))]) hx hb dX3_passWithin_39 hl (by decide) rfl (fun ls hl => ?_)
      refine lv_iload hx hb dX3_passWithin_41 (lv_at hl 0 rfl) ?_
      refine lv_if_lt (tgt := 65) hx hb dX3_passWithin_43 (by decide) (fun c_40 => absurd c_40 (by decide)) (fun _ => ?_)
      refine lv_iload hx hb dX3_passWithin_46 (lv_at hl 2 rfl) ?_
      refine lv_if_ne (tgt := 56) hx hb dX3_passWithin_48 (by decide) (fun _ => ?_) (fun c_41 => absurd c_41 (by decide))
      refine lv_aload_n hx hb dX3_passWithin_56 rfl (lv_at hl 3 rfl) ?_
      refine lv_aload_n hx hb dX3_passWithin_57 rfl (lv_at hl 4 rfl) ?_
      refine lv_iload hx hb dX3_passWithin_58 (lv_at hl 7 rfl) ?_
      refine x_calliX F hH 0 (F.lt (by omega)) (vv0 (by decide)) rfl (c_X3_pay l F.ad σ μ t worth (by omega)) cw_X3_91 rfl rfl ⟨(show 2 + 1 ≤ 21 + 2 * n by omega), (show 8 + (3 + 11) + 40 * (2) ≤ 40 * (21 + 2 * n) by omega)⟩ rfl hl.1 rfl (Nat.le_of_ble_eq_true rfl) ⟨Nat.zero_le _, Nat.zero_le _⟩ dX3_passWithin_60 (fun r_42 s_43 H locs e_44 hH => ?_)
      have z8 : s_43 21 = pr := (X3_pay_21 (by omega) e_44).trans hσ
      refine lv_istore (lv' := [(8, .int r_42), (7, .int 0), (6, .int 1), (0, .ref (ea E 0)), (1, .ref (ea E (5 + t))), (2, .int (nI pl)), (3, .int (nI len)), (4, .int worth), (5, .int (bz back))]) hx hb dX3_passWithin_63 hl (by decide) rfl (fun ls hl => ?_)
      refine lv_iload hx hb dX3_passWithin_65 (lv_at hl 0 rfl) ?_
      refine lv_if_ge (tgt := 75) hx hb dX3_passWithin_67 (by decide) (fun c_45 => ?_) (fun c_45 => ?_)
      · refine lv_aload_n hx hb dX3_passWithin_75 rfl (lv_at hl 3 rfl) ?_
        refine lv_iload_n hx hb dX3_passWithin_76 rfl (lv_at hl 5 rfl) ?_
        refine lv_iconst (v := 1) hx hb dX3_passWithin_77 (by decide) ?_
        refine lv_iadd hx hb dX3_passWithin_78 ?_
        refine x_top (nI_add pl 1) ?_
        refine lv_iload_n hx hb dX3_passWithin_79 rfl (lv_at hl 6 rfl) ?_
        refine lv_iload hx hb dX3_passWithin_80 (lv_at hl 7 rfl) ?_
        refine lv_iload hx hb dX3_passWithin_82 (lv_at hl 8 rfl) ?_
        refine x_calliX F hH 0 (F.lt (by omega)) (vv0 (by decide)) rfl (hrec s_43 μ z8) cw_X3_105 rfl rfl ⟨(show 20 + 2 * n + 1 ≤ 21 + 2 * n by omega), (show 8 + (7 + 11) + 40 * (20 + 2 * n) ≤ 40 * (21 + 2 * n) by omega)⟩ rfl hl.1 rfl (Nat.le_of_ble_eq_true rfl) ⟨Nat.zero_le _, Nat.zero_le _⟩ dX3_passWithin_84 (fun r_46 s_47 H locs e_48 hH => ?_)
        exact x_iretX F hr hlk hH (by simp only [passW, if_pos c_1, if_neg c_38, e_44, if_pos c_45, e_48]) dX3_passWithin_87
      · refine lv_iload hx hb dX3_passWithin_70 (lv_at hl 0 rfl) ?_
        refine lv_goto (tgt := 87) hx hb dX3_passWithin_72 (by decide) ?_
        exact x_iretX F hr hlk hH (by simp only [passW, if_pos c_1, if_neg c_38, e_44, if_neg c_45]) dX3_passWithin_87
    · refine lv_iconst (v := 1) hx hb dX3_passWithin_18 (by decide) ?_
      refine lv_goto (tgt := 23) hx hb dX3_passWithin_19 (by decide) ?_
      refine lv_istore (lv' := [(7, .int 1), (6, .int 1), (0, .ref (ea E 0)), (1, .ref (ea E (5 + t))), (2, .int (nI pl)), (3, .int (nI len)), (4, .int worth), (5, .int (bz back))]) hx hb dX3_passWithin_23 hl (by decide) rfl (fun ls hl => ?_)
      refine lv_iload hx hb dX3_passWithin_25 (lv_at hl 1 rfl) ?_
      refine lv_if_eq (tgt := 34) hx hb dX3_passWithin_27 (by decide) (fun c_49 => absurd c_49 (by decide)) (fun _ => ?_)
      refine lv_iconst (v := 0) hx hb dX3_passWithin_30 (by decide) ?_
      refine lv_goto (tgt := 39) hx hb dX3_passWithin_31 (by decide) ?_
      refine lv_istore (lv' := [(8, .int 0), (7, .int 1), (6, .int 1), (0, .ref (ea E 0)), (1, .ref (ea E (5 + t))), (2, .int (nI pl)), (3, .int (nI len)), (4, .int worth), (5, .int (bz back))]) hx hb dX3_passWithin_39 hl (by decide) rfl (fun ls hl => ?_)
      refine lv_iload hx hb dX3_passWithin_41 (lv_at hl 0 rfl) ?_
      refine lv_if_lt (tgt := 65) hx hb dX3_passWithin_43 (by decide) (fun c_50 => absurd c_50 (by decide)) (fun _ => ?_)
      refine lv_iload hx hb dX3_passWithin_46 (lv_at hl 2 rfl) ?_
      refine lv_if_ne (tgt := 56) hx hb dX3_passWithin_48 (by decide) (fun _ => ?_) (fun c_51 => absurd c_51 (by decide))
      refine lv_aload_n hx hb dX3_passWithin_56 rfl (lv_at hl 3 rfl) ?_
      refine lv_aload_n hx hb dX3_passWithin_57 rfl (lv_at hl 4 rfl) ?_
      refine lv_iload hx hb dX3_passWithin_58 (lv_at hl 7 rfl) ?_
      refine x_calliX F hH 0 (F.lt (by omega)) (vv0 (by decide)) rfl (c_X3_pay l F.ad σ μ t worth (by omega)) cw_X3_91 rfl rfl ⟨(show 2 + 1 ≤ 21 + 2 * n by omega), (show 8 + (3 + 11) + 40 * (2) ≤ 40 * (21 + 2 * n) by omega)⟩ rfl hl.1 rfl (Nat.le_of_ble_eq_true rfl) ⟨Nat.zero_le _, Nat.zero_le _⟩ dX3_passWithin_60 (fun r_52 s_53 H locs e_54 hH => ?_)
      have z10 : s_53 21 = pr := (X3_pay_21 (by omega) e_54).trans hσ
      refine lv_istore (lv' := [(8, .int r_52), (7, .int 1), (6, .int 1), (0, .ref (ea E 0)), (1, .ref (ea E (5 + t))), (2, .int (nI pl)), (3, .int (nI len)), (4, .int worth), (5, .int (bz back))]) hx hb dX3_passWithin_63 hl (by decide) rfl (fun ls hl => ?_)
      refine lv_iload hx hb dX3_passWithin_65 (lv_at hl 0 rfl) ?_
      refine lv_if_ge (tgt := 75) hx hb dX3_passWithin_67 (by decide) (fun c_55 => ?_) (fun c_55 => ?_)
      · refine lv_aload_n hx hb dX3_passWithin_75 rfl (lv_at hl 3 rfl) ?_
        refine lv_iload_n hx hb dX3_passWithin_76 rfl (lv_at hl 5 rfl) ?_
        refine lv_iconst (v := 1) hx hb dX3_passWithin_77 (by decide) ?_
        refine lv_iadd hx hb dX3_passWithin_78 ?_
        refine x_top (nI_add pl 1) ?_
        refine lv_iload_n hx hb dX3_passWithin_79 rfl (lv_at hl 6 rfl) ?_
        refine lv_iload hx hb dX3_passWithin_80 (lv_at hl 7 rfl) ?_
        refine lv_iload hx hb dX3_passWithin_82 (lv_at hl 8 rfl) ?_
        refine x_calliX F hH 0 (F.lt (by omega)) (vv0 (by decide)) rfl (hrec s_53 μ z10) cw_X3_105 rfl rfl ⟨(show 20 + 2 * n + 1 ≤ 21 + 2 * n by omega), (show 8 + (7 + 11) + 40 * (20 + 2 * n) ≤ 40 * (21 + 2 * n) by omega)⟩ rfl hl.1 rfl (Nat.le_of_ble_eq_true rfl) ⟨Nat.zero_le _, Nat.zero_le _⟩ dX3_passWithin_84 (fun r_56 s_57 H locs e_58 hH => ?_)
        exact x_iretX F hr hlk hH (by simp only [passW, if_pos c_1, if_pos c_38, e_54, if_pos c_55, e_58]) dX3_passWithin_87
      · refine lv_iload hx hb dX3_passWithin_70 (lv_at hl 0 rfl) ?_
        refine lv_goto (tgt := 87) hx hb dX3_passWithin_72 (by decide) ?_
        exact x_iretX F hr hlk hH (by simp only [passW, if_pos c_1, if_pos c_38, e_54, if_neg c_55]) dX3_passWithin_87
def passF (len : Nat) (worth back : Int32) : Nat → St → Nat → Int32 × St
  | 0, σ, _ => (0, σ)
  | n + 1, σ, pl =>
    if (nI len) ≤ (nI pl) then
      (nI len, σ)
    else
      if (nI pl) < 6 then
        match f_X3_begin σ (tn (σ 21 pl)) with
        | (r_7, s_8) =>
          if r_7 = 0 then
            ((-11), s_8)
          else
            match passW len worth back (passF len worth back n) (becL (11 + pl) (tn (σ 21 pl)) 5 0 s_8) (tn (σ 21 pl)) pl with
            | (r_11, s_12) =>
              if 0 ≤ r_11 then
                match f_X3_end s_12 r_11 with
                | (r_15, s_16) =>
                  (r_15, s_16)
              else
                if (bz back) = 0 then
                  match f_X3_end s_12 r_11 with
                  | (r_19, s_20) =>
                    (r_19, s_20)
                else
                  match f_X3_end (becL (tn (σ 21 pl)) (11 + pl) 5 0 s_12) r_11 with
                  | (r_22, s_23) =>
                    (r_22, s_23)
      else
        (nI len, σ)
set_option maxRecDepth 100000 in
set_option maxHeartbeats 4000000 in
theorem c_X3_passStep (l : Launch) {E : EV} (hA : AD E) (len : Nat) (worth back : Int32) (hlen : len < 7) (pr : Nat → Int32) (hp : ∀ k, k < len → ¬ f_X3_isTill (pr k) = 0) (n : Nat) (pl : Nat) (hpl : pl < 7) (hrec0 : pl < 6 → ∀ (σ μ : St), σ 21 = pr → Met l yX3_passFrom (.code yX3_passFrom cX3_passFrom 7 (some .int) :: gtbl) (rmL (20 + 2 * n)) (va_Pc [.ref (ea E 0), .int (nI (pl + 1)), .int (nI len), .int worth, .int (bz back)] (PR E σ μ)) (QI E (passF len worth back n σ (pl + 1)).1 (passF len worth back n σ (pl + 1)).2 μ) 0 0 (eA E)) (σ μ : St) (hσ : σ 21 = pr) : Met l yX3_passFrom (.code yX3_passFrom cX3_passFrom 7 (some .int) :: gtbl) (rmL (20 + 2 * (n + 1))) (va_Pc [.ref (ea E 0), .int (nI (pl)), .int (nI len), .int worth, .int (bz back)] (PR E σ μ)) (QI E (passF len worth back (n + 1) σ pl).1 (passF len worth back (n + 1) σ pl).2 μ) 0 0 (eA E) := by
  refine x_met (own := RX3) (by decide) rfl hA (Nat.le_of_ble_eq_true rfl) ?_
  intro p e s m below meth c ls F hr hlk hH hl
  have hl : lv_has ls 7 [(0, .ref (ea E 0)), (1, .int (nI pl)), (2, .int (nI len)), (3, .int worth), (4, .int (bz back))] := hl
  have hx := F.hx
  have hb := F.hb
  refine lv_iload_n hx hb dX3_passFrom_0 rfl (lv_at hl 1 rfl) ?_
  refine lv_iload_n hx hb dX3_passFrom_1 rfl (lv_at hl 2 rfl) ?_
  refine lv_icmp_ge (tgt := 11) hx hb dX3_passFrom_2 (by decide) (fun c_1 => ?_) (fun c_1 => ?_)
  · have q_2 := (nI_leI (a := len) (b := pl) (by omega) (by omega)).mp c_1
    refine lv_iload_n hx hb dX3_passFrom_11 rfl (lv_at hl 2 rfl) ?_
    exact x_iretX F hr hlk hH (by simp only [passF, if_pos c_1]) dX3_passFrom_12
  · have q_3 := mt (nI_leI (a := len) (b := pl) (by omega) (by omega)).mpr c_1
    refine lv_iload_n hx hb dX3_passFrom_5 rfl (lv_at hl 1 rfl) ?_
    refine lv_bipush (v := 6) hx hb dX3_passFrom_6 (by decide) ?_
    refine lv_icmp_lt (tgt := 13) hx hb dX3_passFrom_8 (by decide) (fun c_4 => ?_) (fun c_4 => ?_)
    · have q_5 := (fq_lt (a := pl) (b := 6) rfl (by omega) (by omega)).mp c_4
      refine lv_aload_n hx hb dX3_passFrom_13 rfl (lv_at hl 0 rfl) ?_
      refine g_X3_tills F hH kw_98 dX3_passFrom_14 ?_
      refine lv_aload_n hx hb dX3_passFrom_17 rfl (lv_at hl 0 rfl) ?_
      refine g_X3_places F hH kw_104 dX3_passFrom_18 ?_
      refine lv_iload_n hx hb dX3_passFrom_21 rfl (lv_at hl 1 rfl) ?_
      refine a_places F hH pl (by omega) dX3_passFrom_22 ?_
      have q_6 : σ 21 pl = nI (tn (σ 21 pl)) ∧ tn (σ 21 pl) < 8 := X3_isTill_n (by rw [hσ]; exact hp pl (by omega))
      have q_6b := q_6.2
      refine x_top q_6.1 ?_
      refine a_tills F hH (tn (σ 21 pl)) (by omega) dX3_passFrom_23 ?_
      refine lv_astore (lv' := [(5, .ref (ea E (5 + (tn (σ 21 pl))))), (0, .ref (ea E 0)), (1, .int (nI pl)), (2, .int (nI len)), (3, .int worth), (4, .int (bz back))]) hx hb dX3_passFrom_24 hl (by decide) rfl (fun ls hl => ?_)
      refine lv_aload_n hx hb dX3_passFrom_26 rfl (lv_at hl 1 rfl) ?_
      refine lv_aload hx hb dX3_passFrom_27 (lv_at hl 0 rfl) ?_
      refine x_calliX F hH 0 (F.lt (by omega)) (vv0 (by decide)) rfl (c_X3_begin l F.ad σ μ (tn (σ 21 pl)) (by omega)) cw_X3_69 rfl rfl ⟨(show 2 + 1 ≤ 20 + 2 * (n + 1) by omega), (show 8 + (2 + 11) + 40 * (2) ≤ 40 * (20 + 2 * (n + 1)) by omega)⟩ rfl hl.1 rfl (Nat.le_of_ble_eq_true rfl) ⟨Nat.zero_le _, Nat.zero_le _⟩ dX3_passFrom_29 (fun r_7 s_8 H locs e_9 hH => ?_)
      have z1 : s_8 21 = pr := (X3_begin_21 e_9).trans hσ
      refine lv_if_ne (tgt := 38) hx hb dX3_passFrom_32 (by decide) (fun c_10 => ?_) (fun c_10 => ?_)
      · refine lv_aload_n hx hb dX3_passFrom_38 rfl (lv_at hl 1 rfl) ?_
        refine g_X3_coinsBefore F hH kw_103 dX3_passFrom_39 ?_
        refine lv_iload_n hx hb dX3_passFrom_42 rfl (lv_at hl 2 rfl) ?_
        refine a_cb F hH pl (by omega) dX3_passFrom_43 ?_
        refine lv_aload hx hb dX3_passFrom_44 (lv_at hl 0 rfl) ?_
        refine g_X2_coins F hH (t := tn (σ 21 pl)) (by omega) kw_58 dX3_passFrom_46 ?_
        refine x_callv F hH (13 + (11 + pl)) (F.lt (by omega)) (vv2 (by omega)) rfl (c_X0_become l F.ad s_8 μ (11 + pl) (tn (σ 21 pl)) (by omega) (by omega)) cw_X3_102 rfl rfl ⟨(show 0 + 1 ≤ 20 + 2 * (n + 1) by omega), (show 8 + (3 + 11) + 40 * (0) ≤ 40 * (20 + 2 * (n + 1)) by omega)⟩ rfl hl.1 rfl (Nat.le_of_ble_eq_true rfl) ⟨Nat.zero_le _, Nat.zero_le _⟩ dX3_passFrom_49 (fun H locs hH => ?_)
        have z2 : (becL (11 + pl) (tn (σ 21 pl)) 5 0 s_8) 21 = pr := (becL_row (by omega) 5 0 s_8).trans z1
        refine lv_aload_n hx hb dX3_passFrom_52 rfl (lv_at hl 1 rfl) ?_
        refine lv_aload hx hb dX3_passFrom_53 (lv_at hl 0 rfl) ?_
        refine lv_iload_n hx hb dX3_passFrom_55 rfl (lv_at hl 2 rfl) ?_
        refine lv_iload_n hx hb dX3_passFrom_56 rfl (lv_at hl 3 rfl) ?_
        refine lv_iload_n hx hb dX3_passFrom_57 rfl (lv_at hl 4 rfl) ?_
        refine lv_iload hx hb dX3_passFrom_58 (lv_at hl 5 rfl) ?_
        refine x_calliX F hH 0 (F.lt (by omega)) (vv0 (by decide)) rfl (c_X3_passWithin l F.ad len worth back hlen pr n (passF len worth back n) pl (by omega) (hrec0 (by omega)) (becL (11 + pl) (tn (σ 21 pl)) 5 0 s_8) μ z2 (tn (σ 21 pl)) (by omega)) cw_X3_167 rfl rfl ⟨(show 21 + 2 * n + 1 ≤ 20 + 2 * (n + 1) by omega), (show 8 + (9 + 11) + 40 * (21 + 2 * n) ≤ 40 * (20 + 2 * (n + 1)) by omega)⟩ rfl hl.1 rfl (Nat.le_of_ble_eq_true rfl) ⟨Nat.zero_le _, Nat.zero_le _⟩ dX3_passFrom_60 (fun r_11 s_12 H locs e_13 hH => ?_)
        refine lv_istore (lv' := [(6, .int r_11), (5, .ref (ea E (5 + (tn (σ 21 pl))))), (0, .ref (ea E 0)), (1, .int (nI pl)), (2, .int (nI len)), (3, .int worth), (4, .int (bz back))]) hx hb dX3_passFrom_63 hl (by decide) rfl (fun ls hl => ?_)
        refine lv_iload hx hb dX3_passFrom_65 (lv_at hl 0 rfl) ?_
        refine lv_if_ge (tgt := 89) hx hb dX3_passFrom_67 (by decide) (fun c_14 => ?_) (fun c_14 => ?_)
        · refine lv_aload_n hx hb dX3_passFrom_89 rfl (lv_at hl 2 rfl) ?_
          refine lv_iload hx hb dX3_passFrom_90 (lv_at hl 0 rfl) ?_
          refine x_calliX F hH 0 (F.lt (by omega)) (vv0 (by decide)) rfl (c_X3_end l F.ad s_12 μ r_11) cw_X3_73 rfl rfl ⟨(show 1 + 1 ≤ 20 + 2 * (n + 1) by omega), (show 8 + (2 + 11) + 40 * (1) ≤ 40 * (20 + 2 * (n + 1)) by omega)⟩ rfl hl.1 rfl (Nat.le_of_ble_eq_true rfl) ⟨Nat.zero_le _, Nat.zero_le _⟩ dX3_passFrom_92 (fun r_15 s_16 H locs e_17 hH => ?_)
          exact x_iretX F hr hlk hH (by simp only [passF, if_neg c_1, if_pos c_4, e_9, if_neg c_10, e_13, if_pos c_14, e_17]) dX3_passFrom_95
        · refine lv_iload hx hb dX3_passFrom_70 (lv_at hl 6 rfl) ?_
          refine lv_if_eq (tgt := 89) hx hb dX3_passFrom_72 (by decide) (fun c_18 => ?_) (fun c_18 => ?_)
          · refine lv_aload_n hx hb dX3_passFrom_89 rfl (lv_at hl 2 rfl) ?_
            refine lv_iload hx hb dX3_passFrom_90 (lv_at hl 0 rfl) ?_
            refine x_calliX F hH 0 (F.lt (by omega)) (vv0 (by decide)) rfl (c_X3_end l F.ad s_12 μ r_11) cw_X3_73 rfl rfl ⟨(show 1 + 1 ≤ 20 + 2 * (n + 1) by omega), (show 8 + (2 + 11) + 40 * (1) ≤ 40 * (20 + 2 * (n + 1)) by omega)⟩ rfl hl.1 rfl (Nat.le_of_ble_eq_true rfl) ⟨Nat.zero_le _, Nat.zero_le _⟩ dX3_passFrom_92 (fun r_19 s_20 H locs e_21 hH => ?_)
            exact x_iretX F hr hlk hH (by simp only [passF, if_neg c_1, if_pos c_4, e_9, if_neg c_10, e_13, if_neg c_14, if_pos c_18, e_21]) dX3_passFrom_95
          · refine lv_aload hx hb dX3_passFrom_75 (lv_at hl 1 rfl) ?_
            refine g_X2_coins F hH (t := tn (σ 21 pl)) (by omega) kw_58 dX3_passFrom_77 ?_
            refine lv_aload_n hx hb dX3_passFrom_80 rfl (lv_at hl 2 rfl) ?_
            refine g_X3_coinsBefore F hH kw_103 dX3_passFrom_81 ?_
            refine lv_iload_n hx hb dX3_passFrom_84 rfl (lv_at hl 3 rfl) ?_
            refine a_cb F hH pl (by omega) dX3_passFrom_85 ?_
            refine x_callv F hH (13 + (tn (σ 21 pl))) (F.lt (by omega)) (vv2 (by omega)) rfl (c_X0_become l F.ad s_12 μ (tn (σ 21 pl)) (11 + pl) (by omega) (by omega)) cw_X3_102 rfl rfl ⟨(show 0 + 1 ≤ 20 + 2 * (n + 1) by omega), (show 8 + (3 + 11) + 40 * (0) ≤ 40 * (20 + 2 * (n + 1)) by omega)⟩ rfl hl.1 rfl (Nat.le_of_ble_eq_true rfl) ⟨Nat.zero_le _, Nat.zero_le _⟩ dX3_passFrom_86 (fun H locs hH => ?_)
            refine lv_aload_n hx hb dX3_passFrom_89 rfl (lv_at hl 2 rfl) ?_
            refine lv_iload hx hb dX3_passFrom_90 (lv_at hl 0 rfl) ?_
            refine x_calliX F hH 0 (F.lt (by omega)) (vv0 (by decide)) rfl (c_X3_end l F.ad (becL (tn (σ 21 pl)) (11 + pl) 5 0 s_12) μ r_11) cw_X3_73 rfl rfl ⟨(show 1 + 1 ≤ 20 + 2 * (n + 1) by omega), (show 8 + (2 + 11) + 40 * (1) ≤ 40 * (20 + 2 * (n + 1)) by omega)⟩ rfl hl.1 rfl (Nat.le_of_ble_eq_true rfl) ⟨Nat.zero_le _, Nat.zero_le _⟩ dX3_passFrom_92 (fun r_22 s_23 H locs e_24 hH => ?_)
            exact x_iretX F hr hlk hH (by simp only [passF, if_neg c_1, if_pos c_4, e_9, if_neg c_10, e_13, if_neg c_14, if_neg c_18, e_24]) dX3_passFrom_95
      · refine lv_bipush (v := -11) hx hb dX3_passFrom_35 (by decide) ?_
        exact x_iretX F hr hlk hH (by simp only [passF, if_neg c_1, if_pos c_4, e_9, if_pos c_10]) dX3_passFrom_37
    · have q_25 := mt (fq_lt (a := pl) (b := 6) rfl (by omega) (by omega)).mpr c_4
      refine lv_iload_n hx hb dX3_passFrom_11 rfl (lv_at hl 2 rfl) ?_
      exact x_iretX F hr hlk hH (by simp only [passF, if_neg c_1, if_neg c_4]) dX3_passFrom_12
theorem c_X3_passFrom (l : Launch) {E : EV} (hA : AD E) (len : Nat) (worth back : Int32) (hlen : len < 7) (pr : Nat → Int32) (hp : ∀ k, k < len → ¬ f_X3_isTill (pr k) = 0) : ∀ (n pl : Nat), pl + n = 7 → pl < 7 → ∀ (σ μ : St), σ 21 = pr → Met l yX3_passFrom (.code yX3_passFrom cX3_passFrom 7 (some .int) :: gtbl) (rmL (20 + 2 * n)) (va_Pc [.ref (ea E 0), .int (nI (pl)), .int (nI len), .int worth, .int (bz back)] (PR E σ μ)) (QI E (passF len worth back n σ pl).1 (passF len worth back n σ pl).2 μ) 0 0 (eA E) := by
  intro n
  induction n with
  | zero => intro pl h1 h2; exact absurd h1 (by omega)
  | succ n ih =>
    intro pl h1 h2 σ μ hσ
    exact c_X3_passStep l hA len worth back hlen pr hp n pl h2 (fun h3 => ih (pl + 1) (by omega) (by omega)) σ μ hσ
theorem rrL_spec (len : Nat) (hlen : len ≤ 6) : ∀ (n : Nat) (rest : Int32) (σ s1 : St) (r : Int32), rrL len n rest σ = (r, s1) → ¬ r = -1 → n ≤ len → (∀ k, n ≤ k → k < len → ¬ f_X3_isTill (σ 21 k) = 0) → r = nI len ∧ ∀ k, k < len → ¬ f_X3_isTill (s1 21 k) = 0 := by
  intro n
  induction n with
  | zero =>
    intro rest σ s1 r e hr hn hk
    cases e
    exact ⟨rfl, fun k h => hk k (Nat.zero_le _) h⟩
  | succ n ih =>
    intro rest σ s1 r e hr hn hk
    rw [rrL] at e
    split at e
    · cases e; exact absurd rfl hr
    · rename_i hc
      refine ih _ _ _ _ e hr (by omega) (fun k h1 h2 => ?_)
      by_cases hkn : k = n
      · rw [hkn, up_same]; exact hc
      · rw [up_at hkn]; exact hk k (by omega) h2
theorem readRow_spec {σ s1 : St} {row r : Int32} (e : f_X3_readRow σ row = (r, s1)) (hr : ¬ r = -1) : (r = nI (tn r) ∧ tn r < 7) ∧ ∀ k, k < tn r → ¬ f_X3_isTill (s1 21 k) = 0 := by
  unfold f_X3_readRow at e
  split at e
  · cases e; exact absurd rfl hr
  · have h1 := dgL_le row 5 1 10
    obtain ⟨h2, h3⟩ := rrL_spec _ (by omega) _ _ _ _ _ e hr (Nat.le_refl _) (fun k a b => absurd b (by omega))
    have h4 : tn r = dgL row 5 1 10 := by rw [h2, tn, nI_clamp (by omega)]
    rw [h4]
    exact ⟨⟨h2, by omega⟩, h3⟩
