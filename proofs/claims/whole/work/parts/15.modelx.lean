def firstM (worth : Int32) : Nat → Nat → St → Int32 × St
  | 0, _, μ => (-2, μ)
  | n + 1, k, μ => match f_X4_hold μ k with
    | (r, μ1) => if r = 0 then
        match f_X4_leave μ1 0 with
        | (_, μ2) => if bz (μ2 2 k) = 0 then
            match lacksL k 5 worth μ2 with
            | (r3, μ3) => if r3 = 0 then (nI k, μ3) else firstM worth n (k + 1) μ3
          else firstM worth n (k + 1) μ2
      else firstM worth n (k + 1) μ1
def f_X4_till (μ : St) (t : Int32) (most : Int32) : Int32 × St :=
  if (f_X4_isTill t) = 0 then
    ((-1), (up μ 0 0 0))
  else
    if (f_X4_in most 0 200) = 0 then
      ((-1), (up μ 0 0 0))
    else
      (1, (empL (tn t) 5 0 (up (up (up (up μ 0 0 0) 1 (tn t) 1) 2 (tn t) 0) 3 (tn t) most)))
set_option maxRecDepth 100000 in
set_option maxHeartbeats 4000000 in
theorem c_X4_till (l : Launch) {E : EV} (hA : AD E) (σ μ : St) (t : Int32) (most : Int32) : Met l yX4_till (.code yX4_till cX4_till 3 (some .int) :: gtbl) (rmL 2) (va_Pc [.ref (ea E 47), .int t, .int most] (PR E σ μ)) (QI E (f_X4_till μ t most).1 σ (f_X4_till μ t most).2) 0 0 (eA E) := by
  refine x_met (own := RX4) (by decide) rfl hA (Nat.le_of_ble_eq_true rfl) ?_
  intro p e s m below meth c ls F hr hlk hH hl
  have hl : lv_has ls 3 [(0, .ref (ea E 47)), (1, .int t), (2, .int most)] := hl
  have hx := F.hx
  have hb := F.hb
  refine lv_aload_n hx hb dX4_till_0 rfl (lv_at hl 0 rfl) ?_
  refine lv_iconst (v := 0) hx hb dX4_till_1 (by decide) ?_
  refine p_X4_thrown F hH kw_297 dX4_till_2 (fun H locs hH => ?_)
  refine lv_iload_n hx hb dX4_till_5 rfl (lv_at hl 1 rfl) ?_
  refine x_pure hx hb F.hml F.hown F.hts (c_X4_isTill l t) cw_X4_68 rfl rfl ⟨Nat.le_of_ble_eq_true rfl, Nat.le_of_ble_eq_true rfl⟩ rfl hl.1 rfl (Nat.le_of_ble_eq_true rfl) ⟨Nat.zero_le _, Nat.zero_le _⟩ dX4_till_6 ?_
  refine lv_if_eq (tgt := 23) hx hb dX4_till_9 (by decide) (fun c_1 => ?_) (fun c_1 => ?_)
  · refine lv_iconst (v := -1) hx hb dX4_till_23 (by decide) ?_
    exact x_iretM F hr hlk hH (by simp only [f_X4_till, if_pos c_1]) dX4_till_24
  · have q_2 := X4_isTill_n c_1
    have q_2b := q_2.2
    refine lv_iload_n hx hb dX4_till_12 rfl (lv_at hl 2 rfl) ?_
    refine lv_iconst (v := 0) hx hb dX4_till_13 (by decide) ?_
    refine lv_sipush (v := 200) hx hb dX4_till_14 (by decide) ?_
    refine x_pure hx hb F.hml F.hown F.hts (c_X4_in l most 0 200) cw_X4_33 rfl rfl ⟨Nat.le_of_ble_eq_true rfl, Nat.le_of_ble_eq_true rfl⟩ rfl hl.1 rfl (Nat.le_of_ble_eq_true rfl) ⟨Nat.zero_le _, Nat.zero_le _⟩ dX4_till_17 ?_
    refine lv_if_ne (tgt := 25) hx hb dX4_till_20 (by decide) (fun c_3 => ?_) (fun c_3 => ?_)
    · refine lv_aload_n hx hb dX4_till_25 rfl (lv_at hl 0 rfl) ?_
      refine g_X4_isThere F hH kw_298 dX4_till_26 ?_
      refine lv_iload_n hx hb dX4_till_29 rfl (lv_at hl 1 rfl) ?_
      refine x_top q_2.1 ?_
      refine lv_iconst (v := 1) hx hb dX4_till_30 (by decide) ?_
      refine x_top bz_1.symm ?_
      refine s_mth F hH (tn t) (by omega) dX4_till_31 (fun H locs hH => ?_)
      refine lv_aload_n hx hb dX4_till_32 rfl (lv_at hl 0 rfl) ?_
      refine g_X4_isShut F hH kw_299 dX4_till_33 ?_
      refine lv_iload_n hx hb dX4_till_36 rfl (lv_at hl 1 rfl) ?_
      refine x_top q_2.1 ?_
      refine lv_iconst (v := 0) hx hb dX4_till_37 (by decide) ?_
      refine x_top bz_0.symm ?_
      refine s_msh F hH (tn t) (by omega) dX4_till_38 (fun H locs hH => ?_)
      refine lv_aload_n hx hb dX4_till_39 rfl (lv_at hl 0 rfl) ?_
      refine g_X4_limit F hH kw_300 dX4_till_40 ?_
      refine lv_iload_n hx hb dX4_till_43 rfl (lv_at hl 1 rfl) ?_
      refine x_top q_2.1 ?_
      refine lv_iload_n hx hb dX4_till_44 rfl (lv_at hl 2 rfl) ?_
      refine s_mli F hH (tn t) (by omega) dX4_till_45 (fun H locs hH => ?_)
      refine lv_aload_n hx hb dX4_till_46 rfl (lv_at hl 0 rfl) ?_
      refine lv_iload_n hx hb dX4_till_47 rfl (lv_at hl 1 rfl) ?_
      refine x_top q_2.1 ?_
      refine x_callv F hH 47 (F.lt (by omega)) (vv4 0) rfl (c_X4_empty l F.ad σ (up (up (up (up μ 0 0 0) 1 (tn t) 1) 2 (tn t) 0) 3 (tn t) most) (tn t) (by omega)) cw_X4_72 rfl rfl ⟨Nat.le_of_ble_eq_true rfl, Nat.le_of_ble_eq_true rfl⟩ rfl hl.1 rfl (Nat.le_of_ble_eq_true rfl) ⟨Nat.zero_le _, Nat.zero_le _⟩ dX4_till_48 (fun H locs hH => ?_)
      refine lv_iconst (v := 1) hx hb dX4_till_51 (by decide) ?_
      exact x_iretM F hr hlk hH (by simp only [f_X4_till, if_neg c_1, if_neg c_3]) dX4_till_52
    · refine lv_iconst (v := -1) hx hb dX4_till_23 (by decide) ?_
      exact x_iretM F hr hlk hH (by simp only [f_X4_till, if_neg c_1, if_pos c_3]) dX4_till_24
def f_X4_drop (μ : St) (t : Int32) : Int32 × St :=
  if (f_X4_isTill t) = 0 then
    ((-1), (up μ 0 0 0))
  else
    if (bz ((up μ 0 0 0) 1 (tn t))) = 0 then
      (0, (empL (tn t) 5 0 (up (up μ 0 0 0) 1 (tn t) 0)))
    else
      (1, (empL (tn t) 5 0 (up (up μ 0 0 0) 1 (tn t) 0)))
set_option maxRecDepth 100000 in
set_option maxHeartbeats 4000000 in
theorem c_X4_drop (l : Launch) {E : EV} (hA : AD E) (σ μ : St) (t : Int32) : Met l yX4_drop (.code yX4_drop cX4_drop 3 (some .int) :: gtbl) (rmL 2) (va_Pc [.ref (ea E 47), .int t] (PR E σ μ)) (QI E (f_X4_drop μ t).1 σ (f_X4_drop μ t).2) 0 0 (eA E) := by
  refine x_met (own := RX4) (by decide) rfl hA (Nat.le_of_ble_eq_true rfl) ?_
  intro p e s m below meth c ls F hr hlk hH hl
  have hl : lv_has ls 3 [(0, .ref (ea E 47)), (1, .int t)] := hl
  have hx := F.hx
  have hb := F.hb
  refine lv_aload_n hx hb dX4_drop_0 rfl (lv_at hl 0 rfl) ?_
  refine lv_iconst (v := 0) hx hb dX4_drop_1 (by decide) ?_
  refine p_X4_thrown F hH kw_297 dX4_drop_2 (fun H locs hH => ?_)
  refine lv_iload_n hx hb dX4_drop_5 rfl (lv_at hl 1 rfl) ?_
  refine x_pure hx hb F.hml F.hown F.hts (c_X4_isTill l t) cw_X4_68 rfl rfl ⟨Nat.le_of_ble_eq_true rfl, Nat.le_of_ble_eq_true rfl⟩ rfl hl.1 rfl (Nat.le_of_ble_eq_true rfl) ⟨Nat.zero_le _, Nat.zero_le _⟩ dX4_drop_6 ?_
  refine lv_if_ne (tgt := 14) hx hb dX4_drop_9 (by decide) (fun c_1 => ?_) (fun c_1 => ?_)
  · have q_2 := X4_isTill_n c_1
    have q_2b := q_2.2
    refine lv_aload_n hx hb dX4_drop_14 rfl (lv_at hl 0 rfl) ?_
    refine g_X4_isThere F hH kw_298 dX4_drop_15 ?_
    refine lv_iload_n hx hb dX4_drop_18 rfl (lv_at hl 1 rfl) ?_
    refine x_top q_2.1 ?_
    refine a_mth F hH (tn t) (by omega) dX4_drop_19 ?_
    refine lv_if_eq (tgt := 27) hx hb dX4_drop_20 (by decide) (fun c_3 => ?_) (fun c_3 => ?_)
    · refine lv_iconst (v := 0) hx hb dX4_drop_27 (by decide) ?_
      refine lv_istore_n (lv' := [(2, .int 0), (0, .ref (ea E 47)), (1, .int t)]) hx hb dX4_drop_28 rfl hl (by decide) rfl (fun ls hl => ?_)
      refine lv_aload_n hx hb dX4_drop_29 rfl (lv_at hl 1 rfl) ?_
      refine g_X4_isThere F hH kw_298 dX4_drop_30 ?_
      refine lv_iload_n hx hb dX4_drop_33 rfl (lv_at hl 2 rfl) ?_
      refine x_top q_2.1 ?_
      refine lv_iconst (v := 0) hx hb dX4_drop_34 (by decide) ?_
      refine x_top bz_0.symm ?_
      refine s_mth F hH (tn t) (by omega) dX4_drop_35 (fun H locs hH => ?_)
      refine lv_aload_n hx hb dX4_drop_36 rfl (lv_at hl 1 rfl) ?_
      refine lv_iload_n hx hb dX4_drop_37 rfl (lv_at hl 2 rfl) ?_
      refine x_top q_2.1 ?_
      refine x_callv F hH 47 (F.lt (by omega)) (vv4 0) rfl (c_X4_empty l F.ad σ (up (up μ 0 0 0) 1 (tn t) 0) (tn t) (by omega)) cw_X4_72 rfl rfl ⟨Nat.le_of_ble_eq_true rfl, Nat.le_of_ble_eq_true rfl⟩ rfl hl.1 rfl (Nat.le_of_ble_eq_true rfl) ⟨Nat.zero_le _, Nat.zero_le _⟩ dX4_drop_38 (fun H locs hH => ?_)
      refine lv_iload_n hx hb dX4_drop_41 rfl (lv_at hl 0 rfl) ?_
      exact x_iretM F hr hlk hH (by simp only [f_X4_drop, if_neg c_1, if_pos c_3]) dX4_drop_42
    · refine lv_iconst (v := 1) hx hb dX4_drop_23 (by decide) ?_
      refine lv_goto (tgt := 28) hx hb dX4_drop_24 (by decide) ?_
      refine lv_istore_n (lv' := [(2, .int 1), (0, .ref (ea E 47)), (1, .int t)]) hx hb dX4_drop_28 rfl hl (by decide) rfl (fun ls hl => ?_)
      refine lv_aload_n hx hb dX4_drop_29 rfl (lv_at hl 1 rfl) ?_
      refine g_X4_isThere F hH kw_298 dX4_drop_30 ?_
      refine lv_iload_n hx hb dX4_drop_33 rfl (lv_at hl 2 rfl) ?_
      refine x_top q_2.1 ?_
      refine lv_iconst (v := 0) hx hb dX4_drop_34 (by decide) ?_
      refine x_top bz_0.symm ?_
      refine s_mth F hH (tn t) (by omega) dX4_drop_35 (fun H locs hH => ?_)
      refine lv_aload_n hx hb dX4_drop_36 rfl (lv_at hl 1 rfl) ?_
      refine lv_iload_n hx hb dX4_drop_37 rfl (lv_at hl 2 rfl) ?_
      refine x_top q_2.1 ?_
      refine x_callv F hH 47 (F.lt (by omega)) (vv4 0) rfl (c_X4_empty l F.ad σ (up (up μ 0 0 0) 1 (tn t) 0) (tn t) (by omega)) cw_X4_72 rfl rfl ⟨Nat.le_of_ble_eq_true rfl, Nat.le_of_ble_eq_true rfl⟩ rfl hl.1 rfl (Nat.le_of_ble_eq_true rfl) ⟨Nat.zero_le _, Nat.zero_le _⟩ dX4_drop_38 (fun H locs hH => ?_)
      refine lv_iload_n hx hb dX4_drop_41 rfl (lv_at hl 0 rfl) ?_
      exact x_iretM F hr hlk hH (by simp only [f_X4_drop, if_neg c_1, if_neg c_3]) dX4_drop_42
  · refine lv_iconst (v := -1) hx hb dX4_drop_12 (by decide) ?_
    exact x_iretM F hr hlk hH (by simp only [f_X4_drop, if_pos c_1]) dX4_drop_13
def f_X4_shut (μ : St) (t : Int32) (is : Int32) : Int32 × St :=
  if (f_X4_isTill t) = 0 then
    ((-1), (up μ 0 0 0))
  else
    match f_X4_hold (up μ 0 0 0) (tn t) with
    | (r_3, s_4) =>
      if r_3 = 0 then
        if (bz (s_4 2 (tn t))) = 0 then
          match f_X4_leave (up s_4 2 (tn t) is) 0 with
          | (r_8, s_9) =>
            (f_X4_told r_8 0, s_9)
        else
          match f_X4_leave (up s_4 2 (tn t) is) 0 with
          | (r_11, s_12) =>
            (f_X4_told r_11 1, s_12)
      else
        (f_X4_told r_3 0, s_4)
set_option maxRecDepth 100000 in
set_option maxHeartbeats 4000000 in
theorem c_X4_shut (l : Launch) {E : EV} (hA : AD E) (σ μ : St) (t : Int32) (is : Int32) : Met l yX4_shut (.code yX4_shut cX4_shut 5 (some .int) :: gtbl) (rmL 2) (va_Pc [.ref (ea E 47), .int t, .int (bz is)] (PR E σ μ)) (QI E (f_X4_shut μ t is).1 σ (f_X4_shut μ t is).2) 0 0 (eA E) := by
  refine x_met (own := RX4) (by decide) rfl hA (Nat.le_of_ble_eq_true rfl) ?_
  intro p e s m below meth c ls F hr hlk hH hl
  have hl : lv_has ls 5 [(0, .ref (ea E 47)), (1, .int t), (2, .int (bz is))] := hl
  have hx := F.hx
  have hb := F.hb
  refine lv_aload_n hx hb dX4_shut_0 rfl (lv_at hl 0 rfl) ?_
  refine lv_iconst (v := 0) hx hb dX4_shut_1 (by decide) ?_
  refine p_X4_thrown F hH kw_297 dX4_shut_2 (fun H locs hH => ?_)
  refine lv_iload_n hx hb dX4_shut_5 rfl (lv_at hl 1 rfl) ?_
  refine x_pure hx hb F.hml F.hown F.hts (c_X4_isTill l t) cw_X4_68 rfl rfl ⟨Nat.le_of_ble_eq_true rfl, Nat.le_of_ble_eq_true rfl⟩ rfl hl.1 rfl (Nat.le_of_ble_eq_true rfl) ⟨Nat.zero_le _, Nat.zero_le _⟩ dX4_shut_6 ?_
  refine lv_if_ne (tgt := 14) hx hb dX4_shut_9 (by decide) (fun c_1 => ?_) (fun c_1 => ?_)
  · have q_2 := X4_isTill_n c_1
    have q_2b := q_2.2
    refine lv_aload_n hx hb dX4_shut_14 rfl (lv_at hl 0 rfl) ?_
    refine lv_iload_n hx hb dX4_shut_15 rfl (lv_at hl 1 rfl) ?_
    refine x_top q_2.1 ?_
    refine x_calliM F hH 47 (F.lt (by omega)) (vv4 0) rfl (c_X4_hold l F.ad σ (up μ 0 0 0) (tn t) (by omega)) cw_X4_76 rfl rfl ⟨Nat.le_of_ble_eq_true rfl, Nat.le_of_ble_eq_true rfl⟩ rfl hl.1 rfl (Nat.le_of_ble_eq_true rfl) ⟨Nat.zero_le _, Nat.zero_le _⟩ dX4_shut_16 (fun r_3 s_4 H locs e_5 hH => ?_)
    refine lv_istore_n (lv' := [(3, .int r_3), (0, .ref (ea E 47)), (1, .int t), (2, .int (bz is))]) hx hb dX4_shut_19 rfl hl (by decide) rfl (fun ls hl => ?_)
    refine lv_iload_n hx hb dX4_shut_20 rfl (lv_at hl 0 rfl) ?_
    refine lv_if_eq (tgt := 30) hx hb dX4_shut_21 (by decide) (fun c_6 => ?_) (fun c_6 => ?_)
    · refine lv_aload_n hx hb dX4_shut_30 rfl (lv_at hl 1 rfl) ?_
      refine g_X4_isShut F hH kw_299 dX4_shut_31 ?_
      refine lv_iload_n hx hb dX4_shut_34 rfl (lv_at hl 2 rfl) ?_
      refine x_top q_2.1 ?_
      refine a_msh F hH (tn t) (by omega) dX4_shut_35 ?_
      refine lv_if_eq (tgt := 43) hx hb dX4_shut_36 (by decide) (fun c_7 => ?_) (fun c_7 => ?_)
      · refine lv_iconst (v := 0) hx hb dX4_shut_43 (by decide) ?_
        refine lv_istore (lv' := [(4, .int 0), (3, .int r_3), (0, .ref (ea E 47)), (1, .int t), (2, .int (bz is))]) hx hb dX4_shut_44 hl (by decide) rfl (fun ls hl => ?_)
        refine lv_aload_n hx hb dX4_shut_46 rfl (lv_at hl 2 rfl) ?_
        refine g_X4_isShut F hH kw_299 dX4_shut_47 ?_
        refine lv_iload_n hx hb dX4_shut_50 rfl (lv_at hl 3 rfl) ?_
        refine x_top q_2.1 ?_
        refine lv_iload_n hx hb dX4_shut_51 rfl (lv_at hl 4 rfl) ?_
        refine s_msh F hH (tn t) (by omega) dX4_shut_52 (fun H locs hH => ?_)
        refine lv_aload_n hx hb dX4_shut_53 rfl (lv_at hl 2 rfl) ?_
        refine lv_iconst (v := 0) hx hb dX4_shut_54 (by decide) ?_
        refine x_calliM F hH 47 (F.lt (by omega)) (vv4 0) rfl (c_X4_leave l F.ad σ (up s_4 2 (tn t) is) 0) cw_X4_82 rfl rfl ⟨Nat.le_of_ble_eq_true rfl, Nat.le_of_ble_eq_true rfl⟩ rfl hl.1 rfl (Nat.le_of_ble_eq_true rfl) ⟨Nat.zero_le _, Nat.zero_le _⟩ dX4_shut_55 (fun r_8 s_9 H locs e_10 hH => ?_)
        refine lv_iload hx hb dX4_shut_58 (lv_at hl 0 rfl) ?_
        refine x_pure hx hb F.hml F.hown F.hts (c_X4_told l r_8 0) cw_X4_79 rfl rfl ⟨Nat.le_of_ble_eq_true rfl, Nat.le_of_ble_eq_true rfl⟩ rfl hl.1 rfl (Nat.le_of_ble_eq_true rfl) ⟨Nat.zero_le _, Nat.zero_le _⟩ dX4_shut_60 ?_
        exact x_iretM F hr hlk hH (by simp only [f_X4_shut, if_neg c_1, e_5, if_pos c_6, if_pos c_7, e_10]) dX4_shut_63
      · refine lv_iconst (v := 1) hx hb dX4_shut_39 (by decide) ?_
        refine lv_goto (tgt := 44) hx hb dX4_shut_40 (by decide) ?_
        refine lv_istore (lv' := [(4, .int 1), (3, .int r_3), (0, .ref (ea E 47)), (1, .int t), (2, .int (bz is))]) hx hb dX4_shut_44 hl (by decide) rfl (fun ls hl => ?_)
        refine lv_aload_n hx hb dX4_shut_46 rfl (lv_at hl 2 rfl) ?_
        refine g_X4_isShut F hH kw_299 dX4_shut_47 ?_
        refine lv_iload_n hx hb dX4_shut_50 rfl (lv_at hl 3 rfl) ?_
        refine x_top q_2.1 ?_
        refine lv_iload_n hx hb dX4_shut_51 rfl (lv_at hl 4 rfl) ?_
        refine s_msh F hH (tn t) (by omega) dX4_shut_52 (fun H locs hH => ?_)
        refine lv_aload_n hx hb dX4_shut_53 rfl (lv_at hl 2 rfl) ?_
        refine lv_iconst (v := 0) hx hb dX4_shut_54 (by decide) ?_
        refine x_calliM F hH 47 (F.lt (by omega)) (vv4 0) rfl (c_X4_leave l F.ad σ (up s_4 2 (tn t) is) 0) cw_X4_82 rfl rfl ⟨Nat.le_of_ble_eq_true rfl, Nat.le_of_ble_eq_true rfl⟩ rfl hl.1 rfl (Nat.le_of_ble_eq_true rfl) ⟨Nat.zero_le _, Nat.zero_le _⟩ dX4_shut_55 (fun r_11 s_12 H locs e_13 hH => ?_)
        refine lv_iload hx hb dX4_shut_58 (lv_at hl 0 rfl) ?_
        refine x_pure hx hb F.hml F.hown F.hts (c_X4_told l r_11 1) cw_X4_79 rfl rfl ⟨Nat.le_of_ble_eq_true rfl, Nat.le_of_ble_eq_true rfl⟩ rfl hl.1 rfl (Nat.le_of_ble_eq_true rfl) ⟨Nat.zero_le _, Nat.zero_le _⟩ dX4_shut_60 ?_
        exact x_iretM F hr hlk hH (by simp only [f_X4_shut, if_neg c_1, e_5, if_pos c_6, if_neg c_7, e_13]) dX4_shut_63
    · refine lv_iload_n hx hb dX4_shut_24 rfl (lv_at hl 0 rfl) ?_
      refine lv_iconst (v := 0) hx hb dX4_shut_25 (by decide) ?_
      refine x_pure hx hb F.hml F.hown F.hts (c_X4_told l r_3 0) cw_X4_79 rfl rfl ⟨Nat.le_of_ble_eq_true rfl, Nat.le_of_ble_eq_true rfl⟩ rfl hl.1 rfl (Nat.le_of_ble_eq_true rfl) ⟨Nat.zero_le _, Nat.zero_le _⟩ dX4_shut_26 ?_
      exact x_iretM F hr hlk hH (by simp only [f_X4_shut, if_neg c_1, e_5, if_neg c_6]) dX4_shut_29
  · refine lv_iconst (v := -1) hx hb dX4_shut_12 (by decide) ?_
    exact x_iretM F hr hlk hH (by simp only [f_X4_shut, if_pos c_1]) dX4_shut_13
def f_X4_take (μ : St) (t : Int32) (worth : Int32) : Int32 × St :=
  if (f_X4_isTill t) = 0 then
    ((-1), (up μ 0 0 0))
  else
    if (f_X4_in worth 0 10000) = 0 then
      ((-1), (up μ 0 0 0))
    else
      match f_X4_hold (up μ 0 0 0) (tn t) with
      | (r_4, s_5) =>
        if r_4 = 0 then
          match f_X4_pay s_5 (tn t) worth with
          | (r_8, s_9) =>
            match f_X4_leave s_9 r_8 with
            | (r_11, s_12) =>
              (f_X4_told r_11 (sumL (s_12 5) 5 0 0), s_12)
        else
          (f_X4_told r_4 0, s_5)
set_option maxRecDepth 100000 in
set_option maxHeartbeats 4000000 in
theorem c_X4_take (l : Launch) {E : EV} (hA : AD E) (σ μ : St) (t : Int32) (worth : Int32) : Met l yX4_take (.code yX4_take cX4_take 4 (some .int) :: gtbl) (rmL 3) (va_Pc [.ref (ea E 47), .int t, .int worth] (PR E σ μ)) (QI E (f_X4_take μ t worth).1 σ (f_X4_take μ t worth).2) 0 0 (eA E) := by
  refine x_met (own := RX4) (by decide) rfl hA (Nat.le_of_ble_eq_true rfl) ?_
  intro p e s m below meth c ls F hr hlk hH hl
  have hl : lv_has ls 4 [(0, .ref (ea E 47)), (1, .int t), (2, .int worth)] := hl
  have hx := F.hx
  have hb := F.hb
  refine lv_aload_n hx hb dX4_take_0 rfl (lv_at hl 0 rfl) ?_
  refine lv_iconst (v := 0) hx hb dX4_take_1 (by decide) ?_
  refine p_X4_thrown F hH kw_297 dX4_take_2 (fun H locs hH => ?_)
  refine lv_iload_n hx hb dX4_take_5 rfl (lv_at hl 1 rfl) ?_
  refine x_pure hx hb F.hml F.hown F.hts (c_X4_isTill l t) cw_X4_68 rfl rfl ⟨Nat.le_of_ble_eq_true rfl, Nat.le_of_ble_eq_true rfl⟩ rfl hl.1 rfl (Nat.le_of_ble_eq_true rfl) ⟨Nat.zero_le _, Nat.zero_le _⟩ dX4_take_6 ?_
  refine lv_if_eq (tgt := 23) hx hb dX4_take_9 (by decide) (fun c_1 => ?_) (fun c_1 => ?_)
  · refine lv_iconst (v := -1) hx hb dX4_take_23 (by decide) ?_
    exact x_iretM F hr hlk hH (by simp only [f_X4_take, if_pos c_1]) dX4_take_24
  · have q_2 := X4_isTill_n c_1
    have q_2b := q_2.2
    refine lv_iload_n hx hb dX4_take_12 rfl (lv_at hl 2 rfl) ?_
    refine lv_iconst (v := 0) hx hb dX4_take_13 (by decide) ?_
    refine lv_sipush (v := 10000) hx hb dX4_take_14 (by decide) ?_
    refine x_pure hx hb F.hml F.hown F.hts (c_X4_in l worth 0 10000) cw_X4_33 rfl rfl ⟨Nat.le_of_ble_eq_true rfl, Nat.le_of_ble_eq_true rfl⟩ rfl hl.1 rfl (Nat.le_of_ble_eq_true rfl) ⟨Nat.zero_le _, Nat.zero_le _⟩ dX4_take_17 ?_
    refine lv_if_ne (tgt := 25) hx hb dX4_take_20 (by decide) (fun c_3 => ?_) (fun c_3 => ?_)
    · refine lv_aload_n hx hb dX4_take_25 rfl (lv_at hl 0 rfl) ?_
      refine lv_iload_n hx hb dX4_take_26 rfl (lv_at hl 1 rfl) ?_
      refine x_top q_2.1 ?_
      refine x_calliM F hH 47 (F.lt (by omega)) (vv4 0) rfl (c_X4_hold l F.ad σ (up μ 0 0 0) (tn t) (by omega)) cw_X4_76 rfl rfl ⟨Nat.le_of_ble_eq_true rfl, Nat.le_of_ble_eq_true rfl⟩ rfl hl.1 rfl (Nat.le_of_ble_eq_true rfl) ⟨Nat.zero_le _, Nat.zero_le _⟩ dX4_take_27 (fun r_4 s_5 H locs e_6 hH => ?_)
      refine lv_istore_n (lv' := [(3, .int r_4), (0, .ref (ea E 47)), (1, .int t), (2, .int worth)]) hx hb dX4_take_30 rfl hl (by decide) rfl (fun ls hl => ?_)
      refine lv_iload_n hx hb dX4_take_31 rfl (lv_at hl 0 rfl) ?_
      refine lv_if_eq (tgt := 41) hx hb dX4_take_32 (by decide) (fun c_7 => ?_) (fun c_7 => ?_)
      · refine lv_aload_n hx hb dX4_take_41 rfl (lv_at hl 1 rfl) ?_
        refine lv_aload_n hx hb dX4_take_42 rfl (lv_at hl 1 rfl) ?_
        refine lv_iload_n hx hb dX4_take_43 rfl (lv_at hl 2 rfl) ?_
        refine x_top q_2.1 ?_
        refine lv_iload_n hx hb dX4_take_44 rfl (lv_at hl 3 rfl) ?_
        refine x_calliM F hH 47 (F.lt (by omega)) (vv4 0) rfl (c_X4_pay l F.ad σ s_5 (tn t) worth (by omega)) cw_X4_89 rfl rfl ⟨Nat.le_of_ble_eq_true rfl, Nat.le_of_ble_eq_true rfl⟩ rfl hl.1 rfl (Nat.le_of_ble_eq_true rfl) ⟨Nat.zero_le _, Nat.zero_le _⟩ dX4_take_45 (fun r_8 s_9 H locs e_10 hH => ?_)
        refine x_calliM F hH 47 (F.lt (by omega)) (vv4 0) rfl (c_X4_leave l F.ad σ s_9 r_8) cw_X4_82 rfl rfl ⟨Nat.le_of_ble_eq_true rfl, Nat.le_of_ble_eq_true rfl⟩ rfl hl.1 rfl (Nat.le_of_ble_eq_true rfl) ⟨Nat.zero_le _, Nat.zero_le _⟩ dX4_take_48 (fun r_11 s_12 H locs e_13 hH => ?_)
        refine lv_istore_n (lv' := [(3, .int r_11), (0, .ref (ea E 47)), (1, .int t), (2, .int worth)]) hx hb dX4_take_51 rfl hl (by decide) rfl (fun ls hl => ?_)
        refine lv_iload_n hx hb dX4_take_52 rfl (lv_at hl 0 rfl) ?_
        refine lv_aload_n hx hb dX4_take_53 rfl (lv_at hl 1 rfl) ?_
        refine g_X4_paid F hH kw_306 dX4_take_54 ?_
        refine x_callsR F hH (c_X4_sum l F.ad σ s_12 5 (by omega)) cw_X4_64 rfl rfl ⟨Nat.le_of_ble_eq_true rfl, Nat.le_of_ble_eq_true rfl⟩ rfl hl.1 rfl (Nat.le_of_ble_eq_true rfl) ⟨Nat.zero_le _, Nat.zero_le _⟩ dX4_take_57 (fun H locs hH => ?_)
        refine x_pure hx hb F.hml F.hown F.hts (c_X4_told l r_11 (sumL (s_12 5) 5 0 0)) cw_X4_79 rfl rfl ⟨Nat.le_of_ble_eq_true rfl, Nat.le_of_ble_eq_true rfl⟩ rfl hl.1 rfl (Nat.le_of_ble_eq_true rfl) ⟨Nat.zero_le _, Nat.zero_le _⟩ dX4_take_60 ?_
        exact x_iretM F hr hlk hH (by simp only [f_X4_take, if_neg c_1, if_neg c_3, e_6, if_pos c_7, e_10, e_13]) dX4_take_63
      · refine lv_iload_n hx hb dX4_take_35 rfl (lv_at hl 0 rfl) ?_
        refine lv_iconst (v := 0) hx hb dX4_take_36 (by decide) ?_
        refine x_pure hx hb F.hml F.hown F.hts (c_X4_told l r_4 0) cw_X4_79 rfl rfl ⟨Nat.le_of_ble_eq_true rfl, Nat.le_of_ble_eq_true rfl⟩ rfl hl.1 rfl (Nat.le_of_ble_eq_true rfl) ⟨Nat.zero_le _, Nat.zero_le _⟩ dX4_take_37 ?_
        exact x_iretM F hr hlk hH (by simp only [f_X4_take, if_neg c_1, if_neg c_3, e_6, if_neg c_7]) dX4_take_40
    · refine lv_iconst (v := -1) hx hb dX4_take_23 (by decide) ?_
      exact x_iretM F hr hlk hH (by simp only [f_X4_take, if_neg c_1, if_pos c_3]) dX4_take_24
def f_X4_move (μ : St) (a : Int32) (b : Int32) (worth : Int32) (back : Int32) : Int32 × St :=
  if (f_X4_isTill a) = 0 then
    ((-1), (up μ 0 0 0))
  else
    if (f_X4_isTill b) = 0 then
      ((-1), (up μ 0 0 0))
    else
      if (f_X4_in worth 0 10000) = 0 then
        ((-1), (up μ 0 0 0))
      else
        match f_X4_hold (up μ 0 0 0) (tn a) with
        | (r_6, s_7) =>
          if r_6 = 0 then
            match f_X4_pay s_7 (tn a) worth with
            | (r_10, s_11) =>
              if r_10 = 0 then
                match f_X4_hold s_11 (tn b) with
                | (r_17, s_18) =>
                  if r_17 = 0 then
                    match f_X4_lay s_18 (tn b) 5 with
                    | (r_29, s_30) =>
                      match f_X4_leave s_30 r_29 with
                      | (r_32, s_33) =>
                        if r_32 = 0 then
                          match f_X4_leave s_33 r_32 with
                          | (r_36, s_37) =>
                            (f_X4_told r_36 (sumL (s_37 5) 5 0 0), s_37)
                        else
                          if (bz back) = 0 then
                            match f_X4_leave s_33 r_32 with
                            | (r_40, s_41) =>
                              (f_X4_told r_40 (sumL (s_41 5) 5 0 0), s_41)
                          else
                            match f_X4_leave (goL 8 (tn a) 5 5 0 s_33) r_32 with
                            | (r_43, s_44) =>
                              (f_X4_told r_43 (sumL (s_44 5) 5 0 0), s_44)
                  else
                    if (bz back) = 0 then
                      match f_X4_leave s_18 r_17 with
                      | (r_23, s_24) =>
                        (f_X4_told r_23 (sumL (s_24 5) 5 0 0), s_24)
                    else
                      match f_X4_leave (goL 8 (tn a) 5 5 0 s_18) r_17 with
                      | (r_26, s_27) =>
                        (f_X4_told r_26 (sumL (s_27 5) 5 0 0), s_27)
              else
                match f_X4_leave s_11 r_10 with
                | (r_14, s_15) =>
                  (f_X4_told r_14 (sumL (s_15 5) 5 0 0), s_15)
          else
            (f_X4_told r_6 0, s_7)
set_option maxRecDepth 100000 in
set_option maxHeartbeats 4000000 in
theorem c_X4_move (l : Launch) {E : EV} (hA : AD E) (σ μ : St) (a : Int32) (b : Int32) (worth : Int32) (back : Int32) : Met l yX4_move (.code yX4_move cX4_move 6 (some .int) :: gtbl) (rmL 3) (va_Pc [.ref (ea E 47), .int a, .int b, .int worth, .int (bz back)] (PR E σ μ)) (QI E (f_X4_move μ a b worth back).1 σ (f_X4_move μ a b worth back).2) 0 0 (eA E) := by
  refine x_met (own := RX4) (by decide) rfl hA (Nat.le_of_ble_eq_true rfl) ?_
  intro p e s m below meth c ls F hr hlk hH hl
  have hl : lv_has ls 6 [(0, .ref (ea E 47)), (1, .int a), (2, .int b), (3, .int worth), (4, .int (bz back))] := hl
  have hx := F.hx
  have hb := F.hb
  refine lv_aload_n hx hb dX4_move_0 rfl (lv_at hl 0 rfl) ?_
  refine lv_iconst (v := 0) hx hb dX4_move_1 (by decide) ?_
  refine p_X4_thrown F hH kw_297 dX4_move_2 (fun H locs hH => ?_)
  refine lv_iload_n hx hb dX4_move_5 rfl (lv_at hl 1 rfl) ?_
  refine x_pure hx hb F.hml F.hown F.hts (c_X4_isTill l a) cw_X4_68 rfl rfl ⟨Nat.le_of_ble_eq_true rfl, Nat.le_of_ble_eq_true rfl⟩ rfl hl.1 rfl (Nat.le_of_ble_eq_true rfl) ⟨Nat.zero_le _, Nat.zero_le _⟩ dX4_move_6 ?_
  refine lv_if_eq (tgt := 30) hx hb dX4_move_9 (by decide) (fun c_1 => ?_) (fun c_1 => ?_)
  · refine lv_iconst (v := -1) hx hb dX4_move_30 (by decide) ?_
    exact x_iretM F hr hlk hH (by simp only [f_X4_move, if_pos c_1]) dX4_move_31
  · have q_2 := X4_isTill_n c_1
    have q_2b := q_2.2
    refine lv_iload_n hx hb dX4_move_12 rfl (lv_at hl 2 rfl) ?_
    refine x_pure hx hb F.hml F.hown F.hts (c_X4_isTill l b) cw_X4_68 rfl rfl ⟨Nat.le_of_ble_eq_true rfl, Nat.le_of_ble_eq_true rfl⟩ rfl hl.1 rfl (Nat.le_of_ble_eq_true rfl) ⟨Nat.zero_le _, Nat.zero_le _⟩ dX4_move_13 ?_
    refine lv_if_eq (tgt := 30) hx hb dX4_move_16 (by decide) (fun c_3 => ?_) (fun c_3 => ?_)
    · refine lv_iconst (v := -1) hx hb dX4_move_30 (by decide) ?_
      exact x_iretM F hr hlk hH (by simp only [f_X4_move, if_neg c_1, if_pos c_3]) dX4_move_31
    · have q_4 := X4_isTill_n c_3
      have q_4b := q_4.2
      refine lv_iload_n hx hb dX4_move_19 rfl (lv_at hl 3 rfl) ?_
      refine lv_iconst (v := 0) hx hb dX4_move_20 (by decide) ?_
      refine lv_sipush (v := 10000) hx hb dX4_move_21 (by decide) ?_
      refine x_pure hx hb F.hml F.hown F.hts (c_X4_in l worth 0 10000) cw_X4_33 rfl rfl ⟨Nat.le_of_ble_eq_true rfl, Nat.le_of_ble_eq_true rfl⟩ rfl hl.1 rfl (Nat.le_of_ble_eq_true rfl) ⟨Nat.zero_le _, Nat.zero_le _⟩ dX4_move_24 ?_
      refine lv_if_ne (tgt := 32) hx hb dX4_move_27 (by decide) (fun c_5 => ?_) (fun c_5 => ?_)
      · refine lv_aload_n hx hb dX4_move_32 rfl (lv_at hl 0 rfl) ?_
        refine lv_iload_n hx hb dX4_move_33 rfl (lv_at hl 1 rfl) ?_
        refine x_top q_2.1 ?_
        refine x_calliM F hH 47 (F.lt (by omega)) (vv4 0) rfl (c_X4_hold l F.ad σ (up μ 0 0 0) (tn a) (by omega)) cw_X4_76 rfl rfl ⟨Nat.le_of_ble_eq_true rfl, Nat.le_of_ble_eq_true rfl⟩ rfl hl.1 rfl (Nat.le_of_ble_eq_true rfl) ⟨Nat.zero_le _, Nat.zero_le _⟩ dX4_move_34 (fun r_6 s_7 H locs e_8 hH => ?_)
        refine lv_istore (lv' := [(5, .int r_6), (0, .ref (ea E 47)), (1, .int a), (2, .int b), (3, .int worth), (4, .int (bz back))]) hx hb dX4_move_37 hl (by decide) rfl (fun ls hl => ?_)
        refine lv_iload hx hb dX4_move_39 (lv_at hl 0 rfl) ?_
        refine lv_if_eq (tgt := 51) hx hb dX4_move_41 (by decide) (fun c_9 => ?_) (fun c_9 => ?_)
        · refine lv_aload_n hx hb dX4_move_51 rfl (lv_at hl 1 rfl) ?_
          refine lv_iload_n hx hb dX4_move_52 rfl (lv_at hl 2 rfl) ?_
          refine x_top q_2.1 ?_
          refine lv_iload_n hx hb dX4_move_53 rfl (lv_at hl 4 rfl) ?_
          refine x_calliM F hH 47 (F.lt (by omega)) (vv4 0) rfl (c_X4_pay l F.ad σ s_7 (tn a) worth (by omega)) cw_X4_89 rfl rfl ⟨Nat.le_of_ble_eq_true rfl, Nat.le_of_ble_eq_true rfl⟩ rfl hl.1 rfl (Nat.le_of_ble_eq_true rfl) ⟨Nat.zero_le _, Nat.zero_le _⟩ dX4_move_54 (fun r_10 s_11 H locs e_12 hH => ?_)
          refine lv_istore (lv' := [(5, .int r_10), (0, .ref (ea E 47)), (1, .int a), (2, .int b), (3, .int worth), (4, .int (bz back))]) hx hb dX4_move_57 hl (by decide) rfl (fun ls hl => ?_)
          refine lv_iload hx hb dX4_move_59 (lv_at hl 0 rfl) ?_
          refine lv_if_ne (tgt := 117) hx hb dX4_move_61 (by decide) (fun c_13 => ?_) (fun c_13 => ?_)
          · refine lv_aload_n hx hb dX4_move_117 rfl (lv_at hl 1 rfl) ?_
            refine lv_iload hx hb dX4_move_118 (lv_at hl 0 rfl) ?_
            refine x_calliM F hH 47 (F.lt (by omega)) (vv4 0) rfl (c_X4_leave l F.ad σ s_11 r_10) cw_X4_82 rfl rfl ⟨Nat.le_of_ble_eq_true rfl, Nat.le_of_ble_eq_true rfl⟩ rfl hl.1 rfl (Nat.le_of_ble_eq_true rfl) ⟨Nat.zero_le _, Nat.zero_le _⟩ dX4_move_120 (fun r_14 s_15 H locs e_16 hH => ?_)
            refine lv_aload_n hx hb dX4_move_123 rfl (lv_at hl 1 rfl) ?_
            refine g_X4_paid F hH kw_306 dX4_move_124 ?_
            refine x_callsR F hH (c_X4_sum l F.ad σ s_15 5 (by omega)) cw_X4_64 rfl rfl ⟨Nat.le_of_ble_eq_true rfl, Nat.le_of_ble_eq_true rfl⟩ rfl hl.1 rfl (Nat.le_of_ble_eq_true rfl) ⟨Nat.zero_le _, Nat.zero_le _⟩ dX4_move_127 (fun H locs hH => ?_)
            refine x_pure hx hb F.hml F.hown F.hts (c_X4_told l r_14 (sumL (s_15 5) 5 0 0)) cw_X4_79 rfl rfl ⟨Nat.le_of_ble_eq_true rfl, Nat.le_of_ble_eq_true rfl⟩ rfl hl.1 rfl (Nat.le_of_ble_eq_true rfl) ⟨Nat.zero_le _, Nat.zero_le _⟩ dX4_move_130 ?_
            exact x_iretM F hr hlk hH (by simp only [f_X4_move, if_neg c_1, if_neg c_3, if_neg c_5, e_8, if_pos c_9, e_12, if_neg c_13, e_16]) dX4_move_133
          · refine lv_aload_n hx hb dX4_move_64 rfl (lv_at hl 1 rfl) ?_
            refine lv_iload_n hx hb dX4_move_65 rfl (lv_at hl 3 rfl) ?_
            refine x_top q_4.1 ?_
            refine x_calliM F hH 47 (F.lt (by omega)) (vv4 0) rfl (c_X4_hold l F.ad σ s_11 (tn b) (by omega)) cw_X4_76 rfl rfl ⟨Nat.le_of_ble_eq_true rfl, Nat.le_of_ble_eq_true rfl⟩ rfl hl.1 rfl (Nat.le_of_ble_eq_true rfl) ⟨Nat.zero_le _, Nat.zero_le _⟩ dX4_move_66 (fun r_17 s_18 H locs e_19 hH => ?_)
            refine lv_istore (lv' := [(5, .int r_17), (0, .ref (ea E 47)), (1, .int a), (2, .int b), (3, .int worth), (4, .int (bz back))]) hx hb dX4_move_69 hl (by decide) rfl (fun ls hl => ?_)
            refine lv_iload hx hb dX4_move_71 (lv_at hl 0 rfl) ?_
            refine lv_if_ne (tgt := 92) hx hb dX4_move_73 (by decide) (fun c_20 => ?_) (fun c_20 => ?_)
            · refine lv_iload hx hb dX4_move_92 (lv_at hl 0 rfl) ?_
              refine lv_istore (lv' := [(5, .int r_17), (0, .ref (ea E 47)), (1, .int a), (2, .int b), (3, .int worth), (4, .int (bz back))]) hx hb dX4_move_94 hl (by decide) rfl (fun ls hl => ?_)
              refine lv_iload hx hb dX4_move_96 (lv_at hl 0 rfl) ?_
              refine lv_if_eq (tgt := 117) hx hb dX4_move_98 (by decide) (fun c_21 => absurd c_21 c_20) (fun _ => ?_)
              refine lv_iload hx hb dX4_move_101 (lv_at hl 5 rfl) ?_
              refine lv_if_eq (tgt := 117) hx hb dX4_move_103 (by decide) (fun c_22 => ?_) (fun c_22 => ?_)
              · refine lv_aload_n hx hb dX4_move_117 rfl (lv_at hl 1 rfl) ?_
                refine lv_iload hx hb dX4_move_118 (lv_at hl 0 rfl) ?_
                refine x_calliM F hH 47 (F.lt (by omega)) (vv4 0) rfl (c_X4_leave l F.ad σ s_18 r_17) cw_X4_82 rfl rfl ⟨Nat.le_of_ble_eq_true rfl, Nat.le_of_ble_eq_true rfl⟩ rfl hl.1 rfl (Nat.le_of_ble_eq_true rfl) ⟨Nat.zero_le _, Nat.zero_le _⟩ dX4_move_120 (fun r_23 s_24 H locs e_25 hH => ?_)
                refine lv_aload_n hx hb dX4_move_123 rfl (lv_at hl 1 rfl) ?_
                refine g_X4_paid F hH kw_306 dX4_move_124 ?_
                refine x_callsR F hH (c_X4_sum l F.ad σ s_24 5 (by omega)) cw_X4_64 rfl rfl ⟨Nat.le_of_ble_eq_true rfl, Nat.le_of_ble_eq_true rfl⟩ rfl hl.1 rfl (Nat.le_of_ble_eq_true rfl) ⟨Nat.zero_le _, Nat.zero_le _⟩ dX4_move_127 (fun H locs hH => ?_)
                refine x_pure hx hb F.hml F.hown F.hts (c_X4_told l r_23 (sumL (s_24 5) 5 0 0)) cw_X4_79 rfl rfl ⟨Nat.le_of_ble_eq_true rfl, Nat.le_of_ble_eq_true rfl⟩ rfl hl.1 rfl (Nat.le_of_ble_eq_true rfl) ⟨Nat.zero_le _, Nat.zero_le _⟩ dX4_move_130 ?_
                exact x_iretM F hr hlk hH (by simp only [f_X4_move, if_neg c_1, if_neg c_3, if_neg c_5, e_8, if_pos c_9, e_12, if_pos c_13, e_19, if_neg c_20, if_pos c_22, e_25]) dX4_move_133
              · refine lv_aload_n hx hb dX4_move_106 rfl (lv_at hl 1 rfl) ?_
                refine lv_bipush (v := 8) hx hb dX4_move_107 (by decide) ?_
                refine lv_iload_n hx hb dX4_move_109 rfl (lv_at hl 2 rfl) ?_
                refine x_top q_2.1 ?_
                refine lv_aload_n hx hb dX4_move_110 rfl (lv_at hl 1 rfl) ?_
                refine g_X4_paid F hH kw_306 dX4_move_111 ?_
                refine x_callv F hH 47 (F.lt (by omega)) (vv4 0) rfl (c_X4_go l F.ad σ s_18 8 (tn a) 5 (by omega) (by omega) (by omega)) cw_X4_57 rfl rfl ⟨Nat.le_of_ble_eq_true rfl, Nat.le_of_ble_eq_true rfl⟩ rfl hl.1 rfl (Nat.le_of_ble_eq_true rfl) ⟨Nat.zero_le _, Nat.zero_le _⟩ dX4_move_114 (fun H locs hH => ?_)
                refine lv_aload_n hx hb dX4_move_117 rfl (lv_at hl 1 rfl) ?_
                refine lv_iload hx hb dX4_move_118 (lv_at hl 0 rfl) ?_
                refine x_calliM F hH 47 (F.lt (by omega)) (vv4 0) rfl (c_X4_leave l F.ad σ (goL 8 (tn a) 5 5 0 s_18) r_17) cw_X4_82 rfl rfl ⟨Nat.le_of_ble_eq_true rfl, Nat.le_of_ble_eq_true rfl⟩ rfl hl.1 rfl (Nat.le_of_ble_eq_true rfl) ⟨Nat.zero_le _, Nat.zero_le _⟩ dX4_move_120 (fun r_26 s_27 H locs e_28 hH => ?_)
                refine lv_aload_n hx hb dX4_move_123 rfl (lv_at hl 1 rfl) ?_
                refine g_X4_paid F hH kw_306 dX4_move_124 ?_
                refine x_callsR F hH (c_X4_sum l F.ad σ s_27 5 (by omega)) cw_X4_64 rfl rfl ⟨Nat.le_of_ble_eq_true rfl, Nat.le_of_ble_eq_true rfl⟩ rfl hl.1 rfl (Nat.le_of_ble_eq_true rfl) ⟨Nat.zero_le _, Nat.zero_le _⟩ dX4_move_127 (fun H locs hH => ?_)
                refine x_pure hx hb F.hml F.hown F.hts (c_X4_told l r_26 (sumL (s_27 5) 5 0 0)) cw_X4_79 rfl rfl ⟨Nat.le_of_ble_eq_true rfl, Nat.le_of_ble_eq_true rfl⟩ rfl hl.1 rfl (Nat.le_of_ble_eq_true rfl) ⟨Nat.zero_le _, Nat.zero_le _⟩ dX4_move_130 ?_
                exact x_iretM F hr hlk hH (by simp only [f_X4_move, if_neg c_1, if_neg c_3, if_neg c_5, e_8, if_pos c_9, e_12, if_pos c_13, e_19, if_neg c_20, if_neg c_22, e_28]) dX4_move_133
            · refine lv_aload_n hx hb dX4_move_76 rfl (lv_at hl 1 rfl) ?_
              refine lv_aload_n hx hb dX4_move_77 rfl (lv_at hl 1 rfl) ?_
              refine lv_iload_n hx hb dX4_move_78 rfl (lv_at hl 3 rfl) ?_
              refine x_top q_4.1 ?_
              refine lv_aload_n hx hb dX4_move_79 rfl (lv_at hl 1 rfl) ?_
              refine g_X4_paid F hH kw_306 dX4_move_80 ?_
              refine x_calliM F hH 47 (F.lt (by omega)) (vv4 0) rfl (c_X4_lay l F.ad σ s_18 (tn b) 5 (by omega) (by omega)) cw_X4_85 rfl rfl ⟨Nat.le_of_ble_eq_true rfl, Nat.le_of_ble_eq_true rfl⟩ rfl hl.1 rfl (Nat.le_of_ble_eq_true rfl) ⟨Nat.zero_le _, Nat.zero_le _⟩ dX4_move_83 (fun r_29 s_30 H locs e_31 hH => ?_)
              refine x_calliM F hH 47 (F.lt (by omega)) (vv4 0) rfl (c_X4_leave l F.ad σ s_30 r_29) cw_X4_82 rfl rfl ⟨Nat.le_of_ble_eq_true rfl, Nat.le_of_ble_eq_true rfl⟩ rfl hl.1 rfl (Nat.le_of_ble_eq_true rfl) ⟨Nat.zero_le _, Nat.zero_le _⟩ dX4_move_86 (fun r_32 s_33 H locs e_34 hH => ?_)
              refine lv_goto (tgt := 94) hx hb dX4_move_89 (by decide) ?_
              refine lv_istore (lv' := [(5, .int r_32), (0, .ref (ea E 47)), (1, .int a), (2, .int b), (3, .int worth), (4, .int (bz back))]) hx hb dX4_move_94 hl (by decide) rfl (fun ls hl => ?_)
              refine lv_iload hx hb dX4_move_96 (lv_at hl 0 rfl) ?_
              refine lv_if_eq (tgt := 117) hx hb dX4_move_98 (by decide) (fun c_35 => ?_) (fun c_35 => ?_)
              · refine lv_aload_n hx hb dX4_move_117 rfl (lv_at hl 1 rfl) ?_
                refine lv_iload hx hb dX4_move_118 (lv_at hl 0 rfl) ?_
                refine x_calliM F hH 47 (F.lt (by omega)) (vv4 0) rfl (c_X4_leave l F.ad σ s_33 r_32) cw_X4_82 rfl rfl ⟨Nat.le_of_ble_eq_true rfl, Nat.le_of_ble_eq_true rfl⟩ rfl hl.1 rfl (Nat.le_of_ble_eq_true rfl) ⟨Nat.zero_le _, Nat.zero_le _⟩ dX4_move_120 (fun r_36 s_37 H locs e_38 hH => ?_)
                refine lv_aload_n hx hb dX4_move_123 rfl (lv_at hl 1 rfl) ?_
                refine g_X4_paid F hH kw_306 dX4_move_124 ?_
                refine x_callsR F hH (c_X4_sum l F.ad σ s_37 5 (by omega)) cw_X4_64 rfl rfl ⟨Nat.le_of_ble_eq_true rfl, Nat.le_of_ble_eq_true rfl⟩ rfl hl.1 rfl (Nat.le_of_ble_eq_true rfl) ⟨Nat.zero_le _, Nat.zero_le _⟩ dX4_move_127 (fun H locs hH => ?_)
                refine x_pure hx hb F.hml F.hown F.hts (c_X4_told l r_36 (sumL (s_37 5) 5 0 0)) cw_X4_79 rfl rfl ⟨Nat.le_of_ble_eq_true rfl, Nat.le_of_ble_eq_true rfl⟩ rfl hl.1 rfl (Nat.le_of_ble_eq_true rfl) ⟨Nat.zero_le _, Nat.zero_le _⟩ dX4_move_130 ?_
                exact x_iretM F hr hlk hH (by simp only [f_X4_move, if_neg c_1, if_neg c_3, if_neg c_5, e_8, if_pos c_9, e_12, if_pos c_13, e_19, if_pos c_20, e_31, e_34, if_pos c_35, e_38]) dX4_move_133
              · refine lv_iload hx hb dX4_move_101 (lv_at hl 5 rfl) ?_
                refine lv_if_eq (tgt := 117) hx hb dX4_move_103 (by decide) (fun c_39 => ?_) (fun c_39 => ?_)
                · refine lv_aload_n hx hb dX4_move_117 rfl (lv_at hl 1 rfl) ?_
                  refine lv_iload hx hb dX4_move_118 (lv_at hl 0 rfl) ?_
                  refine x_calliM F hH 47 (F.lt (by omega)) (vv4 0) rfl (c_X4_leave l F.ad σ s_33 r_32) cw_X4_82 rfl rfl ⟨Nat.le_of_ble_eq_true rfl, Nat.le_of_ble_eq_true rfl⟩ rfl hl.1 rfl (Nat.le_of_ble_eq_true rfl) ⟨Nat.zero_le _, Nat.zero_le _⟩ dX4_move_120 (fun r_40 s_41 H locs e_42 hH => ?_)
                  refine lv_aload_n hx hb dX4_move_123 rfl (lv_at hl 1 rfl) ?_
                  refine g_X4_paid F hH kw_306 dX4_move_124 ?_
                  refine x_callsR F hH (c_X4_sum l F.ad σ s_41 5 (by omega)) cw_X4_64 rfl rfl ⟨Nat.le_of_ble_eq_true rfl, Nat.le_of_ble_eq_true rfl⟩ rfl hl.1 rfl (Nat.le_of_ble_eq_true rfl) ⟨Nat.zero_le _, Nat.zero_le _⟩ dX4_move_127 (fun H locs hH => ?_)
                  refine x_pure hx hb F.hml F.hown F.hts (c_X4_told l r_40 (sumL (s_41 5) 5 0 0)) cw_X4_79 rfl rfl ⟨Nat.le_of_ble_eq_true rfl, Nat.le_of_ble_eq_true rfl⟩ rfl hl.1 rfl (Nat.le_of_ble_eq_true rfl) ⟨Nat.zero_le _, Nat.zero_le _⟩ dX4_move_130 ?_
                  exact x_iretM F hr hlk hH (by simp only [f_X4_move, if_neg c_1, if_neg c_3, if_neg c_5, e_8, if_pos c_9, e_12, if_pos c_13, e_19, if_pos c_20, e_31, e_34, if_neg c_35, if_pos c_39, e_42]) dX4_move_133
                · refine lv_aload_n hx hb dX4_move_106 rfl (lv_at hl 1 rfl) ?_
                  refine lv_bipush (v := 8) hx hb dX4_move_107 (by decide) ?_
                  refine lv_iload_n hx hb dX4_move_109 rfl (lv_at hl 2 rfl) ?_
                  refine x_top q_2.1 ?_
                  refine lv_aload_n hx hb dX4_move_110 rfl (lv_at hl 1 rfl) ?_
                  refine g_X4_paid F hH kw_306 dX4_move_111 ?_
                  refine x_callv F hH 47 (F.lt (by omega)) (vv4 0) rfl (c_X4_go l F.ad σ s_33 8 (tn a) 5 (by omega) (by omega) (by omega)) cw_X4_57 rfl rfl ⟨Nat.le_of_ble_eq_true rfl, Nat.le_of_ble_eq_true rfl⟩ rfl hl.1 rfl (Nat.le_of_ble_eq_true rfl) ⟨Nat.zero_le _, Nat.zero_le _⟩ dX4_move_114 (fun H locs hH => ?_)
                  refine lv_aload_n hx hb dX4_move_117 rfl (lv_at hl 1 rfl) ?_
                  refine lv_iload hx hb dX4_move_118 (lv_at hl 0 rfl) ?_
                  refine x_calliM F hH 47 (F.lt (by omega)) (vv4 0) rfl (c_X4_leave l F.ad σ (goL 8 (tn a) 5 5 0 s_33) r_32) cw_X4_82 rfl rfl ⟨Nat.le_of_ble_eq_true rfl, Nat.le_of_ble_eq_true rfl⟩ rfl hl.1 rfl (Nat.le_of_ble_eq_true rfl) ⟨Nat.zero_le _, Nat.zero_le _⟩ dX4_move_120 (fun r_43 s_44 H locs e_45 hH => ?_)
                  refine lv_aload_n hx hb dX4_move_123 rfl (lv_at hl 1 rfl) ?_
                  refine g_X4_paid F hH kw_306 dX4_move_124 ?_
                  refine x_callsR F hH (c_X4_sum l F.ad σ s_44 5 (by omega)) cw_X4_64 rfl rfl ⟨Nat.le_of_ble_eq_true rfl, Nat.le_of_ble_eq_true rfl⟩ rfl hl.1 rfl (Nat.le_of_ble_eq_true rfl) ⟨Nat.zero_le _, Nat.zero_le _⟩ dX4_move_127 (fun H locs hH => ?_)
                  refine x_pure hx hb F.hml F.hown F.hts (c_X4_told l r_43 (sumL (s_44 5) 5 0 0)) cw_X4_79 rfl rfl ⟨Nat.le_of_ble_eq_true rfl, Nat.le_of_ble_eq_true rfl⟩ rfl hl.1 rfl (Nat.le_of_ble_eq_true rfl) ⟨Nat.zero_le _, Nat.zero_le _⟩ dX4_move_130 ?_
                  exact x_iretM F hr hlk hH (by simp only [f_X4_move, if_neg c_1, if_neg c_3, if_neg c_5, e_8, if_pos c_9, e_12, if_pos c_13, e_19, if_pos c_20, e_31, e_34, if_neg c_35, if_neg c_39, e_45]) dX4_move_133
        · refine lv_iload hx hb dX4_move_44 (lv_at hl 0 rfl) ?_
          refine lv_iconst (v := 0) hx hb dX4_move_46 (by decide) ?_
          refine x_pure hx hb F.hml F.hown F.hts (c_X4_told l r_6 0) cw_X4_79 rfl rfl ⟨Nat.le_of_ble_eq_true rfl, Nat.le_of_ble_eq_true rfl⟩ rfl hl.1 rfl (Nat.le_of_ble_eq_true rfl) ⟨Nat.zero_le _, Nat.zero_le _⟩ dX4_move_47 ?_
          exact x_iretM F hr hlk hH (by simp only [f_X4_move, if_neg c_1, if_neg c_3, if_neg c_5, e_8, if_neg c_9]) dX4_move_50
      · refine lv_iconst (v := -1) hx hb dX4_move_30 (by decide) ?_
        exact x_iretM F hr hlk hH (by simp only [f_X4_move, if_neg c_1, if_neg c_3, if_pos c_5]) dX4_move_31
def f_X4_share (μ : St) (a : Int32) (b : Int32) (kind : Int32) : Int32 × St :=
  if (f_X4_isTill a) = 0 then
    ((-1), (up μ 0 0 0))
  else
    if (f_X4_isTill b) = 0 then
      ((-1), (up μ 0 0 0))
    else
      if (f_X4_in kind 0 4) = 0 then
        ((-1), (up μ 0 0 0))
      else
        match f_X4_hold (up μ 0 0 0) (tn a) with
        | (r_7, s_8) =>
          if r_7 = 0 then
            match f_X4_hold s_8 (tn b) with
            | (r_11, s_12) =>
              if r_11 = 0 then
                if (s_12 4 ((5 * (tn a)) + (tn kind))) ≤ (s_12 4 ((5 * (tn b)) + (tn kind))) then
                  if (bz (s_12 2 (tn a))) = 0 then
                    if (bz (s_12 2 (tn b))) = 0 then
                      if (((s_12 4 ((5 * (tn b)) + (tn kind))) - (s_12 4 ((5 * (tn a)) + (tn kind)))) / 2) ≤ 0 then
                        match f_X4_leave (up (up s_12 4 ((5 * (tn b)) + (tn kind)) ((s_12 4 ((5 * (tn b)) + (tn kind))) - (((s_12 4 ((5 * (tn b)) + (tn kind))) - (s_12 4 ((5 * (tn a)) + (tn kind)))) / 2))) 4 ((5 * (tn a)) + (tn kind)) (((up s_12 4 ((5 * (tn b)) + (tn kind)) ((s_12 4 ((5 * (tn b)) + (tn kind))) - (((s_12 4 ((5 * (tn b)) + (tn kind))) - (s_12 4 ((5 * (tn a)) + (tn kind)))) / 2))) 4 ((5 * (tn a)) + (tn kind))) + (((s_12 4 ((5 * (tn b)) + (tn kind))) - (s_12 4 ((5 * (tn a)) + (tn kind)))) / 2))) 0 with
                        | (r_32, s_33) =>
                          match f_X4_leave s_33 r_32 with
                          | (r_35, s_36) =>
                            (f_X4_told r_35 (((s_12 4 ((5 * (tn b)) + (tn kind))) - (s_12 4 ((5 * (tn a)) + (tn kind)))) / 2), s_36)
                      else
                        if ((sumL (rowM s_12 (tn a)) 5 0 0) + (((s_12 4 ((5 * (tn b)) + (tn kind))) - (s_12 4 ((5 * (tn a)) + (tn kind)))) / 2)) ≤ (s_12 3 (tn a)) then
                          match f_X4_leave (up (up s_12 4 ((5 * (tn b)) + (tn kind)) ((s_12 4 ((5 * (tn b)) + (tn kind))) - (((s_12 4 ((5 * (tn b)) + (tn kind))) - (s_12 4 ((5 * (tn a)) + (tn kind)))) / 2))) 4 ((5 * (tn a)) + (tn kind)) (((up s_12 4 ((5 * (tn b)) + (tn kind)) ((s_12 4 ((5 * (tn b)) + (tn kind))) - (((s_12 4 ((5 * (tn b)) + (tn kind))) - (s_12 4 ((5 * (tn a)) + (tn kind)))) / 2))) 4 ((5 * (tn a)) + (tn kind))) + (((s_12 4 ((5 * (tn b)) + (tn kind))) - (s_12 4 ((5 * (tn a)) + (tn kind)))) / 2))) 0 with
                          | (r_40, s_41) =>
                            match f_X4_leave s_41 r_40 with
                            | (r_43, s_44) =>
                              (f_X4_told r_43 (((s_12 4 ((5 * (tn b)) + (tn kind))) - (s_12 4 ((5 * (tn a)) + (tn kind)))) / 2), s_44)
                        else
                          match f_X4_leave s_12 4 with
                          | (r_47, s_48) =>
                            match f_X4_leave s_48 r_47 with
                            | (r_50, s_51) =>
                              (f_X4_told r_50 (((s_12 4 ((5 * (tn b)) + (tn kind))) - (s_12 4 ((5 * (tn a)) + (tn kind)))) / 2), s_51)
                    else
                      match f_X4_leave s_12 2 with
                      | (r_54, s_55) =>
                        match f_X4_leave s_55 r_54 with
                        | (r_57, s_58) =>
                          (f_X4_told r_57 (((s_12 4 ((5 * (tn b)) + (tn kind))) - (s_12 4 ((5 * (tn a)) + (tn kind)))) / 2), s_58)
                  else
                    match f_X4_leave s_12 2 with
                    | (r_23, s_24) =>
                      match f_X4_leave s_24 r_23 with
                      | (r_26, s_27) =>
                        (f_X4_told r_26 (((s_12 4 ((5 * (tn b)) + (tn kind))) - (s_12 4 ((5 * (tn a)) + (tn kind)))) / 2), s_27)
                else
                  if (bz (s_12 2 (tn a))) = 0 then
                    if (bz (s_12 2 (tn b))) = 0 then
                      if (((s_12 4 ((5 * (tn a)) + (tn kind))) - (s_12 4 ((5 * (tn b)) + (tn kind)))) / 2) ≤ 0 then
                        match f_X4_leave (up (up s_12 4 ((5 * (tn a)) + (tn kind)) ((s_12 4 ((5 * (tn a)) + (tn kind))) - (((s_12 4 ((5 * (tn a)) + (tn kind))) - (s_12 4 ((5 * (tn b)) + (tn kind)))) / 2))) 4 ((5 * (tn b)) + (tn kind)) (((up s_12 4 ((5 * (tn a)) + (tn kind)) ((s_12 4 ((5 * (tn a)) + (tn kind))) - (((s_12 4 ((5 * (tn a)) + (tn kind))) - (s_12 4 ((5 * (tn b)) + (tn kind)))) / 2))) 4 ((5 * (tn b)) + (tn kind))) + (((s_12 4 ((5 * (tn a)) + (tn kind))) - (s_12 4 ((5 * (tn b)) + (tn kind)))) / 2))) 0 with
                        | (r_73, s_74) =>
                          match f_X4_leave s_74 r_73 with
                          | (r_76, s_77) =>
                            (f_X4_told r_76 (((s_12 4 ((5 * (tn a)) + (tn kind))) - (s_12 4 ((5 * (tn b)) + (tn kind)))) / 2), s_77)
                      else
                        if ((sumL (rowM s_12 (tn b)) 5 0 0) + (((s_12 4 ((5 * (tn a)) + (tn kind))) - (s_12 4 ((5 * (tn b)) + (tn kind)))) / 2)) ≤ (s_12 3 (tn b)) then
                          match f_X4_leave (up (up s_12 4 ((5 * (tn a)) + (tn kind)) ((s_12 4 ((5 * (tn a)) + (tn kind))) - (((s_12 4 ((5 * (tn a)) + (tn kind))) - (s_12 4 ((5 * (tn b)) + (tn kind)))) / 2))) 4 ((5 * (tn b)) + (tn kind)) (((up s_12 4 ((5 * (tn a)) + (tn kind)) ((s_12 4 ((5 * (tn a)) + (tn kind))) - (((s_12 4 ((5 * (tn a)) + (tn kind))) - (s_12 4 ((5 * (tn b)) + (tn kind)))) / 2))) 4 ((5 * (tn b)) + (tn kind))) + (((s_12 4 ((5 * (tn a)) + (tn kind))) - (s_12 4 ((5 * (tn b)) + (tn kind)))) / 2))) 0 with
                          | (r_81, s_82) =>
                            match f_X4_leave s_82 r_81 with
                            | (r_84, s_85) =>
                              (f_X4_told r_84 (((s_12 4 ((5 * (tn a)) + (tn kind))) - (s_12 4 ((5 * (tn b)) + (tn kind)))) / 2), s_85)
                        else
                          match f_X4_leave s_12 4 with
                          | (r_88, s_89) =>
                            match f_X4_leave s_89 r_88 with
                            | (r_91, s_92) =>
                              (f_X4_told r_91 (((s_12 4 ((5 * (tn a)) + (tn kind))) - (s_12 4 ((5 * (tn b)) + (tn kind)))) / 2), s_92)
                    else
                      match f_X4_leave s_12 2 with
                      | (r_95, s_96) =>
                        match f_X4_leave s_96 r_95 with
                        | (r_98, s_99) =>
                          (f_X4_told r_98 (((s_12 4 ((5 * (tn a)) + (tn kind))) - (s_12 4 ((5 * (tn b)) + (tn kind)))) / 2), s_99)
                  else
                    match f_X4_leave s_12 2 with
                    | (r_64, s_65) =>
                      match f_X4_leave s_65 r_64 with
                      | (r_67, s_68) =>
                        (f_X4_told r_67 (((s_12 4 ((5 * (tn a)) + (tn kind))) - (s_12 4 ((5 * (tn b)) + (tn kind)))) / 2), s_68)
              else
                match f_X4_leave s_12 r_11 with
                | (r_15, s_16) =>
                  (f_X4_told r_15 0, s_16)
          else
            (f_X4_told r_7 0, s_8)
set_option maxRecDepth 100000 in
set_option maxHeartbeats 4000000 in
theorem c_X4_share (l : Launch) {E : EV} (hA : AD E) (σ μ : St) (a : Int32) (b : Int32) (kind : Int32) : Met l yX4_share (.code yX4_share cX4_share 10 (some .int) :: gtbl) (rmL 2) (va_Pc [.ref (ea E 47), .int a, .int b, .int kind] (PR E σ μ)) (QI E (f_X4_share μ a b kind).1 σ (f_X4_share μ a b kind).2) 0 0 (eA E) := by
  refine x_met (own := RX4) (by decide) rfl hA (Nat.le_of_ble_eq_true rfl) ?_
  intro p e s m below meth c ls F hr hlk hH hl
  have hl : lv_has ls 10 [(0, .ref (ea E 47)), (1, .int a), (2, .int b), (3, .int kind)] := hl
  have hx := F.hx
  have hb := F.hb
  refine lv_aload_n hx hb dX4_share_0 rfl (lv_at hl 0 rfl) ?_
  refine lv_iconst (v := 0) hx hb dX4_share_1 (by decide) ?_
  refine p_X4_thrown F hH kw_297 dX4_share_2 (fun H locs hH => ?_)
  refine lv_iload_n hx hb dX4_share_5 rfl (lv_at hl 1 rfl) ?_
  refine x_pure hx hb F.hml F.hown F.hts (c_X4_isTill l a) cw_X4_68 rfl rfl ⟨Nat.le_of_ble_eq_true rfl, Nat.le_of_ble_eq_true rfl⟩ rfl hl.1 rfl (Nat.le_of_ble_eq_true rfl) ⟨Nat.zero_le _, Nat.zero_le _⟩ dX4_share_6 ?_
  refine lv_if_eq (tgt := 28) hx hb dX4_share_9 (by decide) (fun c_1 => ?_) (fun c_1 => ?_)
  · refine lv_iconst (v := -1) hx hb dX4_share_28 (by decide) ?_
    exact x_iretM F hr hlk hH (by simp only [f_X4_share, if_pos c_1]) dX4_share_29
  · have q_2 := X4_isTill_n c_1
    have q_2b := q_2.2
    refine lv_iload_n hx hb dX4_share_12 rfl (lv_at hl 2 rfl) ?_
    refine x_pure hx hb F.hml F.hown F.hts (c_X4_isTill l b) cw_X4_68 rfl rfl ⟨Nat.le_of_ble_eq_true rfl, Nat.le_of_ble_eq_true rfl⟩ rfl hl.1 rfl (Nat.le_of_ble_eq_true rfl) ⟨Nat.zero_le _, Nat.zero_le _⟩ dX4_share_13 ?_
    refine lv_if_eq (tgt := 28) hx hb dX4_share_16 (by decide) (fun c_3 => ?_) (fun c_3 => ?_)
    · refine lv_iconst (v := -1) hx hb dX4_share_28 (by decide) ?_
      exact x_iretM F hr hlk hH (by simp only [f_X4_share, if_neg c_1, if_pos c_3]) dX4_share_29
    · have q_4 := X4_isTill_n c_3
      have q_4b := q_4.2
      refine lv_iload_n hx hb dX4_share_19 rfl (lv_at hl 3 rfl) ?_
      refine lv_iconst (v := 0) hx hb dX4_share_20 (by decide) ?_
      refine lv_iconst (v := 4) hx hb dX4_share_21 (by decide) ?_
      refine x_pure hx hb F.hml F.hown F.hts (c_X4_in l kind 0 4) cw_X4_33 rfl rfl ⟨Nat.le_of_ble_eq_true rfl, Nat.le_of_ble_eq_true rfl⟩ rfl hl.1 rfl (Nat.le_of_ble_eq_true rfl) ⟨Nat.zero_le _, Nat.zero_le _⟩ dX4_share_22 ?_
      refine lv_if_ne (tgt := 30) hx hb dX4_share_25 (by decide) (fun c_5 => ?_) (fun c_5 => ?_)
      · have q_6 := X4_in_n (M := 4) rfl (by decide) c_5
        have q_6b := q_6.2
        refine lv_aload_n hx hb dX4_share_30 rfl (lv_at hl 0 rfl) ?_
        refine lv_iload_n hx hb dX4_share_31 rfl (lv_at hl 1 rfl) ?_
        refine x_top q_2.1 ?_
        refine x_calliM F hH 47 (F.lt (by omega)) (vv4 0) rfl (c_X4_hold l F.ad σ (up μ 0 0 0) (tn a) (by omega)) cw_X4_76 rfl rfl ⟨Nat.le_of_ble_eq_true rfl, Nat.le_of_ble_eq_true rfl⟩ rfl hl.1 rfl (Nat.le_of_ble_eq_true rfl) ⟨Nat.zero_le _, Nat.zero_le _⟩ dX4_share_32 (fun r_7 s_8 H locs e_9 hH => ?_)
        refine lv_istore (lv' := [(4, .int r_7), (0, .ref (ea E 47)), (1, .int a), (2, .int b), (3, .int kind)]) hx hb dX4_share_35 hl (by decide) rfl (fun ls hl => ?_)
        refine lv_iload hx hb dX4_share_37 (lv_at hl 0 rfl) ?_
        refine lv_if_eq (tgt := 49) hx hb dX4_share_39 (by decide) (fun c_10 => ?_) (fun c_10 => ?_)
        · refine lv_aload_n hx hb dX4_share_49 rfl (lv_at hl 1 rfl) ?_
          refine lv_iload_n hx hb dX4_share_50 rfl (lv_at hl 3 rfl) ?_
          refine x_top q_4.1 ?_
          refine x_calliM F hH 47 (F.lt (by omega)) (vv4 0) rfl (c_X4_hold l F.ad σ s_8 (tn b) (by omega)) cw_X4_76 rfl rfl ⟨Nat.le_of_ble_eq_true rfl, Nat.le_of_ble_eq_true rfl⟩ rfl hl.1 rfl (Nat.le_of_ble_eq_true rfl) ⟨Nat.zero_le _, Nat.zero_le _⟩ dX4_share_51 (fun r_11 s_12 H locs e_13 hH => ?_)
          refine lv_istore (lv' := [(4, .int r_11), (0, .ref (ea E 47)), (1, .int a), (2, .int b), (3, .int kind)]) hx hb dX4_share_54 hl (by decide) rfl (fun ls hl => ?_)
          refine lv_iconst (v := 0) hx hb dX4_share_56 (by decide) ?_
          refine lv_istore (lv' := [(5, .int 0), (4, .int r_11), (0, .ref (ea E 47)), (1, .int a), (2, .int b), (3, .int kind)]) hx hb dX4_share_57 hl (by decide) rfl (fun ls hl => ?_)
          refine lv_iload hx hb dX4_share_59 (lv_at hl 1 rfl) ?_
          refine lv_if_ne (tgt := 238) hx hb dX4_share_61 (by decide) (fun c_14 => ?_) (fun c_14 => ?_)
          · refine lv_aload_n hx hb dX4_share_238 rfl (lv_at hl 2 rfl) ?_
            refine lv_iload hx hb dX4_share_239 (lv_at hl 1 rfl) ?_
            refine x_calliM F hH 47 (F.lt (by omega)) (vv4 0) rfl (c_X4_leave l F.ad σ s_12 r_11) cw_X4_82 rfl rfl ⟨Nat.le_of_ble_eq_true rfl, Nat.le_of_ble_eq_true rfl⟩ rfl hl.1 rfl (Nat.le_of_ble_eq_true rfl) ⟨Nat.zero_le _, Nat.zero_le _⟩ dX4_share_241 (fun r_15 s_16 H locs e_17 hH => ?_)
            refine lv_iload hx hb dX4_share_244 (lv_at hl 0 rfl) ?_
            refine x_pure hx hb F.hml F.hown F.hts (c_X4_told l r_15 0) cw_X4_79 rfl rfl ⟨Nat.le_of_ble_eq_true rfl, Nat.le_of_ble_eq_true rfl⟩ rfl hl.1 rfl (Nat.le_of_ble_eq_true rfl) ⟨Nat.zero_le _, Nat.zero_le _⟩ dX4_share_246 ?_
            exact x_iretM F hr hlk hH (by simp only [f_X4_share, if_neg c_1, if_neg c_3, if_neg c_5, e_9, if_pos c_10, e_13, if_neg c_14, e_17]) dX4_share_249
          · refine lv_aload_n hx hb dX4_share_64 rfl (lv_at hl 2 rfl) ?_
            refine g_X4_coins F hH kw_301 dX4_share_65 ?_
            refine lv_iconst (v := 5) hx hb dX4_share_68 (by decide) ?_
            refine lv_iload_n hx hb dX4_share_69 rfl (lv_at hl 3 rfl) ?_
            refine x_top q_2.1 ?_
            refine lv_imul hx hb dX4_share_70 ?_
            refine x_top (pk_mul 5 (tn a)) ?_
            refine lv_iload_n hx hb dX4_share_71 rfl (lv_at hl 5 rfl) ?_
            refine x_top q_6.1 ?_
            refine lv_iadd hx hb dX4_share_72 ?_
            refine x_top (nI_add (5 * (tn a)) (tn kind)) ?_
            refine a_mco F hH ((5 * (tn a)) + (tn kind)) (by omega) dX4_share_73 ?_
            refine lv_istore (lv' := [(6, .int (s_12 4 ((5 * (tn a)) + (tn kind)))), (5, .int 0), (4, .int r_11), (0, .ref (ea E 47)), (1, .int a), (2, .int b), (3, .int kind)]) hx hb dX4_share_74 hl (by decide) rfl (fun ls hl => ?_)
            refine lv_aload_n hx hb dX4_share_76 rfl (lv_at hl 3 rfl) ?_
            refine g_X4_coins F hH kw_301 dX4_share_77 ?_
            refine lv_iconst (v := 5) hx hb dX4_share_80 (by decide) ?_
            refine lv_iload_n hx hb dX4_share_81 rfl (lv_at hl 5 rfl) ?_
            refine x_top q_4.1 ?_
            refine lv_imul hx hb dX4_share_82 ?_
            refine x_top (pk_mul 5 (tn b)) ?_
            refine lv_iload_n hx hb dX4_share_83 rfl (lv_at hl 6 rfl) ?_
            refine x_top q_6.1 ?_
            refine lv_iadd hx hb dX4_share_84 ?_
            refine x_top (nI_add (5 * (tn b)) (tn kind)) ?_
            refine a_mco F hH ((5 * (tn b)) + (tn kind)) (by omega) dX4_share_85 ?_
            refine lv_istore (lv' := [(7, .int (s_12 4 ((5 * (tn b)) + (tn kind)))), (6, .int (s_12 4 ((5 * (tn a)) + (tn kind)))), (5, .int 0), (4, .int r_11), (0, .ref (ea E 47)), (1, .int a), (2, .int b), (3, .int kind)]) hx hb dX4_share_86 hl (by decide) rfl (fun ls hl => ?_)
            refine lv_iload hx hb dX4_share_88 (lv_at hl 1 rfl) ?_
            refine lv_iload hx hb dX4_share_90 (lv_at hl 0 rfl) ?_
            refine lv_icmp_le (tgt := 99) hx hb dX4_share_92 (by decide) (fun c_18 => ?_) (fun c_18 => ?_)
            · refine lv_iload_n hx hb dX4_share_99 rfl (lv_at hl 6 rfl) ?_
              refine x_top q_4.1 ?_
              refine lv_istore (lv' := [(8, .int (nI (tn b))), (7, .int (s_12 4 ((5 * (tn b)) + (tn kind)))), (6, .int (s_12 4 ((5 * (tn a)) + (tn kind)))), (5, .int 0), (4, .int r_11), (0, .ref (ea E 47)), (1, .int a), (2, .int b), (3, .int kind)]) hx hb dX4_share_100 hl (by decide) rfl (fun ls hl => ?_)
              refine lv_iload hx hb dX4_share_102 (lv_at hl 2 rfl) ?_
              refine lv_iload hx hb dX4_share_104 (lv_at hl 1 rfl) ?_
              refine lv_icmp_le (tgt := 113) hx hb dX4_share_106 (by decide) (fun _ => ?_) (fun c_19 => absurd c_18 c_19)
              refine lv_iload_n hx hb dX4_share_113 rfl (lv_at hl 6 rfl) ?_
              refine x_top q_2.1 ?_
              refine lv_istore (lv' := [(9, .int (nI (tn a))), (8, .int (nI (tn b))), (7, .int (s_12 4 ((5 * (tn b)) + (tn kind)))), (6, .int (s_12 4 ((5 * (tn a)) + (tn kind)))), (5, .int 0), (4, .int r_11), (0, .ref (ea E 47)), (1, .int a), (2, .int b), (3, .int kind)]) hx hb dX4_share_114 hl (by decide) rfl (fun ls hl => ?_)
              refine lv_iload hx hb dX4_share_116 (lv_at hl 3 rfl) ?_
              refine lv_iload hx hb dX4_share_118 (lv_at hl 2 rfl) ?_
              refine lv_icmp_le (tgt := 131) hx hb dX4_share_120 (by decide) (fun _ => ?_) (fun c_20 => absurd c_18 c_20)
              refine lv_iload hx hb dX4_share_131 (lv_at hl 2 rfl) ?_
              refine lv_iload hx hb dX4_share_133 (lv_at hl 3 rfl) ?_
              refine lv_isub hx hb dX4_share_135 ?_
              refine lv_iconst (v := 2) hx hb dX4_share_136 (by decide) ?_
              refine lv_idiv hx hb dX4_share_137 (by decide) ?_
              refine lv_istore (lv' := [(5, .int (((s_12 4 ((5 * (tn b)) + (tn kind))) - (s_12 4 ((5 * (tn a)) + (tn kind)))) / 2)), (9, .int (nI (tn a))), (8, .int (nI (tn b))), (7, .int (s_12 4 ((5 * (tn b)) + (tn kind)))), (6, .int (s_12 4 ((5 * (tn a)) + (tn kind)))), (4, .int r_11), (0, .ref (ea E 47)), (1, .int a), (2, .int b), (3, .int kind)]) hx hb dX4_share_138 hl (by decide) rfl (fun ls hl => ?_)
              refine lv_aload_n hx hb dX4_share_140 rfl (lv_at hl 6 rfl) ?_
              refine g_X4_isShut F hH kw_299 dX4_share_141 ?_
              refine lv_iload_n hx hb dX4_share_144 rfl (lv_at hl 7 rfl) ?_
              refine x_top q_2.1 ?_
              refine a_msh F hH (tn a) (by omega) dX4_share_145 ?_
              refine lv_if_ne (tgt := 158) hx hb dX4_share_146 (by decide) (fun c_21 => ?_) (fun c_21 => ?_)
              · refine lv_iconst (v := 2) hx hb dX4_share_158 (by decide) ?_
                refine lv_goto (tgt := 191) hx hb dX4_share_159 (by decide) ?_
                refine lv_istore (lv' := [(4, .int 2), (5, .int (((s_12 4 ((5 * (tn b)) + (tn kind))) - (s_12 4 ((5 * (tn a)) + (tn kind)))) / 2)), (9, .int (nI (tn a))), (8, .int (nI (tn b))), (7, .int (s_12 4 ((5 * (tn b)) + (tn kind)))), (6, .int (s_12 4 ((5 * (tn a)) + (tn kind)))), (0, .ref (ea E 47)), (1, .int a), (2, .int b), (3, .int kind)]) hx hb dX4_share_191 hl (by decide) rfl (fun ls hl => ?_)
                refine lv_iload hx hb dX4_share_193 (lv_at hl 0 rfl) ?_
                refine lv_if_ne (tgt := 230) hx hb dX4_share_195 (by decide) (fun _ => ?_) (fun c_22 => absurd c_22 (by decide))
                refine lv_aload_n hx hb dX4_share_230 rfl (lv_at hl 6 rfl) ?_
                refine lv_iload hx hb dX4_share_231 (lv_at hl 0 rfl) ?_
                refine x_calliM F hH 47 (F.lt (by omega)) (vv4 0) rfl (c_X4_leave l F.ad σ s_12 2) cw_X4_82 rfl rfl ⟨Nat.le_of_ble_eq_true rfl, Nat.le_of_ble_eq_true rfl⟩ rfl hl.1 rfl (Nat.le_of_ble_eq_true rfl) ⟨Nat.zero_le _, Nat.zero_le _⟩ dX4_share_233 (fun r_23 s_24 H locs e_25 hH => ?_)
                refine lv_istore (lv' := [(4, .int r_23), (5, .int (((s_12 4 ((5 * (tn b)) + (tn kind))) - (s_12 4 ((5 * (tn a)) + (tn kind)))) / 2)), (9, .int (nI (tn a))), (8, .int (nI (tn b))), (7, .int (s_12 4 ((5 * (tn b)) + (tn kind)))), (6, .int (s_12 4 ((5 * (tn a)) + (tn kind)))), (0, .ref (ea E 47)), (1, .int a), (2, .int b), (3, .int kind)]) hx hb dX4_share_236 hl (by decide) rfl (fun ls hl => ?_)
                refine lv_aload_n hx hb dX4_share_238 rfl (lv_at hl 6 rfl) ?_
                refine lv_iload hx hb dX4_share_239 (lv_at hl 0 rfl) ?_
                refine x_calliM F hH 47 (F.lt (by omega)) (vv4 0) rfl (c_X4_leave l F.ad σ s_24 r_23) cw_X4_82 rfl rfl ⟨Nat.le_of_ble_eq_true rfl, Nat.le_of_ble_eq_true rfl⟩ rfl hl.1 rfl (Nat.le_of_ble_eq_true rfl) ⟨Nat.zero_le _, Nat.zero_le _⟩ dX4_share_241 (fun r_26 s_27 H locs e_28 hH => ?_)
                refine lv_iload hx hb dX4_share_244 (lv_at hl 1 rfl) ?_
                refine x_pure hx hb F.hml F.hown F.hts (c_X4_told l r_26 (((s_12 4 ((5 * (tn b)) + (tn kind))) - (s_12 4 ((5 * (tn a)) + (tn kind)))) / 2)) cw_X4_79 rfl rfl ⟨Nat.le_of_ble_eq_true rfl, Nat.le_of_ble_eq_true rfl⟩ rfl hl.1 rfl (Nat.le_of_ble_eq_true rfl) ⟨Nat.zero_le _, Nat.zero_le _⟩ dX4_share_246 ?_
                exact x_iretM F hr hlk hH (by simp only [f_X4_share, if_neg c_1, if_neg c_3, if_neg c_5, e_9, if_pos c_10, e_13, if_pos c_14, if_pos c_18, if_neg c_21, e_25, e_28]) dX4_share_249
              · refine lv_aload_n hx hb dX4_share_149 rfl (lv_at hl 6 rfl) ?_
                refine g_X4_isShut F hH kw_299 dX4_share_150 ?_
                refine lv_iload_n hx hb dX4_share_153 rfl (lv_at hl 8 rfl) ?_
                refine x_top q_4.1 ?_
                refine a_msh F hH (tn b) (by omega) dX4_share_154 ?_
                refine lv_if_eq (tgt := 162) hx hb dX4_share_155 (by decide) (fun c_29 => ?_) (fun c_29 => ?_)
                · refine lv_iload hx hb dX4_share_162 (lv_at hl 0 rfl) ?_
                  refine lv_if_le (tgt := 190) hx hb dX4_share_164 (by decide) (fun c_30 => ?_) (fun c_30 => ?_)
                  · refine lv_iconst (v := 0) hx hb dX4_share_190 (by decide) ?_
                    refine lv_istore (lv' := [(4, .int 0), (5, .int (((s_12 4 ((5 * (tn b)) + (tn kind))) - (s_12 4 ((5 * (tn a)) + (tn kind)))) / 2)), (9, .int (nI (tn a))), (8, .int (nI (tn b))), (7, .int (s_12 4 ((5 * (tn b)) + (tn kind)))), (6, .int (s_12 4 ((5 * (tn a)) + (tn kind)))), (0, .ref (ea E 47)), (1, .int a), (2, .int b), (3, .int kind)]) hx hb dX4_share_191 hl (by decide) rfl (fun ls hl => ?_)
                    refine lv_iload hx hb dX4_share_193 (lv_at hl 0 rfl) ?_
                    refine lv_if_ne (tgt := 230) hx hb dX4_share_195 (by decide) (fun c_31 => absurd (by decide) c_31) (fun _ => ?_)
                    refine lv_aload_n hx hb dX4_share_198 rfl (lv_at hl 6 rfl) ?_
                    refine g_X4_coins F hH kw_301 dX4_share_199 ?_
                    refine lv_iconst (v := 5) hx hb dX4_share_202 (by decide) ?_
                    refine lv_iload hx hb dX4_share_203 (lv_at hl 3 rfl) ?_
                    refine lv_imul hx hb dX4_share_205 ?_
                    refine x_top (pk_mul 5 (tn b)) ?_
                    refine lv_iload_n hx hb dX4_share_206 rfl (lv_at hl 9 rfl) ?_
                    refine x_top q_6.1 ?_
                    refine lv_iadd hx hb dX4_share_207 ?_
                    refine x_top (nI_add (5 * (tn b)) (tn kind)) ?_
                    refine lv_dup2_11 hx hb dX4_share_208 rfl rfl ?_
                    refine a_mco F hH ((5 * (tn b)) + (tn kind)) (by omega) dX4_share_209 ?_
                    refine lv_iload hx hb dX4_share_210 (lv_at hl 1 rfl) ?_
                    refine lv_isub hx hb dX4_share_212 ?_
                    refine s_mco F hH ((5 * (tn b)) + (tn kind)) (by omega) dX4_share_213 (fun H locs hH => ?_)
                    refine lv_aload_n hx hb dX4_share_214 rfl (lv_at hl 6 rfl) ?_
                    refine g_X4_coins F hH kw_301 dX4_share_215 ?_
                    refine lv_iconst (v := 5) hx hb dX4_share_218 (by decide) ?_
                    refine lv_iload hx hb dX4_share_219 (lv_at hl 2 rfl) ?_
                    refine lv_imul hx hb dX4_share_221 ?_
                    refine x_top (pk_mul 5 (tn a)) ?_
                    refine lv_iload_n hx hb dX4_share_222 rfl (lv_at hl 9 rfl) ?_
                    refine x_top q_6.1 ?_
                    refine lv_iadd hx hb dX4_share_223 ?_
                    refine x_top (nI_add (5 * (tn a)) (tn kind)) ?_
                    refine lv_dup2_11 hx hb dX4_share_224 rfl rfl ?_
                    refine a_mco F hH ((5 * (tn a)) + (tn kind)) (by omega) dX4_share_225 ?_
                    refine lv_iload hx hb dX4_share_226 (lv_at hl 1 rfl) ?_
                    refine lv_iadd hx hb dX4_share_228 ?_
                    refine s_mco F hH ((5 * (tn a)) + (tn kind)) (by omega) dX4_share_229 (fun H locs hH => ?_)
                    refine lv_aload_n hx hb dX4_share_230 rfl (lv_at hl 6 rfl) ?_
                    refine lv_iload hx hb dX4_share_231 (lv_at hl 0 rfl) ?_
                    refine x_calliM F hH 47 (F.lt (by omega)) (vv4 0) rfl (c_X4_leave l F.ad σ (up (up s_12 4 ((5 * (tn b)) + (tn kind)) ((s_12 4 ((5 * (tn b)) + (tn kind))) - (((s_12 4 ((5 * (tn b)) + (tn kind))) - (s_12 4 ((5 * (tn a)) + (tn kind)))) / 2))) 4 ((5 * (tn a)) + (tn kind)) (((up s_12 4 ((5 * (tn b)) + (tn kind)) ((s_12 4 ((5 * (tn b)) + (tn kind))) - (((s_12 4 ((5 * (tn b)) + (tn kind))) - (s_12 4 ((5 * (tn a)) + (tn kind)))) / 2))) 4 ((5 * (tn a)) + (tn kind))) + (((s_12 4 ((5 * (tn b)) + (tn kind))) - (s_12 4 ((5 * (tn a)) + (tn kind)))) / 2))) 0) cw_X4_82 rfl rfl ⟨Nat.le_of_ble_eq_true rfl, Nat.le_of_ble_eq_true rfl⟩ rfl hl.1 rfl (Nat.le_of_ble_eq_true rfl) ⟨Nat.zero_le _, Nat.zero_le _⟩ dX4_share_233 (fun r_32 s_33 H locs e_34 hH => ?_)
                    refine lv_istore (lv' := [(4, .int r_32), (5, .int (((s_12 4 ((5 * (tn b)) + (tn kind))) - (s_12 4 ((5 * (tn a)) + (tn kind)))) / 2)), (9, .int (nI (tn a))), (8, .int (nI (tn b))), (7, .int (s_12 4 ((5 * (tn b)) + (tn kind)))), (6, .int (s_12 4 ((5 * (tn a)) + (tn kind)))), (0, .ref (ea E 47)), (1, .int a), (2, .int b), (3, .int kind)]) hx hb dX4_share_236 hl (by decide) rfl (fun ls hl => ?_)
                    refine lv_aload_n hx hb dX4_share_238 rfl (lv_at hl 6 rfl) ?_
                    refine lv_iload hx hb dX4_share_239 (lv_at hl 0 rfl) ?_
                    refine x_calliM F hH 47 (F.lt (by omega)) (vv4 0) rfl (c_X4_leave l F.ad σ s_33 r_32) cw_X4_82 rfl rfl ⟨Nat.le_of_ble_eq_true rfl, Nat.le_of_ble_eq_true rfl⟩ rfl hl.1 rfl (Nat.le_of_ble_eq_true rfl) ⟨Nat.zero_le _, Nat.zero_le _⟩ dX4_share_241 (fun r_35 s_36 H locs e_37 hH => ?_)
                    refine lv_iload hx hb dX4_share_244 (lv_at hl 1 rfl) ?_
                    refine x_pure hx hb F.hml F.hown F.hts (c_X4_told l r_35 (((s_12 4 ((5 * (tn b)) + (tn kind))) - (s_12 4 ((5 * (tn a)) + (tn kind)))) / 2)) cw_X4_79 rfl rfl ⟨Nat.le_of_ble_eq_true rfl, Nat.le_of_ble_eq_true rfl⟩ rfl hl.1 rfl (Nat.le_of_ble_eq_true rfl) ⟨Nat.zero_le _, Nat.zero_le _⟩ dX4_share_246 ?_
                    exact x_iretM F hr hlk hH (by simp only [f_X4_share, if_neg c_1, if_neg c_3, if_neg c_5, e_9, if_pos c_10, e_13, if_pos c_14, if_pos c_18, if_pos c_21, if_pos c_29, if_pos c_30, e_34, e_37]) dX4_share_249
                  · refine lv_aload_n hx hb dX4_share_167 rfl (lv_at hl 6 rfl) ?_
                    refine lv_iload hx hb dX4_share_168 (lv_at hl 1 rfl) ?_
                    refine x_calliR F hH 47 (F.lt (by omega)) (vv4 0) rfl (c_X4_all l F.ad σ s_12 (tn a) (by omega)) cw_X4_61 rfl rfl ⟨Nat.le_of_ble_eq_true rfl, Nat.le_of_ble_eq_true rfl⟩ rfl hl.1 rfl (Nat.le_of_ble_eq_true rfl) ⟨Nat.zero_le _, Nat.zero_le _⟩ dX4_share_170 (fun H locs hH => ?_)
                    refine lv_iload hx hb dX4_share_173 (lv_at hl 0 rfl) ?_
                    refine lv_iadd hx hb dX4_share_175 ?_
                    refine lv_aload_n hx hb dX4_share_176 rfl (lv_at hl 6 rfl) ?_
                    refine g_X4_limit F hH kw_300 dX4_share_177 ?_
                    refine lv_iload hx hb dX4_share_180 (lv_at hl 1 rfl) ?_
                    refine a_mli F hH (tn a) (by omega) dX4_share_182 ?_
                    refine lv_icmp_le (tgt := 190) hx hb dX4_share_183 (by decide) (fun c_38 => ?_) (fun c_38 => ?_)
                    · refine lv_iconst (v := 0) hx hb dX4_share_190 (by decide) ?_
                      refine lv_istore (lv' := [(4, .int 0), (5, .int (((s_12 4 ((5 * (tn b)) + (tn kind))) - (s_12 4 ((5 * (tn a)) + (tn kind)))) / 2)), (9, .int (nI (tn a))), (8, .int (nI (tn b))), (7, .int (s_12 4 ((5 * (tn b)) + (tn kind)))), (6, .int (s_12 4 ((5 * (tn a)) + (tn kind)))), (0, .ref (ea E 47)), (1, .int a), (2, .int b), (3, .int kind)]) hx hb dX4_share_191 hl (by decide) rfl (fun ls hl => ?_)
                      refine lv_iload hx hb dX4_share_193 (lv_at hl 0 rfl) ?_
                      refine lv_if_ne (tgt := 230) hx hb dX4_share_195 (by decide) (fun c_39 => absurd (by decide) c_39) (fun _ => ?_)
                      refine lv_aload_n hx hb dX4_share_198 rfl (lv_at hl 6 rfl) ?_
                      refine g_X4_coins F hH kw_301 dX4_share_199 ?_
                      refine lv_iconst (v := 5) hx hb dX4_share_202 (by decide) ?_
                      refine lv_iload hx hb dX4_share_203 (lv_at hl 3 rfl) ?_
                      refine lv_imul hx hb dX4_share_205 ?_
                      refine x_top (pk_mul 5 (tn b)) ?_
                      refine lv_iload_n hx hb dX4_share_206 rfl (lv_at hl 9 rfl) ?_
                      refine x_top q_6.1 ?_
                      refine lv_iadd hx hb dX4_share_207 ?_
                      refine x_top (nI_add (5 * (tn b)) (tn kind)) ?_
                      refine lv_dup2_11 hx hb dX4_share_208 rfl rfl ?_
                      refine a_mco F hH ((5 * (tn b)) + (tn kind)) (by omega) dX4_share_209 ?_
                      refine lv_iload hx hb dX4_share_210 (lv_at hl 1 rfl) ?_
                      refine lv_isub hx hb dX4_share_212 ?_
                      refine s_mco F hH ((5 * (tn b)) + (tn kind)) (by omega) dX4_share_213 (fun H locs hH => ?_)
                      refine lv_aload_n hx hb dX4_share_214 rfl (lv_at hl 6 rfl) ?_
                      refine g_X4_coins F hH kw_301 dX4_share_215 ?_
                      refine lv_iconst (v := 5) hx hb dX4_share_218 (by decide) ?_
                      refine lv_iload hx hb dX4_share_219 (lv_at hl 2 rfl) ?_
                      refine lv_imul hx hb dX4_share_221 ?_
                      refine x_top (pk_mul 5 (tn a)) ?_
                      refine lv_iload_n hx hb dX4_share_222 rfl (lv_at hl 9 rfl) ?_
                      refine x_top q_6.1 ?_
                      refine lv_iadd hx hb dX4_share_223 ?_
                      refine x_top (nI_add (5 * (tn a)) (tn kind)) ?_
                      refine lv_dup2_11 hx hb dX4_share_224 rfl rfl ?_
                      refine a_mco F hH ((5 * (tn a)) + (tn kind)) (by omega) dX4_share_225 ?_
                      refine lv_iload hx hb dX4_share_226 (lv_at hl 1 rfl) ?_
                      refine lv_iadd hx hb dX4_share_228 ?_
                      refine s_mco F hH ((5 * (tn a)) + (tn kind)) (by omega) dX4_share_229 (fun H locs hH => ?_)
                      refine lv_aload_n hx hb dX4_share_230 rfl (lv_at hl 6 rfl) ?_
                      refine lv_iload hx hb dX4_share_231 (lv_at hl 0 rfl) ?_
                      refine x_calliM F hH 47 (F.lt (by omega)) (vv4 0) rfl (c_X4_leave l F.ad σ (up (up s_12 4 ((5 * (tn b)) + (tn kind)) ((s_12 4 ((5 * (tn b)) + (tn kind))) - (((s_12 4 ((5 * (tn b)) + (tn kind))) - (s_12 4 ((5 * (tn a)) + (tn kind)))) / 2))) 4 ((5 * (tn a)) + (tn kind)) (((up s_12 4 ((5 * (tn b)) + (tn kind)) ((s_12 4 ((5 * (tn b)) + (tn kind))) - (((s_12 4 ((5 * (tn b)) + (tn kind))) - (s_12 4 ((5 * (tn a)) + (tn kind)))) / 2))) 4 ((5 * (tn a)) + (tn kind))) + (((s_12 4 ((5 * (tn b)) + (tn kind))) - (s_12 4 ((5 * (tn a)) + (tn kind)))) / 2))) 0) cw_X4_82 rfl rfl ⟨Nat.le_of_ble_eq_true rfl, Nat.le_of_ble_eq_true rfl⟩ rfl hl.1 rfl (Nat.le_of_ble_eq_true rfl) ⟨Nat.zero_le _, Nat.zero_le _⟩ dX4_share_233 (fun r_40 s_41 H locs e_42 hH => ?_)
                      refine lv_istore (lv' := [(4, .int r_40), (5, .int (((s_12 4 ((5 * (tn b)) + (tn kind))) - (s_12 4 ((5 * (tn a)) + (tn kind)))) / 2)), (9, .int (nI (tn a))), (8, .int (nI (tn b))), (7, .int (s_12 4 ((5 * (tn b)) + (tn kind)))), (6, .int (s_12 4 ((5 * (tn a)) + (tn kind)))), (0, .ref (ea E 47)), (1, .int a), (2, .int b), (3, .int kind)]) hx hb dX4_share_236 hl (by decide) rfl (fun ls hl => ?_)
                      refine lv_aload_n hx hb dX4_share_238 rfl (lv_at hl 6 rfl) ?_
                      refine lv_iload hx hb dX4_share_239 (lv_at hl 0 rfl) ?_
                      refine x_calliM F hH 47 (F.lt (by omega)) (vv4 0) rfl (c_X4_leave l F.ad σ s_41 r_40) cw_X4_82 rfl rfl ⟨Nat.le_of_ble_eq_true rfl, Nat.le_of_ble_eq_true rfl⟩ rfl hl.1 rfl (Nat.le_of_ble_eq_true rfl) ⟨Nat.zero_le _, Nat.zero_le _⟩ dX4_share_241 (fun r_43 s_44 H locs e_45 hH => ?_)
                      refine lv_iload hx hb dX4_share_244 (lv_at hl 1 rfl) ?_
                      refine x_pure hx hb F.hml F.hown F.hts (c_X4_told l r_43 (((s_12 4 ((5 * (tn b)) + (tn kind))) - (s_12 4 ((5 * (tn a)) + (tn kind)))) / 2)) cw_X4_79 rfl rfl ⟨Nat.le_of_ble_eq_true rfl, Nat.le_of_ble_eq_true rfl⟩ rfl hl.1 rfl (Nat.le_of_ble_eq_true rfl) ⟨Nat.zero_le _, Nat.zero_le _⟩ dX4_share_246 ?_
                      exact x_iretM F hr hlk hH (by simp only [f_X4_share, if_neg c_1, if_neg c_3, if_neg c_5, e_9, if_pos c_10, e_13, if_pos c_14, if_pos c_18, if_pos c_21, if_pos c_29, if_neg c_30, if_pos c_38, e_42, e_45]) dX4_share_249
                    · refine lv_iconst (v := 4) hx hb dX4_share_186 (by decide) ?_
                      refine lv_goto (tgt := 191) hx hb dX4_share_187 (by decide) ?_
                      refine lv_istore (lv' := [(4, .int 4), (5, .int (((s_12 4 ((5 * (tn b)) + (tn kind))) - (s_12 4 ((5 * (tn a)) + (tn kind)))) / 2)), (9, .int (nI (tn a))), (8, .int (nI (tn b))), (7, .int (s_12 4 ((5 * (tn b)) + (tn kind)))), (6, .int (s_12 4 ((5 * (tn a)) + (tn kind)))), (0, .ref (ea E 47)), (1, .int a), (2, .int b), (3, .int kind)]) hx hb dX4_share_191 hl (by decide) rfl (fun ls hl => ?_)
                      refine lv_iload hx hb dX4_share_193 (lv_at hl 0 rfl) ?_
                      refine lv_if_ne (tgt := 230) hx hb dX4_share_195 (by decide) (fun _ => ?_) (fun c_46 => absurd c_46 (by decide))
                      refine lv_aload_n hx hb dX4_share_230 rfl (lv_at hl 6 rfl) ?_
                      refine lv_iload hx hb dX4_share_231 (lv_at hl 0 rfl) ?_
                      refine x_calliM F hH 47 (F.lt (by omega)) (vv4 0) rfl (c_X4_leave l F.ad σ s_12 4) cw_X4_82 rfl rfl ⟨Nat.le_of_ble_eq_true rfl, Nat.le_of_ble_eq_true rfl⟩ rfl hl.1 rfl (Nat.le_of_ble_eq_true rfl) ⟨Nat.zero_le _, Nat.zero_le _⟩ dX4_share_233 (fun r_47 s_48 H locs e_49 hH => ?_)
                      refine lv_istore (lv' := [(4, .int r_47), (5, .int (((s_12 4 ((5 * (tn b)) + (tn kind))) - (s_12 4 ((5 * (tn a)) + (tn kind)))) / 2)), (9, .int (nI (tn a))), (8, .int (nI (tn b))), (7, .int (s_12 4 ((5 * (tn b)) + (tn kind)))), (6, .int (s_12 4 ((5 * (tn a)) + (tn kind)))), (0, .ref (ea E 47)), (1, .int a), (2, .int b), (3, .int kind)]) hx hb dX4_share_236 hl (by decide) rfl (fun ls hl => ?_)
                      refine lv_aload_n hx hb dX4_share_238 rfl (lv_at hl 6 rfl) ?_
                      refine lv_iload hx hb dX4_share_239 (lv_at hl 0 rfl) ?_
                      refine x_calliM F hH 47 (F.lt (by omega)) (vv4 0) rfl (c_X4_leave l F.ad σ s_48 r_47) cw_X4_82 rfl rfl ⟨Nat.le_of_ble_eq_true rfl, Nat.le_of_ble_eq_true rfl⟩ rfl hl.1 rfl (Nat.le_of_ble_eq_true rfl) ⟨Nat.zero_le _, Nat.zero_le _⟩ dX4_share_241 (fun r_50 s_51 H locs e_52 hH => ?_)
                      refine lv_iload hx hb dX4_share_244 (lv_at hl 1 rfl) ?_
                      refine x_pure hx hb F.hml F.hown F.hts (c_X4_told l r_50 (((s_12 4 ((5 * (tn b)) + (tn kind))) - (s_12 4 ((5 * (tn a)) + (tn kind)))) / 2)) cw_X4_79 rfl rfl ⟨Nat.le_of_ble_eq_true rfl, Nat.le_of_ble_eq_true rfl⟩ rfl hl.1 rfl (Nat.le_of_ble_eq_true rfl) ⟨Nat.zero_le _, Nat.zero_le _⟩ dX4_share_246 ?_
                      exact x_iretM F hr hlk hH (by simp only [f_X4_share, if_neg c_1, if_neg c_3, if_neg c_5, e_9, if_pos c_10, e_13, if_pos c_14, if_pos c_18, if_pos c_21, if_pos c_29, if_neg c_30, if_neg c_38, e_49, e_52]) dX4_share_249
                · refine lv_iconst (v := 2) hx hb dX4_share_158 (by decide) ?_
                  refine lv_goto (tgt := 191) hx hb dX4_share_159 (by decide) ?_
                  refine lv_istore (lv' := [(4, .int 2), (5, .int (((s_12 4 ((5 * (tn b)) + (tn kind))) - (s_12 4 ((5 * (tn a)) + (tn kind)))) / 2)), (9, .int (nI (tn a))), (8, .int (nI (tn b))), (7, .int (s_12 4 ((5 * (tn b)) + (tn kind)))), (6, .int (s_12 4 ((5 * (tn a)) + (tn kind)))), (0, .ref (ea E 47)), (1, .int a), (2, .int b), (3, .int kind)]) hx hb dX4_share_191 hl (by decide) rfl (fun ls hl => ?_)
                  refine lv_iload hx hb dX4_share_193 (lv_at hl 0 rfl) ?_
                  refine lv_if_ne (tgt := 230) hx hb dX4_share_195 (by decide) (fun _ => ?_) (fun c_53 => absurd c_53 (by decide))
                  refine lv_aload_n hx hb dX4_share_230 rfl (lv_at hl 6 rfl) ?_
                  refine lv_iload hx hb dX4_share_231 (lv_at hl 0 rfl) ?_
                  refine x_calliM F hH 47 (F.lt (by omega)) (vv4 0) rfl (c_X4_leave l F.ad σ s_12 2) cw_X4_82 rfl rfl ⟨Nat.le_of_ble_eq_true rfl, Nat.le_of_ble_eq_true rfl⟩ rfl hl.1 rfl (Nat.le_of_ble_eq_true rfl) ⟨Nat.zero_le _, Nat.zero_le _⟩ dX4_share_233 (fun r_54 s_55 H locs e_56 hH => ?_)
                  refine lv_istore (lv' := [(4, .int r_54), (5, .int (((s_12 4 ((5 * (tn b)) + (tn kind))) - (s_12 4 ((5 * (tn a)) + (tn kind)))) / 2)), (9, .int (nI (tn a))), (8, .int (nI (tn b))), (7, .int (s_12 4 ((5 * (tn b)) + (tn kind)))), (6, .int (s_12 4 ((5 * (tn a)) + (tn kind)))), (0, .ref (ea E 47)), (1, .int a), (2, .int b), (3, .int kind)]) hx hb dX4_share_236 hl (by decide) rfl (fun ls hl => ?_)
                  refine lv_aload_n hx hb dX4_share_238 rfl (lv_at hl 6 rfl) ?_
                  refine lv_iload hx hb dX4_share_239 (lv_at hl 0 rfl) ?_
                  refine x_calliM F hH 47 (F.lt (by omega)) (vv4 0) rfl (c_X4_leave l F.ad σ s_55 r_54) cw_X4_82 rfl rfl ⟨Nat.le_of_ble_eq_true rfl, Nat.le_of_ble_eq_true rfl⟩ rfl hl.1 rfl (Nat.le_of_ble_eq_true rfl) ⟨Nat.zero_le _, Nat.zero_le _⟩ dX4_share_241 (fun r_57 s_58 H locs e_59 hH => ?_)
                  refine lv_iload hx hb dX4_share_244 (lv_at hl 1 rfl) ?_
                  refine x_pure hx hb F.hml F.hown F.hts (c_X4_told l r_57 (((s_12 4 ((5 * (tn b)) + (tn kind))) - (s_12 4 ((5 * (tn a)) + (tn kind)))) / 2)) cw_X4_79 rfl rfl ⟨Nat.le_of_ble_eq_true rfl, Nat.le_of_ble_eq_true rfl⟩ rfl hl.1 rfl (Nat.le_of_ble_eq_true rfl) ⟨Nat.zero_le _, Nat.zero_le _⟩ dX4_share_246 ?_
                  exact x_iretM F hr hlk hH (by simp only [f_X4_share, if_neg c_1, if_neg c_3, if_neg c_5, e_9, if_pos c_10, e_13, if_pos c_14, if_pos c_18, if_pos c_21, if_neg c_29, e_56, e_59]) dX4_share_249
            · refine lv_iload_n hx hb dX4_share_95 rfl (lv_at hl 5 rfl) ?_
              refine x_top q_2.1 ?_
              refine lv_goto (tgt := 100) hx hb dX4_share_96 (by decide) ?_
              refine lv_istore (lv' := [(8, .int (nI (tn a))), (7, .int (s_12 4 ((5 * (tn b)) + (tn kind)))), (6, .int (s_12 4 ((5 * (tn a)) + (tn kind)))), (5, .int 0), (4, .int r_11), (0, .ref (ea E 47)), (1, .int a), (2, .int b), (3, .int kind)]) hx hb dX4_share_100 hl (by decide) rfl (fun ls hl => ?_)
              refine lv_iload hx hb dX4_share_102 (lv_at hl 2 rfl) ?_
              refine lv_iload hx hb dX4_share_104 (lv_at hl 1 rfl) ?_
              refine lv_icmp_le (tgt := 113) hx hb dX4_share_106 (by decide) (fun c_60 => absurd c_60 c_18) (fun _ => ?_)
              refine lv_iload_n hx hb dX4_share_109 rfl (lv_at hl 7 rfl) ?_
              refine x_top q_4.1 ?_
              refine lv_goto (tgt := 114) hx hb dX4_share_110 (by decide) ?_
              refine lv_istore (lv' := [(9, .int (nI (tn b))), (8, .int (nI (tn a))), (7, .int (s_12 4 ((5 * (tn b)) + (tn kind)))), (6, .int (s_12 4 ((5 * (tn a)) + (tn kind)))), (5, .int 0), (4, .int r_11), (0, .ref (ea E 47)), (1, .int a), (2, .int b), (3, .int kind)]) hx hb dX4_share_114 hl (by decide) rfl (fun ls hl => ?_)
              refine lv_iload hx hb dX4_share_116 (lv_at hl 3 rfl) ?_
              refine lv_iload hx hb dX4_share_118 (lv_at hl 2 rfl) ?_
              refine lv_icmp_le (tgt := 131) hx hb dX4_share_120 (by decide) (fun c_61 => absurd c_61 c_18) (fun _ => ?_)
              refine lv_iload hx hb dX4_share_123 (lv_at hl 3 rfl) ?_
              refine lv_iload hx hb dX4_share_125 (lv_at hl 2 rfl) ?_
              refine lv_isub hx hb dX4_share_127 ?_
              refine lv_goto (tgt := 136) hx hb dX4_share_128 (by decide) ?_
              refine lv_iconst (v := 2) hx hb dX4_share_136 (by decide) ?_
              refine lv_idiv hx hb dX4_share_137 (by decide) ?_
              refine lv_istore (lv' := [(5, .int (((s_12 4 ((5 * (tn a)) + (tn kind))) - (s_12 4 ((5 * (tn b)) + (tn kind)))) / 2)), (9, .int (nI (tn b))), (8, .int (nI (tn a))), (7, .int (s_12 4 ((5 * (tn b)) + (tn kind)))), (6, .int (s_12 4 ((5 * (tn a)) + (tn kind)))), (4, .int r_11), (0, .ref (ea E 47)), (1, .int a), (2, .int b), (3, .int kind)]) hx hb dX4_share_138 hl (by decide) rfl (fun ls hl => ?_)
              refine lv_aload_n hx hb dX4_share_140 rfl (lv_at hl 6 rfl) ?_
              refine g_X4_isShut F hH kw_299 dX4_share_141 ?_
              refine lv_iload_n hx hb dX4_share_144 rfl (lv_at hl 7 rfl) ?_
              refine x_top q_2.1 ?_
              refine a_msh F hH (tn a) (by omega) dX4_share_145 ?_
              refine lv_if_ne (tgt := 158) hx hb dX4_share_146 (by decide) (fun c_62 => ?_) (fun c_62 => ?_)
              · refine lv_iconst (v := 2) hx hb dX4_share_158 (by decide) ?_
                refine lv_goto (tgt := 191) hx hb dX4_share_159 (by decide) ?_
                refine lv_istore (lv' := [(4, .int 2), (5, .int (((s_12 4 ((5 * (tn a)) + (tn kind))) - (s_12 4 ((5 * (tn b)) + (tn kind)))) / 2)), (9, .int (nI (tn b))), (8, .int (nI (tn a))), (7, .int (s_12 4 ((5 * (tn b)) + (tn kind)))), (6, .int (s_12 4 ((5 * (tn a)) + (tn kind)))), (0, .ref (ea E 47)), (1, .int a), (2, .int b), (3, .int kind)]) hx hb dX4_share_191 hl (by decide) rfl (fun ls hl => ?_)
                refine lv_iload hx hb dX4_share_193 (lv_at hl 0 rfl) ?_
                refine lv_if_ne (tgt := 230) hx hb dX4_share_195 (by decide) (fun _ => ?_) (fun c_63 => absurd c_63 (by decide))
                refine lv_aload_n hx hb dX4_share_230 rfl (lv_at hl 6 rfl) ?_
                refine lv_iload hx hb dX4_share_231 (lv_at hl 0 rfl) ?_
                refine x_calliM F hH 47 (F.lt (by omega)) (vv4 0) rfl (c_X4_leave l F.ad σ s_12 2) cw_X4_82 rfl rfl ⟨Nat.le_of_ble_eq_true rfl, Nat.le_of_ble_eq_true rfl⟩ rfl hl.1 rfl (Nat.le_of_ble_eq_true rfl) ⟨Nat.zero_le _, Nat.zero_le _⟩ dX4_share_233 (fun r_64 s_65 H locs e_66 hH => ?_)
                refine lv_istore (lv' := [(4, .int r_64), (5, .int (((s_12 4 ((5 * (tn a)) + (tn kind))) - (s_12 4 ((5 * (tn b)) + (tn kind)))) / 2)), (9, .int (nI (tn b))), (8, .int (nI (tn a))), (7, .int (s_12 4 ((5 * (tn b)) + (tn kind)))), (6, .int (s_12 4 ((5 * (tn a)) + (tn kind)))), (0, .ref (ea E 47)), (1, .int a), (2, .int b), (3, .int kind)]) hx hb dX4_share_236 hl (by decide) rfl (fun ls hl => ?_)
                refine lv_aload_n hx hb dX4_share_238 rfl (lv_at hl 6 rfl) ?_
                refine lv_iload hx hb dX4_share_239 (lv_at hl 0 rfl) ?_
                refine x_calliM F hH 47 (F.lt (by omega)) (vv4 0) rfl (c_X4_leave l F.ad σ s_65 r_64) cw_X4_82 rfl rfl ⟨Nat.le_of_ble_eq_true rfl, Nat.le_of_ble_eq_true rfl⟩ rfl hl.1 rfl (Nat.le_of_ble_eq_true rfl) ⟨Nat.zero_le _, Nat.zero_le _⟩ dX4_share_241 (fun r_67 s_68 H locs e_69 hH => ?_)
                refine lv_iload hx hb dX4_share_244 (lv_at hl 1 rfl) ?_
                refine x_pure hx hb F.hml F.hown F.hts (c_X4_told l r_67 (((s_12 4 ((5 * (tn a)) + (tn kind))) - (s_12 4 ((5 * (tn b)) + (tn kind)))) / 2)) cw_X4_79 rfl rfl ⟨Nat.le_of_ble_eq_true rfl, Nat.le_of_ble_eq_true rfl⟩ rfl hl.1 rfl (Nat.le_of_ble_eq_true rfl) ⟨Nat.zero_le _, Nat.zero_le _⟩ dX4_share_246 ?_
                exact x_iretM F hr hlk hH (by simp only [f_X4_share, if_neg c_1, if_neg c_3, if_neg c_5, e_9, if_pos c_10, e_13, if_pos c_14, if_neg c_18, if_neg c_62, e_66, e_69]) dX4_share_249
              · refine lv_aload_n hx hb dX4_share_149 rfl (lv_at hl 6 rfl) ?_
                refine g_X4_isShut F hH kw_299 dX4_share_150 ?_
                refine lv_iload_n hx hb dX4_share_153 rfl (lv_at hl 8 rfl) ?_
                refine x_top q_4.1 ?_
                refine a_msh F hH (tn b) (by omega) dX4_share_154 ?_
                refine lv_if_eq (tgt := 162) hx hb dX4_share_155 (by decide) (fun c_70 => ?_) (fun c_70 => ?_)
                · refine lv_iload hx hb dX4_share_162 (lv_at hl 0 rfl) ?_
                  refine lv_if_le (tgt := 190) hx hb dX4_share_164 (by decide) (fun c_71 => ?_) (fun c_71 => ?_)
                  · refine lv_iconst (v := 0) hx hb dX4_share_190 (by decide) ?_
                    refine lv_istore (lv' := [(4, .int 0), (5, .int (((s_12 4 ((5 * (tn a)) + (tn kind))) - (s_12 4 ((5 * (tn b)) + (tn kind)))) / 2)), (9, .int (nI (tn b))), (8, .int (nI (tn a))), (7, .int (s_12 4 ((5 * (tn b)) + (tn kind)))), (6, .int (s_12 4 ((5 * (tn a)) + (tn kind)))), (0, .ref (ea E 47)), (1, .int a), (2, .int b), (3, .int kind)]) hx hb dX4_share_191 hl (by decide) rfl (fun ls hl => ?_)
                    refine lv_iload hx hb dX4_share_193 (lv_at hl 0 rfl) ?_
                    refine lv_if_ne (tgt := 230) hx hb dX4_share_195 (by decide) (fun c_72 => absurd (by decide) c_72) (fun _ => ?_)
                    refine lv_aload_n hx hb dX4_share_198 rfl (lv_at hl 6 rfl) ?_
                    refine g_X4_coins F hH kw_301 dX4_share_199 ?_
                    refine lv_iconst (v := 5) hx hb dX4_share_202 (by decide) ?_
                    refine lv_iload hx hb dX4_share_203 (lv_at hl 3 rfl) ?_
                    refine lv_imul hx hb dX4_share_205 ?_
                    refine x_top (pk_mul 5 (tn a)) ?_
                    refine lv_iload_n hx hb dX4_share_206 rfl (lv_at hl 9 rfl) ?_
                    refine x_top q_6.1 ?_
                    refine lv_iadd hx hb dX4_share_207 ?_
                    refine x_top (nI_add (5 * (tn a)) (tn kind)) ?_
                    refine lv_dup2_11 hx hb dX4_share_208 rfl rfl ?_
                    refine a_mco F hH ((5 * (tn a)) + (tn kind)) (by omega) dX4_share_209 ?_
                    refine lv_iload hx hb dX4_share_210 (lv_at hl 1 rfl) ?_
                    refine lv_isub hx hb dX4_share_212 ?_
                    refine s_mco F hH ((5 * (tn a)) + (tn kind)) (by omega) dX4_share_213 (fun H locs hH => ?_)
                    refine lv_aload_n hx hb dX4_share_214 rfl (lv_at hl 6 rfl) ?_
                    refine g_X4_coins F hH kw_301 dX4_share_215 ?_
                    refine lv_iconst (v := 5) hx hb dX4_share_218 (by decide) ?_
                    refine lv_iload hx hb dX4_share_219 (lv_at hl 2 rfl) ?_
                    refine lv_imul hx hb dX4_share_221 ?_
                    refine x_top (pk_mul 5 (tn b)) ?_
                    refine lv_iload_n hx hb dX4_share_222 rfl (lv_at hl 9 rfl) ?_
                    refine x_top q_6.1 ?_
                    refine lv_iadd hx hb dX4_share_223 ?_
                    refine x_top (nI_add (5 * (tn b)) (tn kind)) ?_
                    refine lv_dup2_11 hx hb dX4_share_224 rfl rfl ?_
                    refine a_mco F hH ((5 * (tn b)) + (tn kind)) (by omega) dX4_share_225 ?_
                    refine lv_iload hx hb dX4_share_226 (lv_at hl 1 rfl) ?_
                    refine lv_iadd hx hb dX4_share_228 ?_
                    refine s_mco F hH ((5 * (tn b)) + (tn kind)) (by omega) dX4_share_229 (fun H locs hH => ?_)
                    refine lv_aload_n hx hb dX4_share_230 rfl (lv_at hl 6 rfl) ?_
                    refine lv_iload hx hb dX4_share_231 (lv_at hl 0 rfl) ?_
                    refine x_calliM F hH 47 (F.lt (by omega)) (vv4 0) rfl (c_X4_leave l F.ad σ (up (up s_12 4 ((5 * (tn a)) + (tn kind)) ((s_12 4 ((5 * (tn a)) + (tn kind))) - (((s_12 4 ((5 * (tn a)) + (tn kind))) - (s_12 4 ((5 * (tn b)) + (tn kind)))) / 2))) 4 ((5 * (tn b)) + (tn kind)) (((up s_12 4 ((5 * (tn a)) + (tn kind)) ((s_12 4 ((5 * (tn a)) + (tn kind))) - (((s_12 4 ((5 * (tn a)) + (tn kind))) - (s_12 4 ((5 * (tn b)) + (tn kind)))) / 2))) 4 ((5 * (tn b)) + (tn kind))) + (((s_12 4 ((5 * (tn a)) + (tn kind))) - (s_12 4 ((5 * (tn b)) + (tn kind)))) / 2))) 0) cw_X4_82 rfl rfl ⟨Nat.le_of_ble_eq_true rfl, Nat.le_of_ble_eq_true rfl⟩ rfl hl.1 rfl (Nat.le_of_ble_eq_true rfl) ⟨Nat.zero_le _, Nat.zero_le _⟩ dX4_share_233 (fun r_73 s_74 H locs e_75 hH => ?_)
                    refine lv_istore (lv' := [(4, .int r_73), (5, .int (((s_12 4 ((5 * (tn a)) + (tn kind))) - (s_12 4 ((5 * (tn b)) + (tn kind)))) / 2)), (9, .int (nI (tn b))), (8, .int (nI (tn a))), (7, .int (s_12 4 ((5 * (tn b)) + (tn kind)))), (6, .int (s_12 4 ((5 * (tn a)) + (tn kind)))), (0, .ref (ea E 47)), (1, .int a), (2, .int b), (3, .int kind)]) hx hb dX4_share_236 hl (by decide) rfl (fun ls hl => ?_)
                    refine lv_aload_n hx hb dX4_share_238 rfl (lv_at hl 6 rfl) ?_
                    refine lv_iload hx hb dX4_share_239 (lv_at hl 0 rfl) ?_
                    refine x_calliM F hH 47 (F.lt (by omega)) (vv4 0) rfl (c_X4_leave l F.ad σ s_74 r_73) cw_X4_82 rfl rfl ⟨Nat.le_of_ble_eq_true rfl, Nat.le_of_ble_eq_true rfl⟩ rfl hl.1 rfl (Nat.le_of_ble_eq_true rfl) ⟨Nat.zero_le _, Nat.zero_le _⟩ dX4_share_241 (fun r_76 s_77 H locs e_78 hH => ?_)
                    refine lv_iload hx hb dX4_share_244 (lv_at hl 1 rfl) ?_
                    refine x_pure hx hb F.hml F.hown F.hts (c_X4_told l r_76 (((s_12 4 ((5 * (tn a)) + (tn kind))) - (s_12 4 ((5 * (tn b)) + (tn kind)))) / 2)) cw_X4_79 rfl rfl ⟨Nat.le_of_ble_eq_true rfl, Nat.le_of_ble_eq_true rfl⟩ rfl hl.1 rfl (Nat.le_of_ble_eq_true rfl) ⟨Nat.zero_le _, Nat.zero_le _⟩ dX4_share_246 ?_
                    exact x_iretM F hr hlk hH (by simp only [f_X4_share, if_neg c_1, if_neg c_3, if_neg c_5, e_9, if_pos c_10, e_13, if_pos c_14, if_neg c_18, if_pos c_62, if_pos c_70, if_pos c_71, e_75, e_78]) dX4_share_249
                  · refine lv_aload_n hx hb dX4_share_167 rfl (lv_at hl 6 rfl) ?_
                    refine lv_iload hx hb dX4_share_168 (lv_at hl 1 rfl) ?_
                    refine x_calliR F hH 47 (F.lt (by omega)) (vv4 0) rfl (c_X4_all l F.ad σ s_12 (tn b) (by omega)) cw_X4_61 rfl rfl ⟨Nat.le_of_ble_eq_true rfl, Nat.le_of_ble_eq_true rfl⟩ rfl hl.1 rfl (Nat.le_of_ble_eq_true rfl) ⟨Nat.zero_le _, Nat.zero_le _⟩ dX4_share_170 (fun H locs hH => ?_)
                    refine lv_iload hx hb dX4_share_173 (lv_at hl 0 rfl) ?_
                    refine lv_iadd hx hb dX4_share_175 ?_
                    refine lv_aload_n hx hb dX4_share_176 rfl (lv_at hl 6 rfl) ?_
                    refine g_X4_limit F hH kw_300 dX4_share_177 ?_
                    refine lv_iload hx hb dX4_share_180 (lv_at hl 1 rfl) ?_
                    refine a_mli F hH (tn b) (by omega) dX4_share_182 ?_
                    refine lv_icmp_le (tgt := 190) hx hb dX4_share_183 (by decide) (fun c_79 => ?_) (fun c_79 => ?_)
                    · refine lv_iconst (v := 0) hx hb dX4_share_190 (by decide) ?_
                      refine lv_istore (lv' := [(4, .int 0), (5, .int (((s_12 4 ((5 * (tn a)) + (tn kind))) - (s_12 4 ((5 * (tn b)) + (tn kind)))) / 2)), (9, .int (nI (tn b))), (8, .int (nI (tn a))), (7, .int (s_12 4 ((5 * (tn b)) + (tn kind)))), (6, .int (s_12 4 ((5 * (tn a)) + (tn kind)))), (0, .ref (ea E 47)), (1, .int a), (2, .int b), (3, .int kind)]) hx hb dX4_share_191 hl (by decide) rfl (fun ls hl => ?_)
                      refine lv_iload hx hb dX4_share_193 (lv_at hl 0 rfl) ?_
                      refine lv_if_ne (tgt := 230) hx hb dX4_share_195 (by decide) (fun c_80 => absurd (by decide) c_80) (fun _ => ?_)
                      refine lv_aload_n hx hb dX4_share_198 rfl (lv_at hl 6 rfl) ?_
                      refine g_X4_coins F hH kw_301 dX4_share_199 ?_
                      refine lv_iconst (v := 5) hx hb dX4_share_202 (by decide) ?_
                      refine lv_iload hx hb dX4_share_203 (lv_at hl 3 rfl) ?_
                      refine lv_imul hx hb dX4_share_205 ?_
                      refine x_top (pk_mul 5 (tn a)) ?_
                      refine lv_iload_n hx hb dX4_share_206 rfl (lv_at hl 9 rfl) ?_
                      refine x_top q_6.1 ?_
                      refine lv_iadd hx hb dX4_share_207 ?_
                      refine x_top (nI_add (5 * (tn a)) (tn kind)) ?_
                      refine lv_dup2_11 hx hb dX4_share_208 rfl rfl ?_
                      refine a_mco F hH ((5 * (tn a)) + (tn kind)) (by omega) dX4_share_209 ?_
                      refine lv_iload hx hb dX4_share_210 (lv_at hl 1 rfl) ?_
                      refine lv_isub hx hb dX4_share_212 ?_
                      refine s_mco F hH ((5 * (tn a)) + (tn kind)) (by omega) dX4_share_213 (fun H locs hH => ?_)
                      refine lv_aload_n hx hb dX4_share_214 rfl (lv_at hl 6 rfl) ?_
                      refine g_X4_coins F hH kw_301 dX4_share_215 ?_
                      refine lv_iconst (v := 5) hx hb dX4_share_218 (by decide) ?_
                      refine lv_iload hx hb dX4_share_219 (lv_at hl 2 rfl) ?_
                      refine lv_imul hx hb dX4_share_221 ?_
                      refine x_top (pk_mul 5 (tn b)) ?_
                      refine lv_iload_n hx hb dX4_share_222 rfl (lv_at hl 9 rfl) ?_
                      refine x_top q_6.1 ?_
                      refine lv_iadd hx hb dX4_share_223 ?_
                      refine x_top (nI_add (5 * (tn b)) (tn kind)) ?_
                      refine lv_dup2_11 hx hb dX4_share_224 rfl rfl ?_
                      refine a_mco F hH ((5 * (tn b)) + (tn kind)) (by omega) dX4_share_225 ?_
                      refine lv_iload hx hb dX4_share_226 (lv_at hl 1 rfl) ?_
                      refine lv_iadd hx hb dX4_share_228 ?_
                      refine s_mco F hH ((5 * (tn b)) + (tn kind)) (by omega) dX4_share_229 (fun H locs hH => ?_)
                      refine lv_aload_n hx hb dX4_share_230 rfl (lv_at hl 6 rfl) ?_
                      refine lv_iload hx hb dX4_share_231 (lv_at hl 0 rfl) ?_
                      refine x_calliM F hH 47 (F.lt (by omega)) (vv4 0) rfl (c_X4_leave l F.ad σ (up (up s_12 4 ((5 * (tn a)) + (tn kind)) ((s_12 4 ((5 * (tn a)) + (tn kind))) - (((s_12 4 ((5 * (tn a)) + (tn kind))) - (s_12 4 ((5 * (tn b)) + (tn kind)))) / 2))) 4 ((5 * (tn b)) + (tn kind)) (((up s_12 4 ((5 * (tn a)) + (tn kind)) ((s_12 4 ((5 * (tn a)) + (tn kind))) - (((s_12 4 ((5 * (tn a)) + (tn kind))) - (s_12 4 ((5 * (tn b)) + (tn kind)))) / 2))) 4 ((5 * (tn b)) + (tn kind))) + (((s_12 4 ((5 * (tn a)) + (tn kind))) - (s_12 4 ((5 * (tn b)) + (tn kind)))) / 2))) 0) cw_X4_82 rfl rfl ⟨Nat.le_of_ble_eq_true rfl, Nat.le_of_ble_eq_true rfl⟩ rfl hl.1 rfl (Nat.le_of_ble_eq_true rfl) ⟨Nat.zero_le _, Nat.zero_le _⟩ dX4_share_233 (fun r_81 s_82 H locs e_83 hH => ?_)
                      refine lv_istore (lv' := [(4, .int r_81), (5, .int (((s_12 4 ((5 * (tn a)) + (tn kind))) - (s_12 4 ((5 * (tn b)) + (tn kind)))) / 2)), (9, .int (nI (tn b))), (8, .int (nI (tn a))), (7, .int (s_12 4 ((5 * (tn b)) + (tn kind)))), (6, .int (s_12 4 ((5 * (tn a)) + (tn kind)))), (0, .ref (ea E 47)), (1, .int a), (2, .int b), (3, .int kind)]) hx hb dX4_share_236 hl (by decide) rfl (fun ls hl => ?_)
                      refine lv_aload_n hx hb dX4_share_238 rfl (lv_at hl 6 rfl) ?_
                      refine lv_iload hx hb dX4_share_239 (lv_at hl 0 rfl) ?_
                      refine x_calliM F hH 47 (F.lt (by omega)) (vv4 0) rfl (c_X4_leave l F.ad σ s_82 r_81) cw_X4_82 rfl rfl ⟨Nat.le_of_ble_eq_true rfl, Nat.le_of_ble_eq_true rfl⟩ rfl hl.1 rfl (Nat.le_of_ble_eq_true rfl) ⟨Nat.zero_le _, Nat.zero_le _⟩ dX4_share_241 (fun r_84 s_85 H locs e_86 hH => ?_)
                      refine lv_iload hx hb dX4_share_244 (lv_at hl 1 rfl) ?_
                      refine x_pure hx hb F.hml F.hown F.hts (c_X4_told l r_84 (((s_12 4 ((5 * (tn a)) + (tn kind))) - (s_12 4 ((5 * (tn b)) + (tn kind)))) / 2)) cw_X4_79 rfl rfl ⟨Nat.le_of_ble_eq_true rfl, Nat.le_of_ble_eq_true rfl⟩ rfl hl.1 rfl (Nat.le_of_ble_eq_true rfl) ⟨Nat.zero_le _, Nat.zero_le _⟩ dX4_share_246 ?_
                      exact x_iretM F hr hlk hH (by simp only [f_X4_share, if_neg c_1, if_neg c_3, if_neg c_5, e_9, if_pos c_10, e_13, if_pos c_14, if_neg c_18, if_pos c_62, if_pos c_70, if_neg c_71, if_pos c_79, e_83, e_86]) dX4_share_249
                    · refine lv_iconst (v := 4) hx hb dX4_share_186 (by decide) ?_
                      refine lv_goto (tgt := 191) hx hb dX4_share_187 (by decide) ?_
                      refine lv_istore (lv' := [(4, .int 4), (5, .int (((s_12 4 ((5 * (tn a)) + (tn kind))) - (s_12 4 ((5 * (tn b)) + (tn kind)))) / 2)), (9, .int (nI (tn b))), (8, .int (nI (tn a))), (7, .int (s_12 4 ((5 * (tn b)) + (tn kind)))), (6, .int (s_12 4 ((5 * (tn a)) + (tn kind)))), (0, .ref (ea E 47)), (1, .int a), (2, .int b), (3, .int kind)]) hx hb dX4_share_191 hl (by decide) rfl (fun ls hl => ?_)
                      refine lv_iload hx hb dX4_share_193 (lv_at hl 0 rfl) ?_
                      refine lv_if_ne (tgt := 230) hx hb dX4_share_195 (by decide) (fun _ => ?_) (fun c_87 => absurd c_87 (by decide))
                      refine lv_aload_n hx hb dX4_share_230 rfl (lv_at hl 6 rfl) ?_
                      refine lv_iload hx hb dX4_share_231 (lv_at hl 0 rfl) ?_
                      refine x_calliM F hH 47 (F.lt (by omega)) (vv4 0) rfl (c_X4_leave l F.ad σ s_12 4) cw_X4_82 rfl rfl ⟨Nat.le_of_ble_eq_true rfl, Nat.le_of_ble_eq_true rfl⟩ rfl hl.1 rfl (Nat.le_of_ble_eq_true rfl) ⟨Nat.zero_le _, Nat.zero_le _⟩ dX4_share_233 (fun r_88 s_89 H locs e_90 hH => ?_)
                      refine lv_istore (lv' := [(4, .int r_88), (5, .int (((s_12 4 ((5 * (tn a)) + (tn kind))) - (s_12 4 ((5 * (tn b)) + (tn kind)))) / 2)), (9, .int (nI (tn b))), (8, .int (nI (tn a))), (7, .int (s_12 4 ((5 * (tn b)) + (tn kind)))), (6, .int (s_12 4 ((5 * (tn a)) + (tn kind)))), (0, .ref (ea E 47)), (1, .int a), (2, .int b), (3, .int kind)]) hx hb dX4_share_236 hl (by decide) rfl (fun ls hl => ?_)
                      refine lv_aload_n hx hb dX4_share_238 rfl (lv_at hl 6 rfl) ?_
                      refine lv_iload hx hb dX4_share_239 (lv_at hl 0 rfl) ?_
                      refine x_calliM F hH 47 (F.lt (by omega)) (vv4 0) rfl (c_X4_leave l F.ad σ s_89 r_88) cw_X4_82 rfl rfl ⟨Nat.le_of_ble_eq_true rfl, Nat.le_of_ble_eq_true rfl⟩ rfl hl.1 rfl (Nat.le_of_ble_eq_true rfl) ⟨Nat.zero_le _, Nat.zero_le _⟩ dX4_share_241 (fun r_91 s_92 H locs e_93 hH => ?_)
                      refine lv_iload hx hb dX4_share_244 (lv_at hl 1 rfl) ?_
                      refine x_pure hx hb F.hml F.hown F.hts (c_X4_told l r_91 (((s_12 4 ((5 * (tn a)) + (tn kind))) - (s_12 4 ((5 * (tn b)) + (tn kind)))) / 2)) cw_X4_79 rfl rfl ⟨Nat.le_of_ble_eq_true rfl, Nat.le_of_ble_eq_true rfl⟩ rfl hl.1 rfl (Nat.le_of_ble_eq_true rfl) ⟨Nat.zero_le _, Nat.zero_le _⟩ dX4_share_246 ?_
                      exact x_iretM F hr hlk hH (by simp only [f_X4_share, if_neg c_1, if_neg c_3, if_neg c_5, e_9, if_pos c_10, e_13, if_pos c_14, if_neg c_18, if_pos c_62, if_pos c_70, if_neg c_71, if_neg c_79, e_90, e_93]) dX4_share_249
                · refine lv_iconst (v := 2) hx hb dX4_share_158 (by decide) ?_
                  refine lv_goto (tgt := 191) hx hb dX4_share_159 (by decide) ?_
                  refine lv_istore (lv' := [(4, .int 2), (5, .int (((s_12 4 ((5 * (tn a)) + (tn kind))) - (s_12 4 ((5 * (tn b)) + (tn kind)))) / 2)), (9, .int (nI (tn b))), (8, .int (nI (tn a))), (7, .int (s_12 4 ((5 * (tn b)) + (tn kind)))), (6, .int (s_12 4 ((5 * (tn a)) + (tn kind)))), (0, .ref (ea E 47)), (1, .int a), (2, .int b), (3, .int kind)]) hx hb dX4_share_191 hl (by decide) rfl (fun ls hl => ?_)
                  refine lv_iload hx hb dX4_share_193 (lv_at hl 0 rfl) ?_
                  refine lv_if_ne (tgt := 230) hx hb dX4_share_195 (by decide) (fun _ => ?_) (fun c_94 => absurd c_94 (by decide))
                  refine lv_aload_n hx hb dX4_share_230 rfl (lv_at hl 6 rfl) ?_
                  refine lv_iload hx hb dX4_share_231 (lv_at hl 0 rfl) ?_
                  refine x_calliM F hH 47 (F.lt (by omega)) (vv4 0) rfl (c_X4_leave l F.ad σ s_12 2) cw_X4_82 rfl rfl ⟨Nat.le_of_ble_eq_true rfl, Nat.le_of_ble_eq_true rfl⟩ rfl hl.1 rfl (Nat.le_of_ble_eq_true rfl) ⟨Nat.zero_le _, Nat.zero_le _⟩ dX4_share_233 (fun r_95 s_96 H locs e_97 hH => ?_)
                  refine lv_istore (lv' := [(4, .int r_95), (5, .int (((s_12 4 ((5 * (tn a)) + (tn kind))) - (s_12 4 ((5 * (tn b)) + (tn kind)))) / 2)), (9, .int (nI (tn b))), (8, .int (nI (tn a))), (7, .int (s_12 4 ((5 * (tn b)) + (tn kind)))), (6, .int (s_12 4 ((5 * (tn a)) + (tn kind)))), (0, .ref (ea E 47)), (1, .int a), (2, .int b), (3, .int kind)]) hx hb dX4_share_236 hl (by decide) rfl (fun ls hl => ?_)
                  refine lv_aload_n hx hb dX4_share_238 rfl (lv_at hl 6 rfl) ?_
                  refine lv_iload hx hb dX4_share_239 (lv_at hl 0 rfl) ?_
                  refine x_calliM F hH 47 (F.lt (by omega)) (vv4 0) rfl (c_X4_leave l F.ad σ s_96 r_95) cw_X4_82 rfl rfl ⟨Nat.le_of_ble_eq_true rfl, Nat.le_of_ble_eq_true rfl⟩ rfl hl.1 rfl (Nat.le_of_ble_eq_true rfl) ⟨Nat.zero_le _, Nat.zero_le _⟩ dX4_share_241 (fun r_98 s_99 H locs e_100 hH => ?_)
                  refine lv_iload hx hb dX4_share_244 (lv_at hl 1 rfl) ?_
                  refine x_pure hx hb F.hml F.hown F.hts (c_X4_told l r_98 (((s_12 4 ((5 * (tn a)) + (tn kind))) - (s_12 4 ((5 * (tn b)) + (tn kind)))) / 2)) cw_X4_79 rfl rfl ⟨Nat.le_of_ble_eq_true rfl, Nat.le_of_ble_eq_true rfl⟩ rfl hl.1 rfl (Nat.le_of_ble_eq_true rfl) ⟨Nat.zero_le _, Nat.zero_le _⟩ dX4_share_246 ?_
                  exact x_iretM F hr hlk hH (by simp only [f_X4_share, if_neg c_1, if_neg c_3, if_neg c_5, e_9, if_pos c_10, e_13, if_pos c_14, if_neg c_18, if_pos c_62, if_neg c_70, e_97, e_100]) dX4_share_249
        · refine lv_iload hx hb dX4_share_42 (lv_at hl 0 rfl) ?_
          refine lv_iconst (v := 0) hx hb dX4_share_44 (by decide) ?_
          refine x_pure hx hb F.hml F.hown F.hts (c_X4_told l r_7 0) cw_X4_79 rfl rfl ⟨Nat.le_of_ble_eq_true rfl, Nat.le_of_ble_eq_true rfl⟩ rfl hl.1 rfl (Nat.le_of_ble_eq_true rfl) ⟨Nat.zero_le _, Nat.zero_le _⟩ dX4_share_45 ?_
          exact x_iretM F hr hlk hH (by simp only [f_X4_share, if_neg c_1, if_neg c_3, if_neg c_5, e_9, if_neg c_10]) dX4_share_48
      · refine lv_iconst (v := -1) hx hb dX4_share_28 (by decide) ?_
        exact x_iretM F hr hlk hH (by simp only [f_X4_share, if_neg c_1, if_neg c_3, if_pos c_5]) dX4_share_29
def f_X4_look (μ : St) (t : Int32) (what : Int32) : Int32 × St :=
  if (f_X4_isTill t) = 0 then
    ((-1), (up μ 0 0 0))
  else
    if (f_X4_in what 0 8) = 0 then
      ((-1), (up μ 0 0 0))
    else
      match f_X4_hold (up μ 0 0 0) (tn t) with
      | (r_5, s_6) =>
        if r_5 = 0 then
          match f_X4_leave s_6 0 with
          | (r_9, s_10) =>
            (f_X4_told r_9 (f_X4_told_ s_10 (tn t) (tn what) 8), s_10)
        else
          (f_X4_told r_5 0, s_6)
set_option maxRecDepth 100000 in
set_option maxHeartbeats 4000000 in
theorem c_X4_look (l : Launch) {E : EV} (hA : AD E) (σ μ : St) (t : Int32) (what : Int32) : Met l yX4_look (.code yX4_look cX4_look 4 (some .int) :: gtbl) (rmL 3) (va_Pc [.ref (ea E 47), .int t, .int what] (PR E σ μ)) (QI E (f_X4_look μ t what).1 σ (f_X4_look μ t what).2) 0 0 (eA E) := by
  refine x_met (own := RX4) (by decide) rfl hA (Nat.le_of_ble_eq_true rfl) ?_
  intro p e s m below meth c ls F hr hlk hH hl
  have hl : lv_has ls 4 [(0, .ref (ea E 47)), (1, .int t), (2, .int what)] := hl
  have hx := F.hx
  have hb := F.hb
  refine lv_aload_n hx hb dX4_look_0 rfl (lv_at hl 0 rfl) ?_
  refine lv_iconst (v := 0) hx hb dX4_look_1 (by decide) ?_
  refine p_X4_thrown F hH kw_297 dX4_look_2 (fun H locs hH => ?_)
  refine lv_iload_n hx hb dX4_look_5 rfl (lv_at hl 1 rfl) ?_
  refine x_pure hx hb F.hml F.hown F.hts (c_X4_isTill l t) cw_X4_68 rfl rfl ⟨Nat.le_of_ble_eq_true rfl, Nat.le_of_ble_eq_true rfl⟩ rfl hl.1 rfl (Nat.le_of_ble_eq_true rfl) ⟨Nat.zero_le _, Nat.zero_le _⟩ dX4_look_6 ?_
  refine lv_if_eq (tgt := 22) hx hb dX4_look_9 (by decide) (fun c_1 => ?_) (fun c_1 => ?_)
  · refine lv_iconst (v := -1) hx hb dX4_look_22 (by decide) ?_
    exact x_iretM F hr hlk hH (by simp only [f_X4_look, if_pos c_1]) dX4_look_23
  · have q_2 := X4_isTill_n c_1
    have q_2b := q_2.2
    refine lv_iload_n hx hb dX4_look_12 rfl (lv_at hl 2 rfl) ?_
    refine lv_iconst (v := 0) hx hb dX4_look_13 (by decide) ?_
    refine lv_bipush (v := 8) hx hb dX4_look_14 (by decide) ?_
    refine x_pure hx hb F.hml F.hown F.hts (c_X4_in l what 0 8) cw_X4_33 rfl rfl ⟨Nat.le_of_ble_eq_true rfl, Nat.le_of_ble_eq_true rfl⟩ rfl hl.1 rfl (Nat.le_of_ble_eq_true rfl) ⟨Nat.zero_le _, Nat.zero_le _⟩ dX4_look_16 ?_
    refine lv_if_ne (tgt := 24) hx hb dX4_look_19 (by decide) (fun c_3 => ?_) (fun c_3 => ?_)
    · have q_4 := X4_in_n (M := 8) rfl (by decide) c_3
      have q_4b := q_4.2
      refine lv_aload_n hx hb dX4_look_24 rfl (lv_at hl 0 rfl) ?_
      refine lv_iload_n hx hb dX4_look_25 rfl (lv_at hl 1 rfl) ?_
      refine x_top q_2.1 ?_
      refine x_calliM F hH 47 (F.lt (by omega)) (vv4 0) rfl (c_X4_hold l F.ad σ (up μ 0 0 0) (tn t) (by omega)) cw_X4_76 rfl rfl ⟨Nat.le_of_ble_eq_true rfl, Nat.le_of_ble_eq_true rfl⟩ rfl hl.1 rfl (Nat.le_of_ble_eq_true rfl) ⟨Nat.zero_le _, Nat.zero_le _⟩ dX4_look_26 (fun r_5 s_6 H locs e_7 hH => ?_)
      refine lv_istore_n (lv' := [(3, .int r_5), (0, .ref (ea E 47)), (1, .int t), (2, .int what)]) hx hb dX4_look_29 rfl hl (by decide) rfl (fun ls hl => ?_)
      refine lv_iload_n hx hb dX4_look_30 rfl (lv_at hl 0 rfl) ?_
      refine lv_if_eq (tgt := 40) hx hb dX4_look_31 (by decide) (fun c_8 => ?_) (fun c_8 => ?_)
      · refine lv_aload_n hx hb dX4_look_40 rfl (lv_at hl 1 rfl) ?_
        refine lv_iconst (v := 0) hx hb dX4_look_41 (by decide) ?_
        refine x_calliM F hH 47 (F.lt (by omega)) (vv4 0) rfl (c_X4_leave l F.ad σ s_6 0) cw_X4_82 rfl rfl ⟨Nat.le_of_ble_eq_true rfl, Nat.le_of_ble_eq_true rfl⟩ rfl hl.1 rfl (Nat.le_of_ble_eq_true rfl) ⟨Nat.zero_le _, Nat.zero_le _⟩ dX4_look_42 (fun r_9 s_10 H locs e_11 hH => ?_)
        refine lv_aload_n hx hb dX4_look_45 rfl (lv_at hl 1 rfl) ?_
        refine lv_iload_n hx hb dX4_look_46 rfl (lv_at hl 2 rfl) ?_
        refine x_top q_2.1 ?_
        refine lv_iload_n hx hb dX4_look_47 rfl (lv_at hl 3 rfl) ?_
        refine x_top q_4.1 ?_
        refine lv_bipush (v := 8) hx hb dX4_look_48 (by decide) ?_
        refine x_calliR F hH 47 (F.lt (by omega)) (vv4 0) rfl (c_X4_told_ l F.ad σ s_10 (tn t) (tn what) 8 (by omega) (by omega) (by omega)) cw_X4_110 rfl rfl ⟨Nat.le_of_ble_eq_true rfl, Nat.le_of_ble_eq_true rfl⟩ rfl hl.1 rfl (Nat.le_of_ble_eq_true rfl) ⟨Nat.zero_le _, Nat.zero_le _⟩ dX4_look_50 (fun H locs hH => ?_)
        refine x_pure hx hb F.hml F.hown F.hts (c_X4_told l r_9 (f_X4_told_ s_10 (tn t) (tn what) 8)) cw_X4_79 rfl rfl ⟨Nat.le_of_ble_eq_true rfl, Nat.le_of_ble_eq_true rfl⟩ rfl hl.1 rfl (Nat.le_of_ble_eq_true rfl) ⟨Nat.zero_le _, Nat.zero_le _⟩ dX4_look_53 ?_
        exact x_iretM F hr hlk hH (by simp only [f_X4_look, if_neg c_1, if_neg c_3, e_7, if_pos c_8, e_11]) dX4_look_56
      · refine lv_iload_n hx hb dX4_look_34 rfl (lv_at hl 0 rfl) ?_
        refine lv_iconst (v := 0) hx hb dX4_look_35 (by decide) ?_
        refine x_pure hx hb F.hml F.hown F.hts (c_X4_told l r_5 0) cw_X4_79 rfl rfl ⟨Nat.le_of_ble_eq_true rfl, Nat.le_of_ble_eq_true rfl⟩ rfl hl.1 rfl (Nat.le_of_ble_eq_true rfl) ⟨Nat.zero_le _, Nat.zero_le _⟩ dX4_look_36 ?_
        exact x_iretM F hr hlk hH (by simp only [f_X4_look, if_neg c_1, if_neg c_3, e_7, if_neg c_8]) dX4_look_39
    · refine lv_iconst (v := -1) hx hb dX4_look_22 (by decide) ?_
      exact x_iretM F hr hlk hH (by simp only [f_X4_look, if_neg c_1, if_pos c_3]) dX4_look_23
def f_X4_hand (μ : St) (what : Int32) : Int32 × St :=
  if (f_X4_in what 0 6) = 0 then
    ((-1), (up μ 0 0 0))
  else
    (f_X4_told_ (up μ 0 0 0) 8 (tn what) 6, (up μ 0 0 0))
set_option maxRecDepth 100000 in
set_option maxHeartbeats 4000000 in
theorem c_X4_hand (l : Launch) {E : EV} (hA : AD E) (σ μ : St) (what : Int32) : Met l yX4_hand (.code yX4_hand cX4_hand 2 (some .int) :: gtbl) (rmL 3) (va_Pc [.ref (ea E 47), .int what] (PR E σ μ)) (QI E (f_X4_hand μ what).1 σ (f_X4_hand μ what).2) 0 0 (eA E) := by
  refine x_met (own := RX4) (by decide) rfl hA (Nat.le_of_ble_eq_true rfl) ?_
  intro p e s m below meth c ls F hr hlk hH hl
  have hl : lv_has ls 2 [(0, .ref (ea E 47)), (1, .int what)] := hl
  have hx := F.hx
  have hb := F.hb
  refine lv_aload_n hx hb dX4_hand_0 rfl (lv_at hl 0 rfl) ?_
  refine lv_iconst (v := 0) hx hb dX4_hand_1 (by decide) ?_
  refine p_X4_thrown F hH kw_297 dX4_hand_2 (fun H locs hH => ?_)
  refine lv_iload_n hx hb dX4_hand_5 rfl (lv_at hl 1 rfl) ?_
  refine lv_iconst (v := 0) hx hb dX4_hand_6 (by decide) ?_
  refine lv_bipush (v := 6) hx hb dX4_hand_7 (by decide) ?_
  refine x_pure hx hb F.hml F.hown F.hts (c_X4_in l what 0 6) cw_X4_33 rfl rfl ⟨Nat.le_of_ble_eq_true rfl, Nat.le_of_ble_eq_true rfl⟩ rfl hl.1 rfl (Nat.le_of_ble_eq_true rfl) ⟨Nat.zero_le _, Nat.zero_le _⟩ dX4_hand_9 ?_
  refine lv_if_eq (tgt := 27) hx hb dX4_hand_12 (by decide) (fun c_1 => ?_) (fun c_1 => ?_)
  · refine lv_iconst (v := -1) hx hb dX4_hand_27 (by decide) ?_
    exact x_iretM F hr hlk hH (by simp only [f_X4_hand, if_pos c_1]) dX4_hand_28
  · have q_2 := X4_in_n (M := 6) rfl (by decide) c_1
    have q_2b := q_2.2
    refine lv_aload_n hx hb dX4_hand_15 rfl (lv_at hl 0 rfl) ?_
    refine lv_bipush (v := 8) hx hb dX4_hand_16 (by decide) ?_
    refine lv_iload_n hx hb dX4_hand_18 rfl (lv_at hl 1 rfl) ?_
    refine x_top q_2.1 ?_
    refine lv_bipush (v := 6) hx hb dX4_hand_19 (by decide) ?_
    refine x_calliR F hH 47 (F.lt (by omega)) (vv4 0) rfl (c_X4_told_ l F.ad σ (up μ 0 0 0) 8 (tn what) 6 (by omega) (by omega) (by omega)) cw_X4_110 rfl rfl ⟨Nat.le_of_ble_eq_true rfl, Nat.le_of_ble_eq_true rfl⟩ rfl hl.1 rfl (Nat.le_of_ble_eq_true rfl) ⟨Nat.zero_le _, Nat.zero_le _⟩ dX4_hand_21 (fun H locs hH => ?_)
    refine lv_goto (tgt := 28) hx hb dX4_hand_24 (by decide) ?_
    exact x_iretM F hr hlk hH (by simp only [f_X4_hand, if_neg c_1]) dX4_hand_28
set_option maxRecDepth 100000 in
set_option maxHeartbeats 4000000 in
theorem lp_X4_first {p : Program} {l : Launch} {e : Env} {s : State} {m : MethodId} {args : Array Value} {below : List Frame} {meth : Method} {c : Code} {E : EV} (F : Fx E p s m args c cX4_first RX4 4) (hr : meth.sig.returnType = some .int) (hlk : meth.locks = false) (worth : Int32) : ∀ (n : Nat) (k : Nat) (σ μ : St) (H : Heap) (locs : List Loc) (ls : Array Slot), k + n = 8 → HS E s σ μ H locs → lv_has ls 4 [(0, .ref (ea E 47)), (1, .int worth), (2, .int (nI k))] → W p l e (rmL 2) s m args below meth c H locs 0 0 (MQ below (QI E (firstM worth n k μ).1 σ (firstM worth n k μ).2) args s 0 0 (eA E)) (F0 m 20 ls []) := by
  have hx := F.hx
  have hb := F.hb
  intro n
  induction n with
  | zero =>
    intro k σ μ H locs ls hn hH hl
    obtain rfl : k = 8 := by omega
    refine lv_iload_n hx hb dX4_first_20 rfl (lv_at hl 2 rfl) ?_
    refine lv_bipush (v := 8) hx hb dX4_first_21 (by decide) ?_
    refine lv_icmp_ge (tgt := 66) hx hb dX4_first_23 (by decide) (fun _ => ?_) (fun c_1 => absurd (by decide) c_1)
    refine lv_bipush (v := -2) hx hb dX4_first_66 (by decide) ?_
    exact x_iretM F hr hlk hH (by simp only [firstM]) dX4_first_68
  | succ n ih =>
    intro k σ μ H locs ls hn hH hl
    refine lv_iload_n hx hb dX4_first_20 rfl (lv_at hl 2 rfl) ?_
    refine lv_bipush (v := 8) hx hb dX4_first_21 (by decide) ?_
    refine lv_icmp_ge (tgt := 66) hx hb dX4_first_23 (by decide) (fun c_1 => absurd c_1 (nI_ge (show k < 8 by omega) (by decide))) (fun _ => ?_)
    refine lv_aload_n hx hb dX4_first_26 rfl (lv_at hl 0 rfl) ?_
    refine lv_iload_n hx hb dX4_first_27 rfl (lv_at hl 2 rfl) ?_
    refine x_calliM F hH 47 (F.lt (by omega)) (vv4 0) rfl (c_X4_hold l F.ad σ μ k (by omega)) cw_X4_76 rfl rfl ⟨Nat.le_of_ble_eq_true rfl, Nat.le_of_ble_eq_true rfl⟩ rfl hl.1 rfl (Nat.le_of_ble_eq_true rfl) ⟨Nat.zero_le _, Nat.zero_le _⟩ dX4_first_28 (fun r_2 s_3 H locs e_4 hH => ?_)
    refine lv_if_ne (tgt := 60) hx hb dX4_first_31 (by decide) (fun c_5 => ?_) (fun c_5 => ?_)
    · refine lv_iinc (v := nI (k + 1)) (lv' := [(2, .int (nI (k + 1))), (0, .ref (ea E 47)), (1, .int worth)]) hx hb dX4_first_60 hl (k := 2) rfl (nI_1 k) (by decide) rfl (fun ls hl => ?_)
      refine lv_goto (tgt := 20) hx hb dX4_first_63 (by decide) ?_
      rw [show firstM worth (n + 1) k μ = firstM worth n (k + 1) s_3 from (by simp only [firstM, e_4, if_neg c_5])]
      exact ih (k + 1) σ s_3 H locs ls (by omega) hH (lv_sub hl [1, 2, 0] rfl)
    · refine lv_aload_n hx hb dX4_first_34 rfl (lv_at hl 0 rfl) ?_
      refine lv_iconst (v := 0) hx hb dX4_first_35 (by decide) ?_
      refine x_calliM F hH 47 (F.lt (by omega)) (vv4 0) rfl (c_X4_leave l F.ad σ s_3 0) cw_X4_82 rfl rfl ⟨Nat.le_of_ble_eq_true rfl, Nat.le_of_ble_eq_true rfl⟩ rfl hl.1 rfl (Nat.le_of_ble_eq_true rfl) ⟨Nat.zero_le _, Nat.zero_le _⟩ dX4_first_36 (fun r_6 s_7 H locs e_8 hH => ?_)
      refine lv_istore_n (lv' := [(3, .int r_6), (0, .ref (ea E 47)), (1, .int worth), (2, .int (nI k))]) hx hb dX4_first_39 rfl hl (by decide) rfl (fun ls hl => ?_)
      refine lv_aload_n hx hb dX4_first_40 rfl (lv_at hl 1 rfl) ?_
      refine g_X4_isShut F hH kw_299 dX4_first_41 ?_
      refine lv_iload_n hx hb dX4_first_44 rfl (lv_at hl 3 rfl) ?_
      refine a_msh F hH k (by omega) dX4_first_45 ?_
      refine lv_if_ne (tgt := 60) hx hb dX4_first_46 (by decide) (fun c_9 => ?_) (fun c_9 => ?_)
      · refine lv_iinc (v := nI (k + 1)) (lv' := [(2, .int (nI (k + 1))), (3, .int r_6), (0, .ref (ea E 47)), (1, .int worth)]) hx hb dX4_first_60 hl (k := 3) rfl (nI_1 k) (by decide) rfl (fun ls hl => ?_)
        refine lv_goto (tgt := 20) hx hb dX4_first_63 (by decide) ?_
        rw [show firstM worth (n + 1) k μ = firstM worth n (k + 1) s_7 from (by simp only [firstM, e_4, if_pos c_5, e_8, if_neg c_9])]
        exact ih (k + 1) σ s_7 H locs ls (by omega) hH (lv_sub hl [2, 3, 0] rfl)
      · refine lv_aload_n hx hb dX4_first_49 rfl (lv_at hl 1 rfl) ?_
        refine lv_iload_n hx hb dX4_first_50 rfl (lv_at hl 3 rfl) ?_
        refine lv_iload_n hx hb dX4_first_51 rfl (lv_at hl 2 rfl) ?_
        refine x_calliM F hH 47 (F.lt (by omega)) (vv4 0) rfl (c_X4_lacks l F.ad σ s_7 k worth (by omega)) cw_X4_53 rfl rfl ⟨Nat.le_of_ble_eq_true rfl, Nat.le_of_ble_eq_true rfl⟩ rfl hl.1 rfl (Nat.le_of_ble_eq_true rfl) ⟨Nat.zero_le _, Nat.zero_le _⟩ dX4_first_52 (fun r_10 s_11 H locs e_12 hH => ?_)
        refine lv_if_ne (tgt := 60) hx hb dX4_first_55 (by decide) (fun c_13 => ?_) (fun c_13 => ?_)
        · refine lv_iinc (v := nI (k + 1)) (lv' := [(2, .int (nI (k + 1))), (3, .int r_6), (0, .ref (ea E 47)), (1, .int worth)]) hx hb dX4_first_60 hl (k := 3) rfl (nI_1 k) (by decide) rfl (fun ls hl => ?_)
          refine lv_goto (tgt := 20) hx hb dX4_first_63 (by decide) ?_
          rw [show firstM worth (n + 1) k μ = firstM worth n (k + 1) s_11 from (by simp only [firstM, e_4, if_pos c_5, e_8, if_pos c_9, e_12, if_neg c_13])]
          exact ih (k + 1) σ s_11 H locs ls (by omega) hH (lv_sub hl [2, 3, 0] rfl)
        · refine lv_iload_n hx hb dX4_first_58 rfl (lv_at hl 3 rfl) ?_
          exact x_iretM F hr hlk hH (by simp only [firstM, e_4, if_pos c_5, e_8, if_pos c_9, e_12, if_pos c_13]) dX4_first_59
def f_X4_first (μ : St) (worth : Int32) : Int32 × St :=
  if (f_X4_in worth 0 10000) = 0 then
    ((-1), (up μ 0 0 0))
  else
    firstM worth 8 0 (up μ 0 0 0)
set_option maxRecDepth 100000 in
set_option maxHeartbeats 4000000 in
theorem c_X4_first (l : Launch) {E : EV} (hA : AD E) (σ μ : St) (worth : Int32) : Met l yX4_first (.code yX4_first cX4_first 4 (some .int) :: gtbl) (rmL 2) (va_Pc [.ref (ea E 47), .int worth] (PR E σ μ)) (QI E (f_X4_first μ worth).1 σ (f_X4_first μ worth).2) 0 0 (eA E) := by
  refine x_met (own := RX4) (by decide) rfl hA (Nat.le_of_ble_eq_true rfl) ?_
  intro p e s m below meth c ls F hr hlk hH hl
  have hl : lv_has ls 4 [(0, .ref (ea E 47)), (1, .int worth)] := hl
  have hx := F.hx
  have hb := F.hb
  refine lv_aload_n hx hb dX4_first_0 rfl (lv_at hl 0 rfl) ?_
  refine lv_iconst (v := 0) hx hb dX4_first_1 (by decide) ?_
  refine p_X4_thrown F hH kw_297 dX4_first_2 (fun H locs hH => ?_)
  refine lv_iload_n hx hb dX4_first_5 rfl (lv_at hl 1 rfl) ?_
  refine lv_iconst (v := 0) hx hb dX4_first_6 (by decide) ?_
  refine lv_sipush (v := 10000) hx hb dX4_first_7 (by decide) ?_
  refine x_pure hx hb F.hml F.hown F.hts (c_X4_in l worth 0 10000) cw_X4_33 rfl rfl ⟨Nat.le_of_ble_eq_true rfl, Nat.le_of_ble_eq_true rfl⟩ rfl hl.1 rfl (Nat.le_of_ble_eq_true rfl) ⟨Nat.zero_le _, Nat.zero_le _⟩ dX4_first_10 ?_
  refine lv_if_ne (tgt := 18) hx hb dX4_first_13 (by decide) (fun c_1 => ?_) (fun c_1 => ?_)
  · refine lv_iconst (v := 0) hx hb dX4_first_18 (by decide) ?_
    refine lv_istore_n (lv' := [(2, .int 0), (0, .ref (ea E 47)), (1, .int worth)]) hx hb dX4_first_19 rfl hl (by decide) rfl (fun ls hl => ?_)
    rw [show f_X4_first μ worth = firstM worth 8 0 (up μ 0 0 0) from (by simp only [f_X4_first, if_neg c_1])]
    exact lp_X4_first F hr hlk worth 8 0 σ (up μ 0 0 0) _ _ ls (by omega) hH (lv_sub hl [1, 2, 0] rfl)
  · refine lv_iconst (v := -1) hx hb dX4_first_16 (by decide) ?_
    exact x_iretM F hr hlk hH (by simp only [f_X4_first, if_pos c_1]) dX4_first_17
set_option maxRecDepth 100000 in
set_option maxHeartbeats 4000000 in
theorem lp_X4_count {p : Program} {l : Launch} {e : Env} {s : State} {m : MethodId} {args : Array Value} {below : List Frame} {meth : Method} {c : Code} {Q : State → Prop} {E : EV} (F : Fx E p s m args c cX4_count RX4 4) (what : Int32) : ∀ (n : Nat) (k : Nat) (acc : Int32) (σ μ : St) (H : Heap) (locs : List Loc) (ls : Array Slot), k + n = 8 → HS E s σ μ H locs → lv_has ls 4 [(0, .ref (ea E 47)), (1, .int what), (2, .int acc), (3, .int (nI k))] → (∀ (H : Heap) (locs : List Loc) (ls : Array Slot), HS E s σ μ H locs → lv_has ls 4 [(0, .ref (ea E 47)), (1, .int what), (2, .int (thereM μ n k acc)), (3, .int (nI 8))] → W p l e (rmL 0) s m args below meth c H locs 0 0 Q (F0 m 38 ls [])) → W p l e (rmL 0) s m args below meth c H locs 0 0 Q (F0 m 9 ls []) := by
  have hx := F.hx
  have hb := F.hb
  intro n
  induction n with
  | zero =>
    intro k acc σ μ H locs ls hn hH hl hk
    obtain rfl : k = 8 := by omega
    refine lv_iload_n hx hb dX4_count_9 rfl (lv_at hl 3 rfl) ?_
    refine lv_bipush (v := 8) hx hb dX4_count_10 (by decide) ?_
    refine lv_icmp_ge (tgt := 38) hx hb dX4_count_12 (by decide) (fun _ => ?_) (fun c_1 => absurd (by decide) c_1)
    simp only [thereM] at hk
    exact hk H locs ls hH (lv_sub hl [0, 1, 2, 3] rfl)
  | succ n ih =>
    intro k acc σ μ H locs ls hn hH hl hk
    refine lv_iload_n hx hb dX4_count_9 rfl (lv_at hl 3 rfl) ?_
    refine lv_bipush (v := 8) hx hb dX4_count_10 (by decide) ?_
    refine lv_icmp_ge (tgt := 38) hx hb dX4_count_12 (by decide) (fun c_1 => absurd c_1 (nI_ge (show k < 8 by omega) (by decide))) (fun _ => ?_)
    refine lv_iload_n hx hb dX4_count_15 rfl (lv_at hl 2 rfl) ?_
    refine lv_aload_n hx hb dX4_count_16 rfl (lv_at hl 0 rfl) ?_
    refine g_X4_isThere F hH kw_298 dX4_count_17 ?_
    refine lv_iload_n hx hb dX4_count_20 rfl (lv_at hl 3 rfl) ?_
    refine a_mth F hH k (by omega) dX4_count_21 ?_
    refine lv_if_eq (tgt := 29) hx hb dX4_count_22 (by decide) (fun c_2 => ?_) (fun c_2 => ?_)
    · refine lv_iconst (v := 0) hx hb dX4_count_29 (by decide) ?_
      refine lv_iadd hx hb dX4_count_30 ?_
      refine lv_istore_n (lv' := [(2, .int (acc + 0)), (0, .ref (ea E 47)), (1, .int what), (3, .int (nI k))]) hx hb dX4_count_31 rfl hl (by decide) rfl (fun ls hl => ?_)
      refine lv_iinc (v := nI (k + 1)) (lv' := [(3, .int (nI (k + 1))), (2, .int (acc + 0)), (0, .ref (ea E 47)), (1, .int what)]) hx hb dX4_count_32 hl (k := 3) rfl (nI_1 k) (by decide) rfl (fun ls hl => ?_)
      refine lv_goto (tgt := 9) hx hb dX4_count_35 (by decide) ?_
      simp only [thereM, if_pos c_2] at hk
      exact ih (k + 1) (acc + 0) σ μ H locs ls (by omega) hH (lv_sub hl [2, 3, 1, 0] rfl) hk
    · refine lv_iconst (v := 1) hx hb dX4_count_25 (by decide) ?_
      refine lv_goto (tgt := 30) hx hb dX4_count_26 (by decide) ?_
      refine lv_iadd hx hb dX4_count_30 ?_
      refine lv_istore_n (lv' := [(2, .int (acc + 1)), (0, .ref (ea E 47)), (1, .int what), (3, .int (nI k))]) hx hb dX4_count_31 rfl hl (by decide) rfl (fun ls hl => ?_)
      refine lv_iinc (v := nI (k + 1)) (lv' := [(3, .int (nI (k + 1))), (2, .int (acc + 1)), (0, .ref (ea E 47)), (1, .int what)]) hx hb dX4_count_32 hl (k := 3) rfl (nI_1 k) (by decide) rfl (fun ls hl => ?_)
      refine lv_goto (tgt := 9) hx hb dX4_count_35 (by decide) ?_
      simp only [thereM, if_neg c_2] at hk
      exact ih (k + 1) (acc + 1) σ μ H locs ls (by omega) hH (lv_sub hl [2, 3, 1, 0] rfl) hk
def f_X4_count (μ : St) (what : Int32) : Int32 × St :=
  if what = 0 then
    ((up μ 0 0 0) 0 1, (up μ 0 0 0))
  else
    if what = 1 then
      ((up μ 0 0 0) 0 2, (up μ 0 0 0))
    else
      if what = 2 then
        ((up μ 0 0 0) 0 4, (up μ 0 0 0))
      else
        if what = 3 then
          (thereM (up μ 0 0 0) 8 0 0, (up μ 0 0 0))
        else
          ((-1), (up μ 0 0 0))
set_option maxRecDepth 100000 in
set_option maxHeartbeats 4000000 in
theorem c_X4_count (l : Launch) {E : EV} (hA : AD E) (σ μ : St) (what : Int32) : Met l yX4_count (.code yX4_count cX4_count 4 (some .int) :: gtbl) (rmL 0) (va_Pc [.ref (ea E 47), .int what] (PR E σ μ)) (QI E (f_X4_count μ what).1 σ (f_X4_count μ what).2) 0 0 (eA E) := by
  refine x_met (own := RX4) (by decide) rfl hA (Nat.le_of_ble_eq_true rfl) ?_
  intro p e s m below meth c ls F hr hlk hH hl
  have hl : lv_has ls 4 [(0, .ref (ea E 47)), (1, .int what)] := hl
  have hx := F.hx
  have hb := F.hb
  refine lv_aload_n hx hb dX4_count_0 rfl (lv_at hl 0 rfl) ?_
  refine lv_iconst (v := 0) hx hb dX4_count_1 (by decide) ?_
  refine p_X4_thrown F hH kw_297 dX4_count_2 (fun H locs hH => ?_)
  refine lv_iconst (v := 0) hx hb dX4_count_5 (by decide) ?_
  refine lv_istore_n (lv' := [(2, .int 0), (0, .ref (ea E 47)), (1, .int what)]) hx hb dX4_count_6 rfl hl (by decide) rfl (fun ls hl => ?_)
  refine lv_iconst (v := 0) hx hb dX4_count_7 (by decide) ?_
  refine lv_istore_n (lv' := [(3, .int 0), (2, .int 0), (0, .ref (ea E 47)), (1, .int what)]) hx hb dX4_count_8 rfl hl (by decide) rfl (fun ls hl => ?_)
  refine lp_X4_count F what 8 0 0 σ (up μ 0 0 0) _ _ ls (by omega) hH (lv_sub hl [2, 3, 1, 0] rfl) (fun H locs ls hH hl => ?_)
  refine lv_iload_n hx hb dX4_count_38 rfl (lv_at hl 1 rfl) ?_
  refine lv_if_ne (tgt := 49) hx hb dX4_count_39 (by decide) (fun c_1 => ?_) (fun c_1 => ?_)
  · refine lv_iload_n hx hb dX4_count_49 rfl (lv_at hl 1 rfl) ?_
    refine lv_iconst (v := 1) hx hb dX4_count_50 (by decide) ?_
    refine lv_icmp_ne (tgt := 61) hx hb dX4_count_51 (by decide) (fun c_2 => ?_) (fun c_2 => ?_)
    · refine lv_iload_n hx hb dX4_count_61 rfl (lv_at hl 1 rfl) ?_
      refine lv_iconst (v := 2) hx hb dX4_count_62 (by decide) ?_
      refine lv_icmp_ne (tgt := 73) hx hb dX4_count_63 (by decide) (fun c_3 => ?_) (fun c_3 => ?_)
      · refine lv_iload_n hx hb dX4_count_73 rfl (lv_at hl 1 rfl) ?_
        refine lv_iconst (v := 3) hx hb dX4_count_74 (by decide) ?_
        refine lv_icmp_ne (tgt := 82) hx hb dX4_count_75 (by decide) (fun c_4 => ?_) (fun c_4 => ?_)
        · refine lv_iconst (v := -1) hx hb dX4_count_82 (by decide) ?_
          exact x_iretM F hr hlk hH (by simp only [f_X4_count, if_neg c_1, if_neg c_2, if_neg c_3, if_neg c_4]) dX4_count_83
        · refine lv_iload_n hx hb dX4_count_78 rfl (lv_at hl 2 rfl) ?_
          refine lv_goto (tgt := 83) hx hb dX4_count_79 (by decide) ?_
          exact x_iretM F hr hlk hH (by simp only [f_X4_count, if_neg c_1, if_neg c_2, if_neg c_3, if_pos c_4]) dX4_count_83
      · refine lv_aload_n hx hb dX4_count_66 rfl (lv_at hl 0 rfl) ?_
        refine g_X4_deepest F hH kw_305 dX4_count_67 ?_
        refine lv_goto (tgt := 83) hx hb dX4_count_70 (by decide) ?_
        exact x_iretM F hr hlk hH (by simp only [f_X4_count, if_neg c_1, if_neg c_2, if_pos c_3]) dX4_count_83
    · refine lv_aload_n hx hb dX4_count_54 rfl (lv_at hl 0 rfl) ?_
      refine g_X4_left F hH kw_303 dX4_count_55 ?_
      refine lv_goto (tgt := 83) hx hb dX4_count_58 (by decide) ?_
      exact x_iretM F hr hlk hH (by simp only [f_X4_count, if_neg c_1, if_pos c_2]) dX4_count_83
  · refine lv_aload_n hx hb dX4_count_42 rfl (lv_at hl 0 rfl) ?_
    refine g_X4_holds F hH kw_302 dX4_count_43 ?_
    refine lv_goto (tgt := 83) hx hb dX4_count_46 (by decide) ?_
    exact x_iretM F hr hlk hH (by simp only [f_X4_count, if_pos c_1]) dX4_count_83
