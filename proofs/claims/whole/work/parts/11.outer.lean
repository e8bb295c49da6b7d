def firstL (worth : Int32) : Nat → Nat → St → Int32 × St
  | 0, _, σ => (-2, σ)
  | n + 1, k, σ => match f_X3_couldPay σ k worth with
    | (r, σ1) => if r = 0 then firstL worth n (k + 1) σ1 else (nI k, σ1)
def f_X3_till (σ : St) (t : Int32) (limit : Int32) : Int32 × St :=
  if (f_X3_isTill t) = 0 then
    ((-1), σ)
  else
    if (f_X3_isUpTo limit 200) = 0 then
      ((-1), σ)
    else
      (1, (clrL (tn t) 5 0 (up (up (up σ 17 (tn t) 1) 18 (tn t) 0) 19 (tn t) limit)))
set_option maxRecDepth 100000 in
set_option maxHeartbeats 4000000 in
theorem c_X3_till (l : Launch) {E : EV} (hA : AD E) (σ μ : St) (t : Int32) (limit : Int32) : Met l yX3_till (.code yX3_till cX3_till 4 (some .int) :: gtbl) (rmL 1) (va_Pc [.ref (ea E 0), .int t, .int limit] (PR E σ μ)) (QI E (f_X3_till σ t limit).1 (f_X3_till σ t limit).2 μ) 0 0 (eA E) := by
  refine x_met (own := RX3) (by decide) rfl hA (Nat.le_of_ble_eq_true rfl) ?_
  intro p e s m below meth c ls F hr hlk hH hl
  have hl : lv_has ls 4 [(0, .ref (ea E 0)), (1, .int t), (2, .int limit)] := hl
  have hx := F.hx
  have hb := F.hb
  refine lv_iload_n hx hb dX3_till_0 rfl (lv_at hl 1 rfl) ?_
  refine x_pure hx hb F.hml F.hown F.hts (c_X3_isTill l t) cw_X3_44 rfl rfl ⟨Nat.le_of_ble_eq_true rfl, Nat.le_of_ble_eq_true rfl⟩ rfl hl.1 rfl (Nat.le_of_ble_eq_true rfl) ⟨Nat.zero_le _, Nat.zero_le _⟩ dX3_till_1 ?_
  refine lv_if_eq (tgt := 17) hx hb dX3_till_4 (by decide) (fun c_1 => ?_) (fun c_1 => ?_)
  · refine lv_iconst (v := -1) hx hb dX3_till_17 (by decide) ?_
    exact x_iretX F hr hlk hH (by simp only [f_X3_till, if_pos c_1]) dX3_till_18
  · have q_2 := X3_isTill_n c_1
    have q_2b := q_2.2
    refine lv_iload_n hx hb dX3_till_7 rfl (lv_at hl 2 rfl) ?_
    refine lv_sipush (v := 200) hx hb dX3_till_8 (by decide) ?_
    refine x_pure hx hb F.hml F.hown F.hts (c_X3_isUpTo l limit 200) cw_X3_48 rfl rfl ⟨Nat.le_of_ble_eq_true rfl, Nat.le_of_ble_eq_true rfl⟩ rfl hl.1 rfl (Nat.le_of_ble_eq_true rfl) ⟨Nat.zero_le _, Nat.zero_le _⟩ dX3_till_11 ?_
    refine lv_if_ne (tgt := 19) hx hb dX3_till_14 (by decide) (fun c_3 => ?_) (fun c_3 => ?_)
    · refine lv_aload_n hx hb dX3_till_19 rfl (lv_at hl 0 rfl) ?_
      refine g_X3_tills F hH kw_98 dX3_till_20 ?_
      refine lv_iload_n hx hb dX3_till_23 rfl (lv_at hl 1 rfl) ?_
      refine x_top q_2.1 ?_
      refine a_tills F hH (tn t) (by omega) dX3_till_24 ?_
      refine lv_astore_n (lv' := [(3, .ref (ea E (5 + (tn t)))), (0, .ref (ea E 0)), (1, .int t), (2, .int limit)]) hx hb dX3_till_25 rfl hl (by decide) rfl (fun ls hl => ?_)
      refine lv_aload_n hx hb dX3_till_26 rfl (lv_at hl 0 rfl) ?_
      refine lv_iconst (v := 1) hx hb dX3_till_27 (by decide) ?_
      refine x_top bz_1.symm ?_
      refine p_X2_isThere F hH (t := tn t) (by omega) kw_59 dX3_till_28 (fun H locs hH => ?_)
      refine lv_aload_n hx hb dX3_till_31 rfl (lv_at hl 0 rfl) ?_
      refine lv_iconst (v := 0) hx hb dX3_till_32 (by decide) ?_
      refine x_top bz_0.symm ?_
      refine p_X2_isShut F hH (t := tn t) (by omega) kw_60 dX3_till_33 (fun H locs hH => ?_)
      refine lv_aload_n hx hb dX3_till_36 rfl (lv_at hl 0 rfl) ?_
      refine lv_iload_n hx hb dX3_till_37 rfl (lv_at hl 3 rfl) ?_
      refine p_X2_limit F hH (t := tn t) (by omega) kw_63 dX3_till_38 (fun H locs hH => ?_)
      refine lv_aload_n hx hb dX3_till_41 rfl (lv_at hl 0 rfl) ?_
      refine g_X2_coins F hH (t := tn t) (by omega) kw_58 dX3_till_42 ?_
      refine x_callv F hH (13 + (tn t)) (F.lt (by omega)) (vv2 (by omega)) rfl (c_X0_clear l F.ad (up (up (up σ 17 (tn t) 1) 18 (tn t) 0) 19 (tn t) limit) μ (tn t) (by omega)) cw_X3_66 rfl rfl ⟨Nat.le_of_ble_eq_true rfl, Nat.le_of_ble_eq_true rfl⟩ rfl hl.1 rfl (Nat.le_of_ble_eq_true rfl) ⟨Nat.zero_le _, Nat.zero_le _⟩ dX3_till_45 (fun H locs hH => ?_)
      refine lv_iconst (v := 1) hx hb dX3_till_48 (by decide) ?_
      exact x_iretX F hr hlk hH (by simp only [f_X3_till, if_neg c_1, if_neg c_3]) dX3_till_49
    · refine lv_iconst (v := -1) hx hb dX3_till_17 (by decide) ?_
      exact x_iretX F hr hlk hH (by simp only [f_X3_till, if_neg c_1, if_pos c_3]) dX3_till_18
def f_X3_drop (σ : St) (t : Int32) : Int32 × St :=
  if (f_X3_isTill t) = 0 then
    ((-1), σ)
  else
    if (bz (σ 17 (tn t))) = 0 then
      (0, (up σ 17 (tn t) 0))
    else
      (1, (up σ 17 (tn t) 0))
set_option maxRecDepth 100000 in
set_option maxHeartbeats 4000000 in
theorem c_X3_drop (l : Launch) {E : EV} (hA : AD E) (σ μ : St) (t : Int32) : Met l yX3_drop (.code yX3_drop cX3_drop 3 (some .int) :: gtbl) (rmL 1) (va_Pc [.ref (ea E 0), .int t] (PR E σ μ)) (QI E (f_X3_drop σ t).1 (f_X3_drop σ t).2 μ) 0 0 (eA E) := by
  refine x_met (own := RX3) (by decide) rfl hA (Nat.le_of_ble_eq_true rfl) ?_
  intro p e s m below meth c ls F hr hlk hH hl
  have hl : lv_has ls 3 [(0, .ref (ea E 0)), (1, .int t)] := hl
  have hx := F.hx
  have hb := F.hb
  refine lv_iload_n hx hb dX3_drop_0 rfl (lv_at hl 1 rfl) ?_
  refine x_pure hx hb F.hml F.hown F.hts (c_X3_isTill l t) cw_X3_44 rfl rfl ⟨Nat.le_of_ble_eq_true rfl, Nat.le_of_ble_eq_true rfl⟩ rfl hl.1 rfl (Nat.le_of_ble_eq_true rfl) ⟨Nat.zero_le _, Nat.zero_le _⟩ dX3_drop_1 ?_
  refine lv_if_ne (tgt := 9) hx hb dX3_drop_4 (by decide) (fun c_1 => ?_) (fun c_1 => ?_)
  · have q_2 := X3_isTill_n c_1
    have q_2b := q_2.2
    refine lv_aload_n hx hb dX3_drop_9 rfl (lv_at hl 0 rfl) ?_
    refine g_X3_tills F hH kw_98 dX3_drop_10 ?_
    refine lv_iload_n hx hb dX3_drop_13 rfl (lv_at hl 1 rfl) ?_
    refine x_top q_2.1 ?_
    refine a_tills F hH (tn t) (by omega) dX3_drop_14 ?_
    refine g_X2_isThere F hH (t := tn t) (by omega) kw_59 dX3_drop_15 ?_
    refine lv_if_eq (tgt := 25) hx hb dX3_drop_18 (by decide) (fun c_3 => ?_) (fun c_3 => ?_)
    · refine lv_iconst (v := 0) hx hb dX3_drop_25 (by decide) ?_
      refine lv_istore_n (lv' := [(2, .int 0), (0, .ref (ea E 0)), (1, .int t)]) hx hb dX3_drop_26 rfl hl (by decide) rfl (fun ls hl => ?_)
      refine lv_aload_n hx hb dX3_drop_27 rfl (lv_at hl 1 rfl) ?_
      refine g_X3_tills F hH kw_98 dX3_drop_28 ?_
      refine lv_iload_n hx hb dX3_drop_31 rfl (lv_at hl 2 rfl) ?_
      refine x_top q_2.1 ?_
      refine a_tills F hH (tn t) (by omega) dX3_drop_32 ?_
      refine lv_iconst (v := 0) hx hb dX3_drop_33 (by decide) ?_
      refine x_top bz_0.symm ?_
      refine p_X2_isThere F hH (t := tn t) (by omega) kw_59 dX3_drop_34 (fun H locs hH => ?_)
      refine lv_iload_n hx hb dX3_drop_37 rfl (lv_at hl 0 rfl) ?_
      exact x_iretX F hr hlk hH (by simp only [f_X3_drop, if_neg c_1, if_pos c_3]) dX3_drop_38
    · refine lv_iconst (v := 1) hx hb dX3_drop_21 (by decide) ?_
      refine lv_goto (tgt := 26) hx hb dX3_drop_22 (by decide) ?_
      refine lv_istore_n (lv' := [(2, .int 1), (0, .ref (ea E 0)), (1, .int t)]) hx hb dX3_drop_26 rfl hl (by decide) rfl (fun ls hl => ?_)
      refine lv_aload_n hx hb dX3_drop_27 rfl (lv_at hl 1 rfl) ?_
      refine g_X3_tills F hH kw_98 dX3_drop_28 ?_
      refine lv_iload_n hx hb dX3_drop_31 rfl (lv_at hl 2 rfl) ?_
      refine x_top q_2.1 ?_
      refine a_tills F hH (tn t) (by omega) dX3_drop_32 ?_
      refine lv_iconst (v := 0) hx hb dX3_drop_33 (by decide) ?_
      refine x_top bz_0.symm ?_
      refine p_X2_isThere F hH (t := tn t) (by omega) kw_59 dX3_drop_34 (fun H locs hH => ?_)
      refine lv_iload_n hx hb dX3_drop_37 rfl (lv_at hl 0 rfl) ?_
      exact x_iretX F hr hlk hH (by simp only [f_X3_drop, if_neg c_1, if_neg c_3]) dX3_drop_38
  · refine lv_iconst (v := -1) hx hb dX3_drop_7 (by decide) ?_
    exact x_iretX F hr hlk hH (by simp only [f_X3_drop, if_pos c_1]) dX3_drop_8
def f_X3_shut (σ : St) (t : Int32) (is : Int32) : Int32 × St :=
  if (f_X3_isTill t) = 0 then
    ((-1), σ)
  else
    match f_X3_begin σ (tn t) with
    | (r_3, s_4) =>
      if r_3 = 0 then
        ((-11), s_4)
      else
        if (bz (s_4 18 (tn t))) = 0 then
          match f_X3_end (up s_4 18 (tn t) is) 0 with
          | (r_8, s_9) =>
            (r_8, s_9)
        else
          match f_X3_end (up s_4 18 (tn t) is) 1 with
          | (r_11, s_12) =>
            (r_11, s_12)
set_option maxRecDepth 100000 in
set_option maxHeartbeats 4000000 in
theorem c_X3_shut (l : Launch) {E : EV} (hA : AD E) (σ μ : St) (t : Int32) (is : Int32) : Met l yX3_shut (.code yX3_shut cX3_shut 5 (some .int) :: gtbl) (rmL 3) (va_Pc [.ref (ea E 0), .int t, .int (bz is)] (PR E σ μ)) (QI E (f_X3_shut σ t is).1 (f_X3_shut σ t is).2 μ) 0 0 (eA E) := by
  refine x_met (own := RX3) (by decide) rfl hA (Nat.le_of_ble_eq_true rfl) ?_
  intro p e s m below meth c ls F hr hlk hH hl
  have hl : lv_has ls 5 [(0, .ref (ea E 0)), (1, .int t), (2, .int (bz is))] := hl
  have hx := F.hx
  have hb := F.hb
  refine lv_iload_n hx hb dX3_shut_0 rfl (lv_at hl 1 rfl) ?_
  refine x_pure hx hb F.hml F.hown F.hts (c_X3_isTill l t) cw_X3_44 rfl rfl ⟨Nat.le_of_ble_eq_true rfl, Nat.le_of_ble_eq_true rfl⟩ rfl hl.1 rfl (Nat.le_of_ble_eq_true rfl) ⟨Nat.zero_le _, Nat.zero_le _⟩ dX3_shut_1 ?_
  refine lv_if_ne (tgt := 9) hx hb dX3_shut_4 (by decide) (fun c_1 => ?_) (fun c_1 => ?_)
  · have q_2 := X3_isTill_n c_1
    have q_2b := q_2.2
    refine lv_aload_n hx hb dX3_shut_9 rfl (lv_at hl 0 rfl) ?_
    refine g_X3_tills F hH kw_98 dX3_shut_10 ?_
    refine lv_iload_n hx hb dX3_shut_13 rfl (lv_at hl 1 rfl) ?_
    refine x_top q_2.1 ?_
    refine a_tills F hH (tn t) (by omega) dX3_shut_14 ?_
    refine lv_astore_n (lv' := [(3, .ref (ea E (5 + (tn t)))), (0, .ref (ea E 0)), (1, .int t), (2, .int (bz is))]) hx hb dX3_shut_15 rfl hl (by decide) rfl (fun ls hl => ?_)
    refine lv_aload_n hx hb dX3_shut_16 rfl (lv_at hl 1 rfl) ?_
    refine lv_aload_n hx hb dX3_shut_17 rfl (lv_at hl 0 rfl) ?_
    refine x_calliX F hH 0 (F.lt (by omega)) (vv0 (by decide)) rfl (c_X3_begin l F.ad σ μ (tn t) (by omega)) cw_X3_69 rfl rfl ⟨Nat.le_of_ble_eq_true rfl, Nat.le_of_ble_eq_true rfl⟩ rfl hl.1 rfl (Nat.le_of_ble_eq_true rfl) ⟨Nat.zero_le _, Nat.zero_le _⟩ dX3_shut_18 (fun r_3 s_4 H locs e_5 hH => ?_)
    refine lv_if_ne (tgt := 27) hx hb dX3_shut_21 (by decide) (fun c_6 => ?_) (fun c_6 => ?_)
    · refine lv_aload_n hx hb dX3_shut_27 rfl (lv_at hl 0 rfl) ?_
      refine g_X2_isShut F hH (t := tn t) (by omega) kw_60 dX3_shut_28 ?_
      refine lv_if_eq (tgt := 38) hx hb dX3_shut_31 (by decide) (fun c_7 => ?_) (fun c_7 => ?_)
      · refine lv_iconst (v := 0) hx hb dX3_shut_38 (by decide) ?_
        refine lv_istore (lv' := [(4, .int 0), (3, .ref (ea E (5 + (tn t)))), (0, .ref (ea E 0)), (1, .int t), (2, .int (bz is))]) hx hb dX3_shut_39 hl (by decide) rfl (fun ls hl => ?_)
        refine lv_aload_n hx hb dX3_shut_41 rfl (lv_at hl 1 rfl) ?_
        refine lv_iload_n hx hb dX3_shut_42 rfl (lv_at hl 4 rfl) ?_
        refine p_X2_isShut F hH (t := tn t) (by omega) kw_60 dX3_shut_43 (fun H locs hH => ?_)
        refine lv_aload_n hx hb dX3_shut_46 rfl (lv_at hl 2 rfl) ?_
        refine lv_iload hx hb dX3_shut_47 (lv_at hl 0 rfl) ?_
        refine x_calliX F hH 0 (F.lt (by omega)) (vv0 (by decide)) rfl (c_X3_end l F.ad (up s_4 18 (tn t) is) μ 0) cw_X3_73 rfl rfl ⟨Nat.le_of_ble_eq_true rfl, Nat.le_of_ble_eq_true rfl⟩ rfl hl.1 rfl (Nat.le_of_ble_eq_true rfl) ⟨Nat.zero_le _, Nat.zero_le _⟩ dX3_shut_49 (fun r_8 s_9 H locs e_10 hH => ?_)
        exact x_iretX F hr hlk hH (by simp only [f_X3_shut, if_neg c_1, e_5, if_neg c_6, if_pos c_7, e_10]) dX3_shut_52
      · refine lv_iconst (v := 1) hx hb dX3_shut_34 (by decide) ?_
        refine lv_goto (tgt := 39) hx hb dX3_shut_35 (by decide) ?_
        refine lv_istore (lv' := [(4, .int 1), (3, .ref (ea E (5 + (tn t)))), (0, .ref (ea E 0)), (1, .int t), (2, .int (bz is))]) hx hb dX3_shut_39 hl (by decide) rfl (fun ls hl => ?_)
        refine lv_aload_n hx hb dX3_shut_41 rfl (lv_at hl 1 rfl) ?_
        refine lv_iload_n hx hb dX3_shut_42 rfl (lv_at hl 4 rfl) ?_
        refine p_X2_isShut F hH (t := tn t) (by omega) kw_60 dX3_shut_43 (fun H locs hH => ?_)
        refine lv_aload_n hx hb dX3_shut_46 rfl (lv_at hl 2 rfl) ?_
        refine lv_iload hx hb dX3_shut_47 (lv_at hl 0 rfl) ?_
        refine x_calliX F hH 0 (F.lt (by omega)) (vv0 (by decide)) rfl (c_X3_end l F.ad (up s_4 18 (tn t) is) μ 1) cw_X3_73 rfl rfl ⟨Nat.le_of_ble_eq_true rfl, Nat.le_of_ble_eq_true rfl⟩ rfl hl.1 rfl (Nat.le_of_ble_eq_true rfl) ⟨Nat.zero_le _, Nat.zero_le _⟩ dX3_shut_49 (fun r_11 s_12 H locs e_13 hH => ?_)
        exact x_iretX F hr hlk hH (by simp only [f_X3_shut, if_neg c_1, e_5, if_neg c_6, if_neg c_7, e_13]) dX3_shut_52
    · refine lv_bipush (v := -11) hx hb dX3_shut_24 (by decide) ?_
      exact x_iretX F hr hlk hH (by simp only [f_X3_shut, if_neg c_1, e_5, if_pos c_6]) dX3_shut_26
  · refine lv_iconst (v := -1) hx hb dX3_shut_7 (by decide) ?_
    exact x_iretX F hr hlk hH (by simp only [f_X3_shut, if_pos c_1]) dX3_shut_8
def f_X3_put (σ : St) (t : Int32) (kind : Int32) (n : Int32) : Int32 × St :=
  if (f_X3_isTill t) = 0 then
    ((-1), σ)
  else
    if (f_X3_isKind kind) = 0 then
      ((-1), σ)
    else
      if (f_X3_isUpTo n 200) = 0 then
        ((-1), σ)
      else
        match f_X3_begin σ (tn t) with
        | (r_6, s_7) =>
          if r_6 = 0 then
            ((-11), s_7)
          else
            match f_X3_layPicked (addL 8 9 5 0 (up (clrL 9 5 0 s_7) 9 (tn kind) n)) (tn t) with
            | (r_10, s_11) =>
              match f_X3_end s_11 r_10 with
              | (r_13, s_14) =>
                (r_13, s_14)
set_option maxRecDepth 100000 in
set_option maxHeartbeats 4000000 in
theorem c_X3_put (l : Launch) {E : EV} (hA : AD E) (σ μ : St) (t : Int32) (kind : Int32) (n : Int32) : Met l yX3_put (.code yX3_put cX3_put 5 (some .int) :: gtbl) (rmL 3) (va_Pc [.ref (ea E 0), .int t, .int kind, .int n] (PR E σ μ)) (QI E (f_X3_put σ t kind n).1 (f_X3_put σ t kind n).2 μ) 0 0 (eA E) := by
  refine x_met (own := RX3) (by decide) rfl hA (Nat.le_of_ble_eq_true rfl) ?_
  intro p e s m below meth c ls F hr hlk hH hl
  have hl : lv_has ls 5 [(0, .ref (ea E 0)), (1, .int t), (2, .int kind), (3, .int n)] := hl
  have hx := F.hx
  have hb := F.hb
  refine lv_iload_n hx hb dX3_put_0 rfl (lv_at hl 1 rfl) ?_
  refine x_pure hx hb F.hml F.hown F.hts (c_X3_isTill l t) cw_X3_44 rfl rfl ⟨Nat.le_of_ble_eq_true rfl, Nat.le_of_ble_eq_true rfl⟩ rfl hl.1 rfl (Nat.le_of_ble_eq_true rfl) ⟨Nat.zero_le _, Nat.zero_le _⟩ dX3_put_1 ?_
  refine lv_if_eq (tgt := 24) hx hb dX3_put_4 (by decide) (fun c_1 => ?_) (fun c_1 => ?_)
  · refine lv_iconst (v := -1) hx hb dX3_put_24 (by decide) ?_
    exact x_iretX F hr hlk hH (by simp only [f_X3_put, if_pos c_1]) dX3_put_25
  · have q_2 := X3_isTill_n c_1
    have q_2b := q_2.2
    refine lv_iload_n hx hb dX3_put_7 rfl (lv_at hl 2 rfl) ?_
    refine x_pure hx hb F.hml F.hown F.hts (c_X3_isKind l kind) cw_X3_77 rfl rfl ⟨Nat.le_of_ble_eq_true rfl, Nat.le_of_ble_eq_true rfl⟩ rfl hl.1 rfl (Nat.le_of_ble_eq_true rfl) ⟨Nat.zero_le _, Nat.zero_le _⟩ dX3_put_8 ?_
    refine lv_if_eq (tgt := 24) hx hb dX3_put_11 (by decide) (fun c_3 => ?_) (fun c_3 => ?_)
    · refine lv_iconst (v := -1) hx hb dX3_put_24 (by decide) ?_
      exact x_iretX F hr hlk hH (by simp only [f_X3_put, if_neg c_1, if_pos c_3]) dX3_put_25
    · have q_4 := X3_isKind_n c_3
      have q_4b := q_4.2
      refine lv_iload_n hx hb dX3_put_14 rfl (lv_at hl 3 rfl) ?_
      refine lv_sipush (v := 200) hx hb dX3_put_15 (by decide) ?_
      refine x_pure hx hb F.hml F.hown F.hts (c_X3_isUpTo l n 200) cw_X3_48 rfl rfl ⟨Nat.le_of_ble_eq_true rfl, Nat.le_of_ble_eq_true rfl⟩ rfl hl.1 rfl (Nat.le_of_ble_eq_true rfl) ⟨Nat.zero_le _, Nat.zero_le _⟩ dX3_put_18 ?_
      refine lv_if_ne (tgt := 26) hx hb dX3_put_21 (by decide) (fun c_5 => ?_) (fun c_5 => ?_)
      · refine lv_aload_n hx hb dX3_put_26 rfl (lv_at hl 0 rfl) ?_
        refine g_X3_tills F hH kw_98 dX3_put_27 ?_
        refine lv_iload_n hx hb dX3_put_30 rfl (lv_at hl 1 rfl) ?_
        refine x_top q_2.1 ?_
        refine a_tills F hH (tn t) (by omega) dX3_put_31 ?_
        refine lv_astore (lv' := [(4, .ref (ea E (5 + (tn t)))), (0, .ref (ea E 0)), (1, .int t), (2, .int kind), (3, .int n)]) hx hb dX3_put_32 hl (by decide) rfl (fun ls hl => ?_)
        refine lv_aload_n hx hb dX3_put_34 rfl (lv_at hl 1 rfl) ?_
        refine lv_aload hx hb dX3_put_35 (lv_at hl 0 rfl) ?_
        refine x_calliX F hH 0 (F.lt (by omega)) (vv0 (by decide)) rfl (c_X3_begin l F.ad σ μ (tn t) (by omega)) cw_X3_69 rfl rfl ⟨Nat.le_of_ble_eq_true rfl, Nat.le_of_ble_eq_true rfl⟩ rfl hl.1 rfl (Nat.le_of_ble_eq_true rfl) ⟨Nat.zero_le _, Nat.zero_le _⟩ dX3_put_37 (fun r_6 s_7 H locs e_8 hH => ?_)
        refine lv_if_ne (tgt := 46) hx hb dX3_put_40 (by decide) (fun c_9 => ?_) (fun c_9 => ?_)
        · refine lv_aload_n hx hb dX3_put_46 rfl (lv_at hl 1 rfl) ?_
          refine g_X3_picked F hH kw_101 dX3_put_47 ?_
          refine x_callv F hH (13 + 9) (F.lt (by omega)) (vv2 (by omega)) rfl (c_X0_clear l F.ad s_7 μ 9 (by omega)) cw_X3_66 rfl rfl ⟨Nat.le_of_ble_eq_true rfl, Nat.le_of_ble_eq_true rfl⟩ rfl hl.1 rfl (Nat.le_of_ble_eq_true rfl) ⟨Nat.zero_le _, Nat.zero_le _⟩ dX3_put_50 (fun H locs hH => ?_)
          refine lv_aload_n hx hb dX3_put_53 rfl (lv_at hl 1 rfl) ?_
          refine g_X3_picked F hH kw_101 dX3_put_54 ?_
          refine g_X0_of F hH (j := 9) (by omega) kw_52 dX3_put_57 ?_
          refine lv_iload_n hx hb dX3_put_60 rfl (lv_at hl 3 rfl) ?_
          refine x_top q_4.1 ?_
          refine lv_iload_n hx hb dX3_put_61 rfl (lv_at hl 4 rfl) ?_
          refine s_of F hH (j := 9) (by omega) (tn kind) (by omega) dX3_put_62 (fun H locs hH => ?_)
          refine lv_aload_n hx hb dX3_put_63 rfl (lv_at hl 1 rfl) ?_
          refine g_X3_inHand F hH kw_99 dX3_put_64 ?_
          refine lv_aload_n hx hb dX3_put_67 rfl (lv_at hl 1 rfl) ?_
          refine g_X3_picked F hH kw_101 dX3_put_68 ?_
          refine x_callv F hH (13 + 8) (F.lt (by omega)) (vv2 (by omega)) rfl (c_X0_add l F.ad (up (clrL 9 5 0 s_7) 9 (tn kind) n) μ 8 9 (by omega) (by omega)) cw_X3_83 rfl rfl ⟨Nat.le_of_ble_eq_true rfl, Nat.le_of_ble_eq_true rfl⟩ rfl hl.1 rfl (Nat.le_of_ble_eq_true rfl) ⟨Nat.zero_le _, Nat.zero_le _⟩ dX3_put_71 (fun H locs hH => ?_)
          refine lv_aload_n hx hb dX3_put_74 rfl (lv_at hl 1 rfl) ?_
          refine lv_aload_n hx hb dX3_put_75 rfl (lv_at hl 1 rfl) ?_
          refine lv_aload hx hb dX3_put_76 (lv_at hl 0 rfl) ?_
          refine x_calliX F hH 0 (F.lt (by omega)) (vv0 (by decide)) rfl (c_X3_layPicked l F.ad (addL 8 9 5 0 (up (clrL 9 5 0 s_7) 9 (tn kind) n)) μ (tn t) (by omega)) cw_X3_87 rfl rfl ⟨Nat.le_of_ble_eq_true rfl, Nat.le_of_ble_eq_true rfl⟩ rfl hl.1 rfl (Nat.le_of_ble_eq_true rfl) ⟨Nat.zero_le _, Nat.zero_le _⟩ dX3_put_78 (fun r_10 s_11 H locs e_12 hH => ?_)
          refine x_calliX F hH 0 (F.lt (by omega)) (vv0 (by decide)) rfl (c_X3_end l F.ad s_11 μ r_10) cw_X3_73 rfl rfl ⟨Nat.le_of_ble_eq_true rfl, Nat.le_of_ble_eq_true rfl⟩ rfl hl.1 rfl (Nat.le_of_ble_eq_true rfl) ⟨Nat.zero_le _, Nat.zero_le _⟩ dX3_put_81 (fun r_13 s_14 H locs e_15 hH => ?_)
          exact x_iretX F hr hlk hH (by simp only [f_X3_put, if_neg c_1, if_neg c_3, if_neg c_5, e_8, if_neg c_9, e_12, e_15]) dX3_put_84
        · refine lv_bipush (v := -11) hx hb dX3_put_43 (by decide) ?_
          exact x_iretX F hr hlk hH (by simp only [f_X3_put, if_neg c_1, if_neg c_3, if_neg c_5, e_8, if_pos c_9]) dX3_put_45
      · refine lv_iconst (v := -1) hx hb dX3_put_24 (by decide) ?_
        exact x_iretX F hr hlk hH (by simp only [f_X3_put, if_neg c_1, if_neg c_3, if_pos c_5]) dX3_put_25
def f_X3_take (σ : St) (t : Int32) (worth : Int32) : Int32 × St :=
  if (f_X3_isTill t) = 0 then
    ((-1), σ)
  else
    if (f_X3_isUpTo worth 10000) = 0 then
      ((-1), σ)
    else
      match f_X3_begin σ (tn t) with
      | (r_4, s_5) =>
        if r_4 = 0 then
          ((-11), s_5)
        else
          match f_X3_pay s_5 (tn t) worth with
          | (r_8, s_9) =>
            match f_X3_end s_9 r_8 with
            | (r_11, s_12) =>
              (r_11, s_12)
set_option maxRecDepth 100000 in
set_option maxHeartbeats 4000000 in
theorem c_X3_take (l : Launch) {E : EV} (hA : AD E) (σ μ : St) (t : Int32) (worth : Int32) : Met l yX3_take (.code yX3_take cX3_take 4 (some .int) :: gtbl) (rmL 3) (va_Pc [.ref (ea E 0), .int t, .int worth] (PR E σ μ)) (QI E (f_X3_take σ t worth).1 (f_X3_take σ t worth).2 μ) 0 0 (eA E) := by
  refine x_met (own := RX3) (by decide) rfl hA (Nat.le_of_ble_eq_true rfl) ?_
  intro p e s m below meth c ls F hr hlk hH hl
  have hl : lv_has ls 4 [(0, .ref (ea E 0)), (1, .int t), (2, .int worth)] := hl
  have hx := F.hx
  have hb := F.hb
  refine lv_iload_n hx hb dX3_take_0 rfl (lv_at hl 1 rfl) ?_
  refine x_pure hx hb F.hml F.hown F.hts (c_X3_isTill l t) cw_X3_44 rfl rfl ⟨Nat.le_of_ble_eq_true rfl, Nat.le_of_ble_eq_true rfl⟩ rfl hl.1 rfl (Nat.le_of_ble_eq_true rfl) ⟨Nat.zero_le _, Nat.zero_le _⟩ dX3_take_1 ?_
  refine lv_if_eq (tgt := 17) hx hb dX3_take_4 (by decide) (fun c_1 => ?_) (fun c_1 => ?_)
  · refine lv_iconst (v := -1) hx hb dX3_take_17 (by decide) ?_
    exact x_iretX F hr hlk hH (by simp only [f_X3_take, if_pos c_1]) dX3_take_18
  · have q_2 := X3_isTill_n c_1
    have q_2b := q_2.2
    refine lv_iload_n hx hb dX3_take_7 rfl (lv_at hl 2 rfl) ?_
    refine lv_sipush (v := 10000) hx hb dX3_take_8 (by decide) ?_
    refine x_pure hx hb F.hml F.hown F.hts (c_X3_isUpTo l worth 10000) cw_X3_48 rfl rfl ⟨Nat.le_of_ble_eq_true rfl, Nat.le_of_ble_eq_true rfl⟩ rfl hl.1 rfl (Nat.le_of_ble_eq_true rfl) ⟨Nat.zero_le _, Nat.zero_le _⟩ dX3_take_11 ?_
    refine lv_if_ne (tgt := 19) hx hb dX3_take_14 (by decide) (fun c_3 => ?_) (fun c_3 => ?_)
    · refine lv_aload_n hx hb dX3_take_19 rfl (lv_at hl 0 rfl) ?_
      refine g_X3_tills F hH kw_98 dX3_take_20 ?_
      refine lv_iload_n hx hb dX3_take_23 rfl (lv_at hl 1 rfl) ?_
      refine x_top q_2.1 ?_
      refine a_tills F hH (tn t) (by omega) dX3_take_24 ?_
      refine lv_astore_n (lv' := [(3, .ref (ea E (5 + (tn t)))), (0, .ref (ea E 0)), (1, .int t), (2, .int worth)]) hx hb dX3_take_25 rfl hl (by decide) rfl (fun ls hl => ?_)
      refine lv_aload_n hx hb dX3_take_26 rfl (lv_at hl 1 rfl) ?_
      refine lv_aload_n hx hb dX3_take_27 rfl (lv_at hl 0 rfl) ?_
      refine x_calliX F hH 0 (F.lt (by omega)) (vv0 (by decide)) rfl (c_X3_begin l F.ad σ μ (tn t) (by omega)) cw_X3_69 rfl rfl ⟨Nat.le_of_ble_eq_true rfl, Nat.le_of_ble_eq_true rfl⟩ rfl hl.1 rfl (Nat.le_of_ble_eq_true rfl) ⟨Nat.zero_le _, Nat.zero_le _⟩ dX3_take_28 (fun r_4 s_5 H locs e_6 hH => ?_)
      refine lv_if_eq (tgt := 47) hx hb dX3_take_31 (by decide) (fun c_7 => ?_) (fun c_7 => ?_)
      · refine lv_bipush (v := -11) hx hb dX3_take_47 (by decide) ?_
        exact x_iretX F hr hlk hH (by simp only [f_X3_take, if_neg c_1, if_neg c_3, e_6, if_pos c_7]) dX3_take_49
      · refine lv_aload_n hx hb dX3_take_34 rfl (lv_at hl 1 rfl) ?_
        refine lv_aload_n hx hb dX3_take_35 rfl (lv_at hl 1 rfl) ?_
        refine lv_aload_n hx hb dX3_take_36 rfl (lv_at hl 0 rfl) ?_
        refine lv_iload_n hx hb dX3_take_37 rfl (lv_at hl 3 rfl) ?_
        refine x_calliX F hH 0 (F.lt (by omega)) (vv0 (by decide)) rfl (c_X3_pay l F.ad s_5 μ (tn t) worth (by omega)) cw_X3_91 rfl rfl ⟨Nat.le_of_ble_eq_true rfl, Nat.le_of_ble_eq_true rfl⟩ rfl hl.1 rfl (Nat.le_of_ble_eq_true rfl) ⟨Nat.zero_le _, Nat.zero_le _⟩ dX3_take_38 (fun r_8 s_9 H locs e_10 hH => ?_)
        refine x_calliX F hH 0 (F.lt (by omega)) (vv0 (by decide)) rfl (c_X3_end l F.ad s_9 μ r_8) cw_X3_73 rfl rfl ⟨Nat.le_of_ble_eq_true rfl, Nat.le_of_ble_eq_true rfl⟩ rfl hl.1 rfl (Nat.le_of_ble_eq_true rfl) ⟨Nat.zero_le _, Nat.zero_le _⟩ dX3_take_41 (fun r_11 s_12 H locs e_13 hH => ?_)
        refine lv_goto (tgt := 49) hx hb dX3_take_44 (by decide) ?_
        exact x_iretX F hr hlk hH (by simp only [f_X3_take, if_neg c_1, if_neg c_3, e_6, if_neg c_7, e_10, e_13]) dX3_take_49
    · refine lv_iconst (v := -1) hx hb dX3_take_17 (by decide) ?_
      exact x_iretX F hr hlk hH (by simp only [f_X3_take, if_neg c_1, if_pos c_3]) dX3_take_18
def f_X3_move (σ : St) (a : Int32) (b : Int32) (worth : Int32) (back : Int32) : Int32 × St :=
  if (f_X3_isTill a) = 0 then
    ((-1), σ)
  else
    if (f_X3_isTill b) = 0 then
      ((-1), σ)
    else
      if (f_X3_isUpTo worth 10000) = 0 then
        ((-1), σ)
      else
        match f_X3_begin σ (tn a) with
        | (r_6, s_7) =>
          if r_6 = 0 then
            ((-11), s_7)
          else
            match f_X3_moveWithin s_7 (tn a) (tn b) worth back with
            | (r_10, s_11) =>
              match f_X3_end s_11 r_10 with
              | (r_13, s_14) =>
                (r_13, s_14)
set_option maxRecDepth 100000 in
set_option maxHeartbeats 4000000 in
theorem c_X3_move (l : Launch) {E : EV} (hA : AD E) (σ μ : St) (a : Int32) (b : Int32) (worth : Int32) (back : Int32) : Met l yX3_move (.code yX3_move cX3_move 6 (some .int) :: gtbl) (rmL 4) (va_Pc [.ref (ea E 0), .int a, .int b, .int worth, .int (bz back)] (PR E σ μ)) (QI E (f_X3_move σ a b worth back).1 (f_X3_move σ a b worth back).2 μ) 0 0 (eA E) := by
  refine x_met (own := RX3) (by decide) rfl hA (Nat.le_of_ble_eq_true rfl) ?_
  intro p e s m below meth c ls F hr hlk hH hl
  have hl : lv_has ls 6 [(0, .ref (ea E 0)), (1, .int a), (2, .int b), (3, .int worth), (4, .int (bz back))] := hl
  have hx := F.hx
  have hb := F.hb
  refine lv_iload_n hx hb dX3_move_0 rfl (lv_at hl 1 rfl) ?_
  refine x_pure hx hb F.hml F.hown F.hts (c_X3_isTill l a) cw_X3_44 rfl rfl ⟨Nat.le_of_ble_eq_true rfl, Nat.le_of_ble_eq_true rfl⟩ rfl hl.1 rfl (Nat.le_of_ble_eq_true rfl) ⟨Nat.zero_le _, Nat.zero_le _⟩ dX3_move_1 ?_
  refine lv_if_eq (tgt := 24) hx hb dX3_move_4 (by decide) (fun c_1 => ?_) (fun c_1 => ?_)
  · refine lv_iconst (v := -1) hx hb dX3_move_24 (by decide) ?_
    exact x_iretX F hr hlk hH (by simp only [f_X3_move, if_pos c_1]) dX3_move_25
  · have q_2 := X3_isTill_n c_1
    have q_2b := q_2.2
    refine lv_iload_n hx hb dX3_move_7 rfl (lv_at hl 2 rfl) ?_
    refine x_pure hx hb F.hml F.hown F.hts (c_X3_isTill l b) cw_X3_44 rfl rfl ⟨Nat.le_of_ble_eq_true rfl, Nat.le_of_ble_eq_true rfl⟩ rfl hl.1 rfl (Nat.le_of_ble_eq_true rfl) ⟨Nat.zero_le _, Nat.zero_le _⟩ dX3_move_8 ?_
    refine lv_if_eq (tgt := 24) hx hb dX3_move_11 (by decide) (fun c_3 => ?_) (fun c_3 => ?_)
    · refine lv_iconst (v := -1) hx hb dX3_move_24 (by decide) ?_
      exact x_iretX F hr hlk hH (by simp only [f_X3_move, if_neg c_1, if_pos c_3]) dX3_move_25
    · have q_4 := X3_isTill_n c_3
      have q_4b := q_4.2
      refine lv_iload_n hx hb dX3_move_14 rfl (lv_at hl 3 rfl) ?_
      refine lv_sipush (v := 10000) hx hb dX3_move_15 (by decide) ?_
      refine x_pure hx hb F.hml F.hown F.hts (c_X3_isUpTo l worth 10000) cw_X3_48 rfl rfl ⟨Nat.le_of_ble_eq_true rfl, Nat.le_of_ble_eq_true rfl⟩ rfl hl.1 rfl (Nat.le_of_ble_eq_true rfl) ⟨Nat.zero_le _, Nat.zero_le _⟩ dX3_move_18 ?_
      refine lv_if_ne (tgt := 26) hx hb dX3_move_21 (by decide) (fun c_5 => ?_) (fun c_5 => ?_)
      · refine lv_aload_n hx hb dX3_move_26 rfl (lv_at hl 0 rfl) ?_
        refine g_X3_tills F hH kw_98 dX3_move_27 ?_
        refine lv_iload_n hx hb dX3_move_30 rfl (lv_at hl 1 rfl) ?_
        refine x_top q_2.1 ?_
        refine a_tills F hH (tn a) (by omega) dX3_move_31 ?_
        refine lv_astore (lv' := [(5, .ref (ea E (5 + (tn a)))), (0, .ref (ea E 0)), (1, .int a), (2, .int b), (3, .int worth), (4, .int (bz back))]) hx hb dX3_move_32 hl (by decide) rfl (fun ls hl => ?_)
        refine lv_aload_n hx hb dX3_move_34 rfl (lv_at hl 1 rfl) ?_
        refine lv_aload hx hb dX3_move_35 (lv_at hl 0 rfl) ?_
        refine x_calliX F hH 0 (F.lt (by omega)) (vv0 (by decide)) rfl (c_X3_begin l F.ad σ μ (tn a) (by omega)) cw_X3_69 rfl rfl ⟨Nat.le_of_ble_eq_true rfl, Nat.le_of_ble_eq_true rfl⟩ rfl hl.1 rfl (Nat.le_of_ble_eq_true rfl) ⟨Nat.zero_le _, Nat.zero_le _⟩ dX3_move_37 (fun r_6 s_7 H locs e_8 hH => ?_)
        refine lv_if_eq (tgt := 65) hx hb dX3_move_40 (by decide) (fun c_9 => ?_) (fun c_9 => ?_)
        · refine lv_bipush (v := -11) hx hb dX3_move_65 (by decide) ?_
          exact x_iretX F hr hlk hH (by simp only [f_X3_move, if_neg c_1, if_neg c_3, if_neg c_5, e_8, if_pos c_9]) dX3_move_67
        · refine lv_aload_n hx hb dX3_move_43 rfl (lv_at hl 1 rfl) ?_
          refine lv_aload_n hx hb dX3_move_44 rfl (lv_at hl 1 rfl) ?_
          refine lv_aload hx hb dX3_move_45 (lv_at hl 0 rfl) ?_
          refine lv_aload_n hx hb dX3_move_47 rfl (lv_at hl 1 rfl) ?_
          refine g_X3_tills F hH kw_98 dX3_move_48 ?_
          refine lv_iload_n hx hb dX3_move_51 rfl (lv_at hl 3 rfl) ?_
          refine x_top q_4.1 ?_
          refine a_tills F hH (tn b) (by omega) dX3_move_52 ?_
          refine lv_iload_n hx hb dX3_move_53 rfl (lv_at hl 4 rfl) ?_
          refine lv_iload hx hb dX3_move_54 (lv_at hl 5 rfl) ?_
          refine x_calliX F hH 0 (F.lt (by omega)) (vv0 (by decide)) rfl (c_X3_moveWithin l F.ad s_7 μ (tn a) (tn b) worth back (by omega) (by omega)) cw_X3_95 rfl rfl ⟨Nat.le_of_ble_eq_true rfl, Nat.le_of_ble_eq_true rfl⟩ rfl hl.1 rfl (Nat.le_of_ble_eq_true rfl) ⟨Nat.zero_le _, Nat.zero_le _⟩ dX3_move_56 (fun r_10 s_11 H locs e_12 hH => ?_)
          refine x_calliX F hH 0 (F.lt (by omega)) (vv0 (by decide)) rfl (c_X3_end l F.ad s_11 μ r_10) cw_X3_73 rfl rfl ⟨Nat.le_of_ble_eq_true rfl, Nat.le_of_ble_eq_true rfl⟩ rfl hl.1 rfl (Nat.le_of_ble_eq_true rfl) ⟨Nat.zero_le _, Nat.zero_le _⟩ dX3_move_59 (fun r_13 s_14 H locs e_15 hH => ?_)
          refine lv_goto (tgt := 67) hx hb dX3_move_62 (by decide) ?_
          exact x_iretX F hr hlk hH (by simp only [f_X3_move, if_neg c_1, if_neg c_3, if_neg c_5, e_8, if_neg c_9, e_12, e_15]) dX3_move_67
      · refine lv_iconst (v := -1) hx hb dX3_move_24 (by decide) ?_
        exact x_iretX F hr hlk hH (by simp only [f_X3_move, if_neg c_1, if_neg c_3, if_pos c_5]) dX3_move_25
def f_X3_share (σ : St) (a : Int32) (b : Int32) (kind : Int32) : Int32 × St :=
  if (f_X3_isTill a) = 0 then
    ((-1), σ)
  else
    if (f_X3_isTill b) = 0 then
      ((-1), σ)
    else
      if (f_X3_isKind kind) = 0 then
        ((-1), σ)
      else
        match f_X3_begin σ (tn a) with
        | (r_7, s_8) =>
          if r_7 = 0 then
            ((-11), s_8)
          else
            match f_X3_begin s_8 (tn b) with
            | (r_11, s_12) =>
              if r_11 = 0 then
                match f_X3_end s_12 (-11) with
                | (r_15, s_16) =>
                  (r_15, s_16)
              else
                match f_X3_halve s_12 (tn a) (tn b) (tn kind) with
                | (r_18, s_19) =>
                  match f_X3_end s_19 r_18 with
                  | (r_21, s_22) =>
                    match f_X3_end s_22 r_21 with
                    | (r_24, s_25) =>
                      (r_24, s_25)
set_option maxRecDepth 100000 in
set_option maxHeartbeats 4000000 in
theorem c_X3_share (l : Launch) {E : EV} (hA : AD E) (σ μ : St) (a : Int32) (b : Int32) (kind : Int32) : Met l yX3_share (.code yX3_share cX3_share 6 (some .int) :: gtbl) (rmL 4) (va_Pc [.ref (ea E 0), .int a, .int b, .int kind] (PR E σ μ)) (QI E (f_X3_share σ a b kind).1 (f_X3_share σ a b kind).2 μ) 0 0 (eA E) := by
  refine x_met (own := RX3) (by decide) rfl hA (Nat.le_of_ble_eq_true rfl) ?_
  intro p e s m below meth c ls F hr hlk hH hl
  have hl : lv_has ls 6 [(0, .ref (ea E 0)), (1, .int a), (2, .int b), (3, .int kind)] := hl
  have hx := F.hx
  have hb := F.hb
  refine lv_iload_n hx hb dX3_share_0 rfl (lv_at hl 1 rfl) ?_
  refine x_pure hx hb F.hml F.hown F.hts (c_X3_isTill l a) cw_X3_44 rfl rfl ⟨Nat.le_of_ble_eq_true rfl, Nat.le_of_ble_eq_true rfl⟩ rfl hl.1 rfl (Nat.le_of_ble_eq_true rfl) ⟨Nat.zero_le _, Nat.zero_le _⟩ dX3_share_1 ?_
  refine lv_if_eq (tgt := 21) hx hb dX3_share_4 (by decide) (fun c_1 => ?_) (fun c_1 => ?_)
  · refine lv_iconst (v := -1) hx hb dX3_share_21 (by decide) ?_
    exact x_iretX F hr hlk hH (by simp only [f_X3_share, if_pos c_1]) dX3_share_22
  · have q_2 := X3_isTill_n c_1
    have q_2b := q_2.2
    refine lv_iload_n hx hb dX3_share_7 rfl (lv_at hl 2 rfl) ?_
    refine x_pure hx hb F.hml F.hown F.hts (c_X3_isTill l b) cw_X3_44 rfl rfl ⟨Nat.le_of_ble_eq_true rfl, Nat.le_of_ble_eq_true rfl⟩ rfl hl.1 rfl (Nat.le_of_ble_eq_true rfl) ⟨Nat.zero_le _, Nat.zero_le _⟩ dX3_share_8 ?_
    refine lv_if_eq (tgt := 21) hx hb dX3_share_11 (by decide) (fun c_3 => ?_) (fun c_3 => ?_)
    · refine lv_iconst (v := -1) hx hb dX3_share_21 (by decide) ?_
      exact x_iretX F hr hlk hH (by simp only [f_X3_share, if_neg c_1, if_pos c_3]) dX3_share_22
    · have q_4 := X3_isTill_n c_3
      have q_4b := q_4.2
      refine lv_iload_n hx hb dX3_share_14 rfl (lv_at hl 3 rfl) ?_
      refine x_pure hx hb F.hml F.hown F.hts (c_X3_isKind l kind) cw_X3_77 rfl rfl ⟨Nat.le_of_ble_eq_true rfl, Nat.le_of_ble_eq_true rfl⟩ rfl hl.1 rfl (Nat.le_of_ble_eq_true rfl) ⟨Nat.zero_le _, Nat.zero_le _⟩ dX3_share_15 ?_
      refine lv_if_ne (tgt := 23) hx hb dX3_share_18 (by decide) (fun c_5 => ?_) (fun c_5 => ?_)
      · have q_6 := X3_isKind_n c_5
        have q_6b := q_6.2
        refine lv_aload_n hx hb dX3_share_23 rfl (lv_at hl 0 rfl) ?_
        refine g_X3_tills F hH kw_98 dX3_share_24 ?_
        refine lv_iload_n hx hb dX3_share_27 rfl (lv_at hl 1 rfl) ?_
        refine x_top q_2.1 ?_
        refine a_tills F hH (tn a) (by omega) dX3_share_28 ?_
        refine lv_astore (lv' := [(4, .ref (ea E (5 + (tn a)))), (0, .ref (ea E 0)), (1, .int a), (2, .int b), (3, .int kind)]) hx hb dX3_share_29 hl (by decide) rfl (fun ls hl => ?_)
        refine lv_aload_n hx hb dX3_share_31 rfl (lv_at hl 1 rfl) ?_
        refine g_X3_tills F hH kw_98 dX3_share_32 ?_
        refine lv_iload_n hx hb dX3_share_35 rfl (lv_at hl 3 rfl) ?_
        refine x_top q_4.1 ?_
        refine a_tills F hH (tn b) (by omega) dX3_share_36 ?_
        refine lv_astore (lv' := [(5, .ref (ea E (5 + (tn b)))), (4, .ref (ea E (5 + (tn a)))), (0, .ref (ea E 0)), (1, .int a), (2, .int b), (3, .int kind)]) hx hb dX3_share_37 hl (by decide) rfl (fun ls hl => ?_)
        refine lv_aload_n hx hb dX3_share_39 rfl (lv_at hl 2 rfl) ?_
        refine lv_aload hx hb dX3_share_40 (lv_at hl 1 rfl) ?_
        refine x_calliX F hH 0 (F.lt (by omega)) (vv0 (by decide)) rfl (c_X3_begin l F.ad σ μ (tn a) (by omega)) cw_X3_69 rfl rfl ⟨Nat.le_of_ble_eq_true rfl, Nat.le_of_ble_eq_true rfl⟩ rfl hl.1 rfl (Nat.le_of_ble_eq_true rfl) ⟨Nat.zero_le _, Nat.zero_le _⟩ dX3_share_42 (fun r_7 s_8 H locs e_9 hH => ?_)
        refine lv_if_ne (tgt := 51) hx hb dX3_share_45 (by decide) (fun c_10 => ?_) (fun c_10 => ?_)
        · refine lv_aload_n hx hb dX3_share_51 rfl (lv_at hl 2 rfl) ?_
          refine lv_aload_n hx hb dX3_share_52 rfl (lv_at hl 2 rfl) ?_
          refine lv_aload hx hb dX3_share_53 (lv_at hl 0 rfl) ?_
          refine x_calliX F hH 0 (F.lt (by omega)) (vv0 (by decide)) rfl (c_X3_begin l F.ad s_8 μ (tn b) (by omega)) cw_X3_69 rfl rfl ⟨Nat.le_of_ble_eq_true rfl, Nat.le_of_ble_eq_true rfl⟩ rfl hl.1 rfl (Nat.le_of_ble_eq_true rfl) ⟨Nat.zero_le _, Nat.zero_le _⟩ dX3_share_55 (fun r_11 s_12 H locs e_13 hH => ?_)
          refine lv_if_eq (tgt := 76) hx hb dX3_share_58 (by decide) (fun c_14 => ?_) (fun c_14 => ?_)
          · refine lv_bipush (v := -11) hx hb dX3_share_76 (by decide) ?_
            refine x_calliX F hH 0 (F.lt (by omega)) (vv0 (by decide)) rfl (c_X3_end l F.ad s_12 μ (-11)) cw_X3_73 rfl rfl ⟨Nat.le_of_ble_eq_true rfl, Nat.le_of_ble_eq_true rfl⟩ rfl hl.1 rfl (Nat.le_of_ble_eq_true rfl) ⟨Nat.zero_le _, Nat.zero_le _⟩ dX3_share_78 (fun r_15 s_16 H locs e_17 hH => ?_)
            exact x_iretX F hr hlk hH (by simp only [f_X3_share, if_neg c_1, if_neg c_3, if_neg c_5, e_9, if_neg c_10, e_13, if_pos c_14, e_17]) dX3_share_81
          · refine lv_aload_n hx hb dX3_share_61 rfl (lv_at hl 2 rfl) ?_
            refine lv_aload hx hb dX3_share_62 (lv_at hl 1 rfl) ?_
            refine lv_aload hx hb dX3_share_64 (lv_at hl 0 rfl) ?_
            refine lv_iload_n hx hb dX3_share_66 rfl (lv_at hl 5 rfl) ?_
            refine x_top q_6.1 ?_
            refine x_callsX F hH (c_X3_halve l F.ad s_12 μ (tn a) (tn b) (tn kind) (by omega) (by omega) (by omega)) cw_X3_109 rfl rfl ⟨Nat.le_of_ble_eq_true rfl, Nat.le_of_ble_eq_true rfl⟩ rfl hl.1 rfl (Nat.le_of_ble_eq_true rfl) ⟨Nat.zero_le _, Nat.zero_le _⟩ dX3_share_67 (fun r_18 s_19 H locs e_20 hH => ?_)
            refine x_calliX F hH 0 (F.lt (by omega)) (vv0 (by decide)) rfl (c_X3_end l F.ad s_19 μ r_18) cw_X3_73 rfl rfl ⟨Nat.le_of_ble_eq_true rfl, Nat.le_of_ble_eq_true rfl⟩ rfl hl.1 rfl (Nat.le_of_ble_eq_true rfl) ⟨Nat.zero_le _, Nat.zero_le _⟩ dX3_share_70 (fun r_21 s_22 H locs e_23 hH => ?_)
            refine lv_goto (tgt := 78) hx hb dX3_share_73 (by decide) ?_
            refine x_calliX F hH 0 (F.lt (by omega)) (vv0 (by decide)) rfl (c_X3_end l F.ad s_22 μ r_21) cw_X3_73 rfl rfl ⟨Nat.le_of_ble_eq_true rfl, Nat.le_of_ble_eq_true rfl⟩ rfl hl.1 rfl (Nat.le_of_ble_eq_true rfl) ⟨Nat.zero_le _, Nat.zero_le _⟩ dX3_share_78 (fun r_24 s_25 H locs e_26 hH => ?_)
            exact x_iretX F hr hlk hH (by simp only [f_X3_share, if_neg c_1, if_neg c_3, if_neg c_5, e_9, if_neg c_10, e_13, if_neg c_14, e_20, e_23, e_26]) dX3_share_81
        · refine lv_bipush (v := -11) hx hb dX3_share_48 (by decide) ?_
          exact x_iretX F hr hlk hH (by simp only [f_X3_share, if_neg c_1, if_neg c_3, if_neg c_5, e_9, if_pos c_10]) dX3_share_50
      · refine lv_iconst (v := -1) hx hb dX3_share_21 (by decide) ?_
        exact x_iretX F hr hlk hH (by simp only [f_X3_share, if_neg c_1, if_neg c_3, if_pos c_5]) dX3_share_22
def f_X3_look (σ : St) (t : Int32) (what : Int32) : Int32 × St :=
  if (f_X3_isTill t) = 0 then
    ((-1), σ)
  else
    if (f_X3_isUpTo what 8) = 0 then
      ((-1), σ)
    else
      match f_X3_begin σ (tn t) with
      | (r_4, s_5) =>
        if r_4 = 0 then
          ((-11), s_5)
        else
          match f_X3_end s_5 (f_X2_tell s_5 (tn t) what) with
          | (r_8, s_9) =>
            (r_8, s_9)
set_option maxRecDepth 100000 in
set_option maxHeartbeats 4000000 in
theorem c_X3_look (l : Launch) {E : EV} (hA : AD E) (σ μ : St) (t : Int32) (what : Int32) : Met l yX3_look (.code yX3_look cX3_look 4 (some .int) :: gtbl) (rmL 3) (va_Pc [.ref (ea E 0), .int t, .int what] (PR E σ μ)) (QI E (f_X3_look σ t what).1 (f_X3_look σ t what).2 μ) 0 0 (eA E) := by
  refine x_met (own := RX3) (by decide) rfl hA (Nat.le_of_ble_eq_true rfl) ?_
  intro p e s m below meth c ls F hr hlk hH hl
  have hl : lv_has ls 4 [(0, .ref (ea E 0)), (1, .int t), (2, .int what)] := hl
  have hx := F.hx
  have hb := F.hb
  refine lv_iload_n hx hb dX3_look_0 rfl (lv_at hl 1 rfl) ?_
  refine x_pure hx hb F.hml F.hown F.hts (c_X3_isTill l t) cw_X3_44 rfl rfl ⟨Nat.le_of_ble_eq_true rfl, Nat.le_of_ble_eq_true rfl⟩ rfl hl.1 rfl (Nat.le_of_ble_eq_true rfl) ⟨Nat.zero_le _, Nat.zero_le _⟩ dX3_look_1 ?_
  refine lv_if_eq (tgt := 16) hx hb dX3_look_4 (by decide) (fun c_1 => ?_) (fun c_1 => ?_)
  · refine lv_iconst (v := -1) hx hb dX3_look_16 (by decide) ?_
    exact x_iretX F hr hlk hH (by simp only [f_X3_look, if_pos c_1]) dX3_look_17
  · have q_2 := X3_isTill_n c_1
    have q_2b := q_2.2
    refine lv_iload_n hx hb dX3_look_7 rfl (lv_at hl 2 rfl) ?_
    refine lv_bipush (v := 8) hx hb dX3_look_8 (by decide) ?_
    refine x_pure hx hb F.hml F.hown F.hts (c_X3_isUpTo l what 8) cw_X3_48 rfl rfl ⟨Nat.le_of_ble_eq_true rfl, Nat.le_of_ble_eq_true rfl⟩ rfl hl.1 rfl (Nat.le_of_ble_eq_true rfl) ⟨Nat.zero_le _, Nat.zero_le _⟩ dX3_look_10 ?_
    refine lv_if_ne (tgt := 18) hx hb dX3_look_13 (by decide) (fun c_3 => ?_) (fun c_3 => ?_)
    · refine lv_aload_n hx hb dX3_look_18 rfl (lv_at hl 0 rfl) ?_
      refine g_X3_tills F hH kw_98 dX3_look_19 ?_
      refine lv_iload_n hx hb dX3_look_22 rfl (lv_at hl 1 rfl) ?_
      refine x_top q_2.1 ?_
      refine a_tills F hH (tn t) (by omega) dX3_look_23 ?_
      refine lv_astore_n (lv' := [(3, .ref (ea E (5 + (tn t)))), (0, .ref (ea E 0)), (1, .int t), (2, .int what)]) hx hb dX3_look_24 rfl hl (by decide) rfl (fun ls hl => ?_)
      refine lv_aload_n hx hb dX3_look_25 rfl (lv_at hl 1 rfl) ?_
      refine lv_aload_n hx hb dX3_look_26 rfl (lv_at hl 0 rfl) ?_
      refine x_calliX F hH 0 (F.lt (by omega)) (vv0 (by decide)) rfl (c_X3_begin l F.ad σ μ (tn t) (by omega)) cw_X3_69 rfl rfl ⟨Nat.le_of_ble_eq_true rfl, Nat.le_of_ble_eq_true rfl⟩ rfl hl.1 rfl (Nat.le_of_ble_eq_true rfl) ⟨Nat.zero_le _, Nat.zero_le _⟩ dX3_look_27 (fun r_4 s_5 H locs e_6 hH => ?_)
      refine lv_if_eq (tgt := 45) hx hb dX3_look_30 (by decide) (fun c_7 => ?_) (fun c_7 => ?_)
      · refine lv_bipush (v := -11) hx hb dX3_look_45 (by decide) ?_
        exact x_iretX F hr hlk hH (by simp only [f_X3_look, if_neg c_1, if_neg c_3, e_6, if_pos c_7]) dX3_look_47
      · refine lv_aload_n hx hb dX3_look_33 rfl (lv_at hl 1 rfl) ?_
        refine lv_aload_n hx hb dX3_look_34 rfl (lv_at hl 0 rfl) ?_
        refine lv_iload_n hx hb dX3_look_35 rfl (lv_at hl 3 rfl) ?_
        refine x_calliR F hH (5 + (tn t)) (F.lt (by omega)) (vv1 (by omega)) rfl (c_X2_tell l F.ad s_5 μ (tn t) what (by omega)) cw_X3_117 rfl rfl ⟨Nat.le_of_ble_eq_true rfl, Nat.le_of_ble_eq_true rfl⟩ rfl hl.1 rfl (Nat.le_of_ble_eq_true rfl) ⟨Nat.zero_le _, Nat.zero_le _⟩ dX3_look_36 (fun H locs hH => ?_)
        refine x_calliX F hH 0 (F.lt (by omega)) (vv0 (by decide)) rfl (c_X3_end l F.ad s_5 μ (f_X2_tell s_5 (tn t) what)) cw_X3_73 rfl rfl ⟨Nat.le_of_ble_eq_true rfl, Nat.le_of_ble_eq_true rfl⟩ rfl hl.1 rfl (Nat.le_of_ble_eq_true rfl) ⟨Nat.zero_le _, Nat.zero_le _⟩ dX3_look_39 (fun r_8 s_9 H locs e_10 hH => ?_)
        refine lv_goto (tgt := 47) hx hb dX3_look_42 (by decide) ?_
        exact x_iretX F hr hlk hH (by simp only [f_X3_look, if_neg c_1, if_neg c_3, e_6, if_neg c_7, e_10]) dX3_look_47
    · refine lv_iconst (v := -1) hx hb dX3_look_16 (by decide) ?_
      exact x_iretX F hr hlk hH (by simp only [f_X3_look, if_neg c_1, if_pos c_3]) dX3_look_17
def f_X3_hand (σ : St) (what : Int32) : Int32 × St :=
  if (f_X3_isUpTo what 6) = 0 then
    ((-1), σ)
  else
    (f_X0_tell σ 8 what, σ)
set_option maxRecDepth 100000 in
set_option maxHeartbeats 4000000 in
theorem c_X3_hand (l : Launch) {E : EV} (hA : AD E) (σ μ : St) (what : Int32) : Met l yX3_hand (.code yX3_hand cX3_hand 2 (some .int) :: gtbl) (rmL 2) (va_Pc [.ref (ea E 0), .int what] (PR E σ μ)) (QI E (f_X3_hand σ what).1 (f_X3_hand σ what).2 μ) 0 0 (eA E) := by
  refine x_met (own := RX3) (by decide) rfl hA (Nat.le_of_ble_eq_true rfl) ?_
  intro p e s m below meth c ls F hr hlk hH hl
  have hl : lv_has ls 2 [(0, .ref (ea E 0)), (1, .int what)] := hl
  have hx := F.hx
  have hb := F.hb
  refine lv_iload_n hx hb dX3_hand_0 rfl (lv_at hl 1 rfl) ?_
  refine lv_bipush (v := 6) hx hb dX3_hand_1 (by decide) ?_
  refine x_pure hx hb F.hml F.hown F.hts (c_X3_isUpTo l what 6) cw_X3_48 rfl rfl ⟨Nat.le_of_ble_eq_true rfl, Nat.le_of_ble_eq_true rfl⟩ rfl hl.1 rfl (Nat.le_of_ble_eq_true rfl) ⟨Nat.zero_le _, Nat.zero_le _⟩ dX3_hand_3 ?_
  refine lv_if_eq (tgt := 20) hx hb dX3_hand_6 (by decide) (fun c_1 => ?_) (fun c_1 => ?_)
  · refine lv_iconst (v := -1) hx hb dX3_hand_20 (by decide) ?_
    exact x_iretX F hr hlk hH (by simp only [f_X3_hand, if_pos c_1]) dX3_hand_21
  · refine lv_aload_n hx hb dX3_hand_9 rfl (lv_at hl 0 rfl) ?_
    refine g_X3_inHand F hH kw_99 dX3_hand_10 ?_
    refine lv_iload_n hx hb dX3_hand_13 rfl (lv_at hl 1 rfl) ?_
    refine x_calliR F hH (13 + 8) (F.lt (by omega)) (vv2 (by omega)) rfl (c_X0_tell l F.ad σ μ 8 what (by omega)) cw_X3_120 rfl rfl ⟨Nat.le_of_ble_eq_true rfl, Nat.le_of_ble_eq_true rfl⟩ rfl hl.1 rfl (Nat.le_of_ble_eq_true rfl) ⟨Nat.zero_le _, Nat.zero_le _⟩ dX3_hand_14 (fun H locs hH => ?_)
    refine lv_goto (tgt := 21) hx hb dX3_hand_17 (by decide) ?_
    exact x_iretX F hr hlk hH (by simp only [f_X3_hand, if_neg c_1]) dX3_hand_21
set_option maxRecDepth 100000 in
set_option maxHeartbeats 4000000 in
theorem lp_X3_first {p : Program} {l : Launch} {e : Env} {s : State} {m : MethodId} {args : Array Value} {below : List Frame} {meth : Method} {c : Code} {E : EV} (F : Fx E p s m args c cX3_first RX3 3) (hr : meth.sig.returnType = some .int) (hlk : meth.locks = false) (worth : Int32) : ∀ (n : Nat) (k : Nat) (σ μ : St) (H : Heap) (locs : List Loc) (ls : Array Slot), k + n = 8 → HS E s σ μ H locs → lv_has ls 3 [(0, .ref (ea E 0)), (1, .int worth), (2, .int (nI k))] → W p l e (rmL 4) s m args below meth c H locs 0 0 (MQ below (QI E (firstL worth n k σ).1 (firstL worth n k σ).2 μ) args s 0 0 (eA E)) (F0 m 14 ls []) := by
  have hx := F.hx
  have hb := F.hb
  intro n
  induction n with
  | zero =>
    intro k σ μ H locs ls hn hH hl
    obtain rfl : k = 8 := by omega
    refine lv_iload_n hx hb dX3_first_14 rfl (lv_at hl 2 rfl) ?_
    refine lv_bipush (v := 8) hx hb dX3_first_15 (by decide) ?_
    refine lv_icmp_ge (tgt := 42) hx hb dX3_first_17 (by decide) (fun _ => ?_) (fun c_1 => absurd (by decide) c_1)
    refine lv_bipush (v := -2) hx hb dX3_first_42 (by decide) ?_
    exact x_iretX F hr hlk hH (by simp only [firstL]) dX3_first_44
  | succ n ih =>
    intro k σ μ H locs ls hn hH hl
    refine lv_iload_n hx hb dX3_first_14 rfl (lv_at hl 2 rfl) ?_
    refine lv_bipush (v := 8) hx hb dX3_first_15 (by decide) ?_
    refine lv_icmp_ge (tgt := 42) hx hb dX3_first_17 (by decide) (fun c_1 => absurd c_1 (nI_ge (show k < 8 by omega) (by decide))) (fun _ => ?_)
    refine lv_aload_n hx hb dX3_first_20 rfl (lv_at hl 0 rfl) ?_
    refine lv_aload_n hx hb dX3_first_21 rfl (lv_at hl 0 rfl) ?_
    refine g_X3_tills F hH kw_98 dX3_first_22 ?_
    refine lv_iload_n hx hb dX3_first_25 rfl (lv_at hl 2 rfl) ?_
    refine a_tills F hH k (by omega) dX3_first_26 ?_
    refine lv_iload_n hx hb dX3_first_27 rfl (lv_at hl 1 rfl) ?_
    refine x_calliX F hH 0 (F.lt (by omega)) (vv0 (by decide)) rfl (c_X3_couldPay l F.ad σ μ k worth (by omega)) cw_X3_113 rfl rfl ⟨Nat.le_of_ble_eq_true rfl, Nat.le_of_ble_eq_true rfl⟩ rfl hl.1 rfl (Nat.le_of_ble_eq_true rfl) ⟨Nat.zero_le _, Nat.zero_le _⟩ dX3_first_28 (fun r_2 s_3 H locs e_4 hH => ?_)
    refine lv_if_eq (tgt := 36) hx hb dX3_first_31 (by decide) (fun c_5 => ?_) (fun c_5 => ?_)
    · refine lv_iinc (v := nI (k + 1)) (lv' := [(2, .int (nI (k + 1))), (0, .ref (ea E 0)), (1, .int worth)]) hx hb dX3_first_36 hl (k := 2) rfl (nI_1 k) (by decide) rfl (fun ls hl => ?_)
      refine lv_goto (tgt := 14) hx hb dX3_first_39 (by decide) ?_
      rw [show firstL worth (n + 1) k σ = firstL worth n (k + 1) s_3 from (by simp only [firstL, e_4, if_pos c_5])]
      exact ih (k + 1) s_3 μ H locs ls (by omega) hH (lv_sub hl [1, 2, 0] rfl)
    · refine lv_iload_n hx hb dX3_first_34 rfl (lv_at hl 2 rfl) ?_
      exact x_iretX F hr hlk hH (by simp only [firstL, e_4, if_neg c_5]) dX3_first_35
def f_X3_first (σ : St) (worth : Int32) : Int32 × St :=
  if (f_X3_isUpTo worth 10000) = 0 then
    ((-1), σ)
  else
    firstL worth 8 0 σ
set_option maxRecDepth 100000 in
set_option maxHeartbeats 4000000 in
theorem c_X3_first (l : Launch) {E : EV} (hA : AD E) (σ μ : St) (worth : Int32) : Met l yX3_first (.code yX3_first cX3_first 3 (some .int) :: gtbl) (rmL 4) (va_Pc [.ref (ea E 0), .int worth] (PR E σ μ)) (QI E (f_X3_first σ worth).1 (f_X3_first σ worth).2 μ) 0 0 (eA E) := by
  refine x_met (own := RX3) (by decide) rfl hA (Nat.le_of_ble_eq_true rfl) ?_
  intro p e s m below meth c ls F hr hlk hH hl
  have hl : lv_has ls 3 [(0, .ref (ea E 0)), (1, .int worth)] := hl
  have hx := F.hx
  have hb := F.hb
  refine lv_iload_n hx hb dX3_first_0 rfl (lv_at hl 1 rfl) ?_
  refine lv_sipush (v := 10000) hx hb dX3_first_1 (by decide) ?_
  refine x_pure hx hb F.hml F.hown F.hts (c_X3_isUpTo l worth 10000) cw_X3_48 rfl rfl ⟨Nat.le_of_ble_eq_true rfl, Nat.le_of_ble_eq_true rfl⟩ rfl hl.1 rfl (Nat.le_of_ble_eq_true rfl) ⟨Nat.zero_le _, Nat.zero_le _⟩ dX3_first_4 ?_
  refine lv_if_ne (tgt := 12) hx hb dX3_first_7 (by decide) (fun c_1 => ?_) (fun c_1 => ?_)
  · refine lv_iconst (v := 0) hx hb dX3_first_12 (by decide) ?_
    refine lv_istore_n (lv' := [(2, .int 0), (0, .ref (ea E 0)), (1, .int worth)]) hx hb dX3_first_13 rfl hl (by decide) rfl (fun ls hl => ?_)
    rw [show f_X3_first σ worth = firstL worth 8 0 σ from (by simp only [f_X3_first, if_neg c_1])]
    exact lp_X3_first F hr hlk worth 8 0 σ μ _ _ ls (by omega) hH (lv_sub hl [1, 2, 0] rfl)
  · refine lv_iconst (v := -1) hx hb dX3_first_10 (by decide) ?_
    exact x_iretX F hr hlk hH (by simp only [f_X3_first, if_pos c_1]) dX3_first_11
set_option maxRecDepth 100000 in
set_option maxHeartbeats 4000000 in
theorem lp_X3_readRow {p : Program} {l : Launch} {e : Env} {s : State} {m : MethodId} {args : Array Value} {below : List Frame} {meth : Method} {c : Code} {E : EV} (F : Fx E p s m args c cX3_readRow RX3 6) (hr : meth.sig.returnType = some .int) (hlk : meth.locks = false) (len : Nat) : ∀ (n : Nat) (rest : Int32) (σ μ : St) (H : Heap) (locs : List Loc) (ls : Array Slot), n ≤ 6 → HS E s σ μ H locs → lv_has ls 6 [(0, .ref (ea E 0)), (2, .int (nI len)), (3, .int rest), (4, .int (nI n + (-1)))] → W p l e (rmL 1) s m args below meth c H locs 0 0 (MQ below (QI E (rrL len n rest σ).1 (rrL len n rest σ).2 μ) args s 0 0 (eA E)) (F0 m 23 ls []) := by
  have hx := F.hx
  have hb := F.hb
  intro n
  induction n with
  | zero =>
    intro rest σ μ H locs ls hn hH hl
    refine lv_iload hx hb dX3_readRow_23 (lv_at hl 3 rfl) ?_
    refine lv_if_lt (tgt := 64) hx hb dX3_readRow_25 (by decide) (fun _ => ?_) (fun c_1 => absurd (by decide) c_1)
    refine lv_iload_n hx hb dX3_readRow_64 rfl (lv_at hl 1 rfl) ?_
    exact x_iretX F hr hlk hH (by simp only [rrL]) dX3_readRow_65
  | succ n ih =>
    intro rest σ μ H locs ls hn hH hl
    rw [pk_m1] at hl
    refine lv_iload hx hb dX3_readRow_23 (lv_at hl 3 rfl) ?_
    refine lv_if_lt (tgt := 64) hx hb dX3_readRow_25 (by decide) (fun c_1 => absurd c_1 (nI_pos (by omega))) (fun _ => ?_)
    refine lv_iload_n hx hb dX3_readRow_28 rfl (lv_at hl 2 rfl) ?_
    refine lv_bipush (v := 10) hx hb dX3_readRow_29 (by decide) ?_
    refine lv_irem hx hb dX3_readRow_31 (by decide) ?_
    refine lv_istore (lv' := [(5, .int (rest - rest / 10 * 10)), (0, .ref (ea E 0)), (2, .int (nI len)), (3, .int rest), (4, .int (nI n))]) hx hb dX3_readRow_32 hl (by decide) rfl (fun ls hl => ?_)
    refine lv_iload hx hb dX3_readRow_34 (lv_at hl 0 rfl) ?_
    refine x_pure hx hb F.hml F.hown F.hts (c_X3_isTill l (rest - rest / 10 * 10)) cw_X3_44 rfl rfl ⟨Nat.le_of_ble_eq_true rfl, Nat.le_of_ble_eq_true rfl⟩ rfl hl.1 rfl (Nat.le_of_ble_eq_true rfl) ⟨Nat.zero_le _, Nat.zero_le _⟩ dX3_readRow_36 ?_
    refine lv_if_ne (tgt := 44) hx hb dX3_readRow_39 (by decide) (fun c_2 => ?_) (fun c_2 => ?_)
    · refine lv_aload_n hx hb dX3_readRow_44 rfl (lv_at hl 1 rfl) ?_
      refine g_X3_places F hH kw_104 dX3_readRow_45 ?_
      refine lv_iload hx hb dX3_readRow_48 (lv_at hl 4 rfl) ?_
      refine lv_iload hx hb dX3_readRow_50 (lv_at hl 0 rfl) ?_
      refine s_places F hH n (by omega) dX3_readRow_52 (fun H locs hH => ?_)
      refine lv_iload_n hx hb dX3_readRow_53 rfl (lv_at hl 3 rfl) ?_
      refine lv_bipush (v := 10) hx hb dX3_readRow_54 (by decide) ?_
      refine lv_idiv hx hb dX3_readRow_56 (by decide) ?_
      refine lv_istore_n (lv' := [(3, .int (rest / 10)), (5, .int (rest - rest / 10 * 10)), (0, .ref (ea E 0)), (2, .int (nI len)), (4, .int (nI n))]) hx hb dX3_readRow_57 rfl hl (by decide) rfl (fun ls hl => ?_)
      refine lv_iinc (v := (nI n) + (-1)) (lv' := [(4, .int ((nI n) + (-1))), (3, .int (rest / 10)), (5, .int (rest - rest / 10 * 10)), (0, .ref (ea E 0)), (2, .int (nI len))]) hx hb dX3_readRow_58 hl (k := 4) rfl rfl (by decide) rfl (fun ls hl => ?_)
      refine lv_goto (tgt := 23) hx hb dX3_readRow_61 (by decide) ?_
      rw [show rrL len (n + 1) rest σ = rrL len n (rest / 10) (up σ 21 n (rest - rest / 10 * 10)) from (by simp only [rrL, if_neg c_2])]
      exact ih (rest / 10) (up σ 21 n (rest - rest / 10 * 10)) μ H locs ls (by omega) hH (lv_sub hl [3, 4, 1, 0] rfl)
    · refine lv_iconst (v := -1) hx hb dX3_readRow_42 (by decide) ?_
      exact x_iretX F hr hlk hH (by simp only [rrL, if_pos c_2]) dX3_readRow_43
def f_X3_readRow (σ : St) (row : Int32) : Int32 × St :=
  if (f_X3_isUpTo row 777777) = 0 then
    ((-1), σ)
  else
    rrL (dgL row 5 1 10) (dgL row 5 1 10) row σ
set_option maxRecDepth 100000 in
set_option maxHeartbeats 4000000 in
theorem c_X3_readRow (l : Launch) {E : EV} (hA : AD E) (σ μ : St) (row : Int32) : Met l yX3_readRow (.code yX3_readRow cX3_readRow 6 (some .int) :: gtbl) (rmL 1) (va_Pc [.ref (ea E 0), .int row] (PR E σ μ)) (QI E (f_X3_readRow σ row).1 (f_X3_readRow σ row).2 μ) 0 0 (eA E) := by
  refine x_met (own := RX3) (by decide) rfl hA (Nat.le_of_ble_eq_true rfl) ?_
  intro p e s m below meth c ls F hr hlk hH hl
  have hl : lv_has ls 6 [(0, .ref (ea E 0)), (1, .int row)] := hl
  have hx := F.hx
  have hb := F.hb
  refine lv_iload_n hx hb dX3_readRow_0 rfl (lv_at hl 1 rfl) ?_
  refine lv_ldc (v := 777777) hx hb F.hown (F.hts _ kw_225) dX3_readRow_1 ?_
  refine x_pure hx hb F.hml F.hown F.hts (c_X3_isUpTo l row 777777) cw_X3_48 rfl rfl ⟨Nat.le_of_ble_eq_true rfl, Nat.le_of_ble_eq_true rfl⟩ rfl hl.1 rfl (Nat.le_of_ble_eq_true rfl) ⟨Nat.zero_le _, Nat.zero_le _⟩ dX3_readRow_3 ?_
  refine lv_if_ne (tgt := 11) hx hb dX3_readRow_6 (by decide) (fun c_1 => ?_) (fun c_1 => ?_)
  · refine lv_iload_n hx hb dX3_readRow_11 rfl (lv_at hl 1 rfl) ?_
    refine x_pure hx hb F.hml F.hown F.hts (c_X3_digitsOf l row) cw_X3_164 rfl rfl ⟨Nat.le_of_ble_eq_true rfl, Nat.le_of_ble_eq_true rfl⟩ rfl hl.1 rfl (Nat.le_of_ble_eq_true rfl) ⟨Nat.zero_le _, Nat.zero_le _⟩ dX3_readRow_12 ?_
    refine lv_istore_n (lv' := [(2, .int (nI (dgL row 5 1 10))), (0, .ref (ea E 0)), (1, .int row)]) hx hb dX3_readRow_15 rfl hl (by decide) rfl (fun ls hl => ?_)
    refine lv_iload_n hx hb dX3_readRow_16 rfl (lv_at hl 2 rfl) ?_
    refine lv_istore_n (lv' := [(3, .int row), (2, .int (nI (dgL row 5 1 10))), (0, .ref (ea E 0)), (1, .int row)]) hx hb dX3_readRow_17 rfl hl (by decide) rfl (fun ls hl => ?_)
    refine lv_iload_n hx hb dX3_readRow_18 rfl (lv_at hl 1 rfl) ?_
    refine lv_iconst (v := 1) hx hb dX3_readRow_19 (by decide) ?_
    refine lv_isub hx hb dX3_readRow_20 ?_
    refine x_top (nI_sub1 (dgL row 5 1 10)) ?_
    refine lv_istore (lv' := [(4, .int (nI (dgL row 5 1 10) + (-1))), (3, .int row), (2, .int (nI (dgL row 5 1 10))), (0, .ref (ea E 0)), (1, .int row)]) hx hb dX3_readRow_21 hl (by decide) rfl (fun ls hl => ?_)
    have hdg := dgL_le row 5 1 10
    rw [show f_X3_readRow σ row = rrL (dgL row 5 1 10) (dgL row 5 1 10) row σ from (by simp only [f_X3_readRow, if_neg c_1])]
    exact lp_X3_readRow F hr hlk (dgL row 5 1 10) (dgL row 5 1 10) row σ μ _ _ ls (by omega) hH (lv_sub hl [3, 2, 1, 0] rfl)
  · refine lv_iconst (v := -1) hx hb dX3_readRow_9 (by decide) ?_
    exact x_iretX F hr hlk hH (by simp only [f_X3_readRow, if_pos c_1]) dX3_readRow_10
