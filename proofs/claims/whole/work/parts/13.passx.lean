def f_X3_passG (rc : Nat → Int32 → Int32 → St → Int32 × St) (σ : St) (row : Int32) (worth : Int32) (back : Int32) : Int32 × St :=
  match f_X3_readRow σ row with
  | (r_1, s_2) =>
    if r_1 = (-1) then
      ((-1), s_2)
    else
      if (f_X3_isUpTo worth 10000) = 0 then
        ((-1), s_2)
      else
        match rc (tn r_1) worth back (becL 10 8 5 0 s_2) with
        | (r_7, s_8) =>
          if 0 ≤ r_7 then
            (r_7, s_8)
          else
            if (bz back) = 0 then
              (r_7, s_8)
            else
              (r_7, (becL 8 10 5 0 s_8))
set_option maxRecDepth 100000 in
set_option maxHeartbeats 4000000 in
theorem c_X3_passG (l : Launch) {E : EV} (hA : AD E) (σ μ : St) (row : Int32) (worth : Int32) (back : Int32) (rc : Nat → Int32 → Int32 → St → Int32 × St) (hrc : ∀ (len : Nat) (worth back : Int32), len < 7 → ∀ (pr : Nat → Int32), (∀ k, k < len → ¬ f_X3_isTill (pr k) = 0) → ∀ (σ μ : St), σ 21 = pr → Met l yX3_passFrom (.code yX3_passFrom cX3_passFrom 7 (some .int) :: gtbl) (rmL (34)) (va_Pc [.ref (ea E 0), .int (nI (0)), .int (nI len), .int worth, .int (bz back)] (PR E σ μ)) (QI E (rc len worth back σ).1 (rc len worth back σ).2 μ) 0 0 (eA E)) : Met l yX3_pass (.code yX3_pass cX3_pass 6 (some .int) :: gtbl) (rmL 40) (va_Pc [.ref (ea E 0), .int row, .int worth, .int (bz back)] (PR E σ μ)) (QI E (f_X3_passG rc σ row worth back).1 (f_X3_passG rc σ row worth back).2 μ) 0 0 (eA E) := by
  refine x_met (own := RX3) (by decide) rfl hA (Nat.le_of_ble_eq_true rfl) ?_
  intro p e s m below meth c ls F hr hlk hH hl
  have hl : lv_has ls 6 [(0, .ref (ea E 0)), (1, .int row), (2, .int worth), (3, .int (bz back))] := hl
  have hx := F.hx
  have hb := F.hb
  refine lv_aload_n hx hb dX3_pass_0 rfl (lv_at hl 0 rfl) ?_
  refine lv_iload_n hx hb dX3_pass_1 rfl (lv_at hl 1 rfl) ?_
  refine x_calliX F hH 0 (F.lt (by omega)) (vv0 (by decide)) rfl (c_X3_readRow l F.ad σ μ row) cw_X3_99 rfl rfl ⟨Nat.le_of_ble_eq_true rfl, Nat.le_of_ble_eq_true rfl⟩ rfl hl.1 rfl (Nat.le_of_ble_eq_true rfl) ⟨Nat.zero_le _, Nat.zero_le _⟩ dX3_pass_2 (fun r_1 s_2 H locs e_3 hH => ?_)
  refine lv_istore (lv' := [(4, .int r_1), (0, .ref (ea E 0)), (1, .int row), (2, .int worth), (3, .int (bz back))]) hx hb dX3_pass_5 hl (by decide) rfl (fun ls hl => ?_)
  refine lv_iload hx hb dX3_pass_7 (lv_at hl 0 rfl) ?_
  refine lv_iconst (v := -1) hx hb dX3_pass_9 (by decide) ?_
  refine lv_icmp_eq (tgt := 23) hx hb dX3_pass_10 (by decide) (fun c_4 => ?_) (fun c_4 => ?_)
  · refine lv_iconst (v := -1) hx hb dX3_pass_23 (by decide) ?_
    exact x_iretX F hr hlk hH (by simp only [f_X3_passG, e_3, if_pos c_4]) dX3_pass_24
  · have q_5 := readRow_spec e_3 c_4
    have q_5b := q_5.1.2
    refine lv_iload_n hx hb dX3_pass_13 rfl (lv_at hl 3 rfl) ?_
    refine lv_sipush (v := 10000) hx hb dX3_pass_14 (by decide) ?_
    refine x_pure hx hb F.hml F.hown F.hts (c_X3_isUpTo l worth 10000) cw_X3_48 rfl rfl ⟨Nat.le_of_ble_eq_true rfl, Nat.le_of_ble_eq_true rfl⟩ rfl hl.1 rfl (Nat.le_of_ble_eq_true rfl) ⟨Nat.zero_le _, Nat.zero_le _⟩ dX3_pass_17 ?_
    refine lv_if_ne (tgt := 25) hx hb dX3_pass_20 (by decide) (fun c_6 => ?_) (fun c_6 => ?_)
    · refine lv_aload_n hx hb dX3_pass_25 rfl (lv_at hl 1 rfl) ?_
      refine g_X3_handBefore F hH kw_102 dX3_pass_26 ?_
      refine lv_aload_n hx hb dX3_pass_29 rfl (lv_at hl 1 rfl) ?_
      refine g_X3_inHand F hH kw_99 dX3_pass_30 ?_
      refine x_callv F hH (13 + 10) (F.lt (by omega)) (vv2 (by omega)) rfl (c_X0_become l F.ad s_2 μ 10 8 (by omega) (by omega)) cw_X3_102 rfl rfl ⟨Nat.le_of_ble_eq_true rfl, Nat.le_of_ble_eq_true rfl⟩ rfl hl.1 rfl (Nat.le_of_ble_eq_true rfl) ⟨Nat.zero_le _, Nat.zero_le _⟩ dX3_pass_33 (fun H locs hH => ?_)
      refine lv_aload_n hx hb dX3_pass_36 rfl (lv_at hl 1 rfl) ?_
      refine lv_iconst (v := 0) hx hb dX3_pass_37 (by decide) ?_
      refine x_top (show (0 : Int32) = nI 0 from rfl) ?_
      refine lv_iload hx hb dX3_pass_38 (lv_at hl 0 rfl) ?_
      refine x_top q_5.1.1 ?_
      refine lv_iload_n hx hb dX3_pass_40 rfl (lv_at hl 3 rfl) ?_
      refine lv_iload_n hx hb dX3_pass_41 rfl (lv_at hl 4 rfl) ?_
      refine x_calliX F hH 0 (F.lt (by omega)) (vv0 (by decide)) rfl (hrc (tn r_1) worth back (by omega) (s_2 21) q_5.2 (becL 10 8 5 0 s_2) μ (becL_row (by omega) 5 0 s_2)) cw_X3_105 rfl rfl ⟨Nat.le_of_ble_eq_true rfl, Nat.le_of_ble_eq_true rfl⟩ rfl hl.1 rfl (Nat.le_of_ble_eq_true rfl) ⟨Nat.zero_le _, Nat.zero_le _⟩ dX3_pass_42 (fun r_7 s_8 H locs e_9 hH => ?_)
      refine lv_istore (lv' := [(5, .int r_7), (4, .int r_1), (0, .ref (ea E 0)), (1, .int row), (2, .int worth), (3, .int (bz back))]) hx hb dX3_pass_45 hl (by decide) rfl (fun ls hl => ?_)
      refine lv_iload hx hb dX3_pass_47 (lv_at hl 0 rfl) ?_
      refine lv_if_ge (tgt := 67) hx hb dX3_pass_49 (by decide) (fun c_10 => ?_) (fun c_10 => ?_)
      · refine lv_iload hx hb dX3_pass_67 (lv_at hl 0 rfl) ?_
        exact x_iretX F hr hlk hH (by simp only [f_X3_passG, e_3, if_neg c_4, if_neg c_6, e_9, if_pos c_10]) dX3_pass_69
      · refine lv_iload_n hx hb dX3_pass_52 rfl (lv_at hl 5 rfl) ?_
        refine lv_if_eq (tgt := 67) hx hb dX3_pass_53 (by decide) (fun c_11 => ?_) (fun c_11 => ?_)
        · refine lv_iload hx hb dX3_pass_67 (lv_at hl 0 rfl) ?_
          exact x_iretX F hr hlk hH (by simp only [f_X3_passG, e_3, if_neg c_4, if_neg c_6, e_9, if_neg c_10, if_pos c_11]) dX3_pass_69
        · refine lv_aload_n hx hb dX3_pass_56 rfl (lv_at hl 2 rfl) ?_
          refine g_X3_inHand F hH kw_99 dX3_pass_57 ?_
          refine lv_aload_n hx hb dX3_pass_60 rfl (lv_at hl 2 rfl) ?_
          refine g_X3_handBefore F hH kw_102 dX3_pass_61 ?_
          refine x_callv F hH (13 + 8) (F.lt (by omega)) (vv2 (by omega)) rfl (c_X0_become l F.ad s_8 μ 8 10 (by omega) (by omega)) cw_X3_102 rfl rfl ⟨Nat.le_of_ble_eq_true rfl, Nat.le_of_ble_eq_true rfl⟩ rfl hl.1 rfl (Nat.le_of_ble_eq_true rfl) ⟨Nat.zero_le _, Nat.zero_le _⟩ dX3_pass_64 (fun H locs hH => ?_)
          refine lv_iload hx hb dX3_pass_67 (lv_at hl 0 rfl) ?_
          exact x_iretX F hr hlk hH (by simp only [f_X3_passG, e_3, if_neg c_4, if_neg c_6, e_9, if_neg c_10, if_neg c_11]) dX3_pass_69
    · refine lv_iconst (v := -1) hx hb dX3_pass_23 (by decide) ?_
      exact x_iretX F hr hlk hH (by simp only [f_X3_passG, e_3, if_neg c_4, if_pos c_6]) dX3_pass_24
def f_X3_pass (σ : St) (row worth back : Int32) : Int32 × St := f_X3_passG (fun len w b σ => passF len w b 7 σ 0) σ row worth back
theorem c_X3_pass (l : Launch) {E : EV} (hA : AD E) (σ μ : St) (row worth back : Int32) : Met l yX3_pass (.code yX3_pass cX3_pass 6 (some .int) :: gtbl) (rmL 40) (va_Pc [.ref (ea E 0), .int row, .int worth, .int (bz back)] (PR E σ μ)) (QI E (f_X3_pass σ row worth back).1 (f_X3_pass σ row worth back).2 μ) 0 0 (eA E) :=
  c_X3_passG l hA σ μ row worth back (fun len w b σ => passF len w b 7 σ 0) (fun len w b hlen pr hp σ μ hσ => c_X3_passFrom l hA len w b hlen pr hp 7 0 (by omega) (by omega) σ μ hσ)
