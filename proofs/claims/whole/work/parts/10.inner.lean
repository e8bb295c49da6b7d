theorem nI_sub1 (n : Nat) : nI n - 1 = nI n + (-1) := Int32.sub_eq_add_neg _ _
def pickL (t : Nat) : Nat → Int32 → St → Int32 × St
  | 0, rest, σ => (rest, σ)
  | n + 1, rest, σ => pickL t n (rest - (if rest / wof n < σ t n then rest / wof n else σ t n) * wof n) (up σ 9 n (if rest / wof n < σ t n then rest / wof n else σ t n))
def thereL (σ : St) : Nat → Nat → Int32 → Int32
  | 0, _, acc => acc
  | n + 1, k, acc => if bz (σ 17 k) = 0 then thereL σ n (k + 1) acc else thereL σ n (k + 1) (acc + 1)
def dgL (row : Int32) : Nat → Nat → Int32 → Nat
  | 0, d, _ => d
  | n + 1, d, nx => if row < nx then d else dgL row n (d + 1) (nx * 10)
theorem dgL_le (row : Int32) : ∀ (n d : Nat) (nx : Int32), d ≤ dgL row n d nx ∧ dgL row n d nx ≤ d + n := by
  intro n
  induction n with
  | zero => intro d nx; simp [dgL]
  | succ n ih =>
    intro d nx
    unfold dgL
    split
    · omega
    · have := ih (d + 1) (nx * 10); omega
def rrL (len : Nat) : Nat → Int32 → St → Int32 × St
  | 0, _, σ => (nI len, σ)
  | n + 1, rest, σ => if f_X3_isTill (rest - rest / 10 * 10) = 0 then (-1, σ) else rrL len n (rest / 10) (up σ 21 n (rest - rest / 10 * 10))
def f_X3_begin (σ : St) (t : Nat) : Int32 × St :=
  if (bz (σ 17 t)) = 0 then
    (bz (σ 17 t), σ)
  else
    (bz ((f_X1_begin σ) 17 t), (f_X1_begin σ))
set_option maxRecDepth 100000 in
set_option maxHeartbeats 4000000 in
theorem c_X3_begin (l : Launch) {E : EV} (hA : AD E) (σ μ : St) (t : Nat) (ht : t < 8) : Met l yX3_begin (.code yX3_begin cX3_begin 2 (some .boolean) :: gtbl) (rmL 2) (va_Pc [.ref (ea E 0), .ref (ea E (5 + t))] (PR E σ μ)) (QI E (f_X3_begin σ t).1 (f_X3_begin σ t).2 μ) 0 0 (eA E) := by
  refine x_met (own := RX3) (by decide) rfl hA (Nat.le_of_ble_eq_true rfl) ?_
  intro p e s m below meth c ls F hr hlk hH hl
  have hl : lv_has ls 2 [(0, .ref (ea E 0)), (1, .ref (ea E (5 + t)))] := hl
  have hx := F.hx
  have hb := F.hb
  refine lv_aload_n hx hb dX3_begin_0 rfl (lv_at hl 1 rfl) ?_
  refine g_X2_isThere F hH (t := t) (by omega) kw_59 dX3_begin_1 ?_
  refine lv_if_eq (tgt := 14) hx hb dX3_begin_4 (by decide) (fun c_1 => ?_) (fun c_1 => ?_)
  · refine lv_aload_n hx hb dX3_begin_14 rfl (lv_at hl 1 rfl) ?_
    refine g_X2_isThere F hH (t := t) (by omega) kw_59 dX3_begin_15 ?_
    exact x_zretX F hr hlk hH (bz_nar (σ 17 t)) (by simp only [f_X3_begin, if_pos c_1]) dX3_begin_18
  · refine lv_aload_n hx hb dX3_begin_7 rfl (lv_at hl 0 rfl) ?_
    refine g_X3_holds F hH kw_100 dX3_begin_8 ?_
    refine x_callv F hH 2 (F.lt (by omega)) (vv0 (by decide)) rfl (c_X1_begin l F.ad σ μ ) cw_X3_134 rfl rfl ⟨Nat.le_of_ble_eq_true rfl, Nat.le_of_ble_eq_true rfl⟩ rfl hl.1 rfl (Nat.le_of_ble_eq_true rfl) ⟨Nat.zero_le _, Nat.zero_le _⟩ dX3_begin_11 (fun H locs hH => ?_)
    refine lv_aload_n hx hb dX3_begin_14 rfl (lv_at hl 1 rfl) ?_
    refine g_X2_isThere F hH (t := t) (by omega) kw_59 dX3_begin_15 ?_
    exact x_zretX F hr hlk hH (bz_nar ((f_X1_begin σ) 17 t)) (by simp only [f_X3_begin, if_neg c_1]) dX3_begin_18
def f_X3_end (σ : St) (res : Int32) : Int32 × St :=
  if 0 ≤ res then
    (res, (f_X1_end σ 0))
  else
    (res, (f_X1_end σ 1))
set_option maxRecDepth 100000 in
set_option maxHeartbeats 4000000 in
theorem c_X3_end (l : Launch) {E : EV} (hA : AD E) (σ μ : St) (res : Int32) : Met l yX3_end (.code yX3_end cX3_end 2 (some .int) :: gtbl) (rmL 1) (va_Pc [.ref (ea E 0), .int res] (PR E σ μ)) (QI E (f_X3_end σ res).1 (f_X3_end σ res).2 μ) 0 0 (eA E) := by
  refine x_met (own := RX3) (by decide) rfl hA (Nat.le_of_ble_eq_true rfl) ?_
  intro p e s m below meth c ls F hr hlk hH hl
  have hl : lv_has ls 2 [(0, .ref (ea E 0)), (1, .int res)] := hl
  have hx := F.hx
  have hb := F.hb
  refine lv_aload_n hx hb dX3_end_0 rfl (lv_at hl 0 rfl) ?_
  refine g_X3_holds F hH kw_100 dX3_end_1 ?_
  refine lv_iload_n hx hb dX3_end_4 rfl (lv_at hl 1 rfl) ?_
  refine lv_if_ge (tgt := 12) hx hb dX3_end_5 (by decide) (fun c_1 => ?_) (fun c_1 => ?_)
  · refine lv_iconst (v := 0) hx hb dX3_end_12 (by decide) ?_
    refine x_top bz_0.symm ?_
    refine x_callv F hH 2 (F.lt (by omega)) (vv0 (by decide)) rfl (c_X1_end l F.ad σ μ 0) cw_X3_136 rfl rfl ⟨Nat.le_of_ble_eq_true rfl, Nat.le_of_ble_eq_true rfl⟩ rfl hl.1 rfl (Nat.le_of_ble_eq_true rfl) ⟨Nat.zero_le _, Nat.zero_le _⟩ dX3_end_13 (fun H locs hH => ?_)
    refine lv_iload_n hx hb dX3_end_16 rfl (lv_at hl 1 rfl) ?_
    exact x_iretX F hr hlk hH (by simp only [f_X3_end, if_pos c_1]) dX3_end_17
  · refine lv_iconst (v := 1) hx hb dX3_end_8 (by decide) ?_
    refine lv_goto (tgt := 13) hx hb dX3_end_9 (by decide) ?_
    refine x_top bz_1.symm ?_
    refine x_callv F hH 2 (F.lt (by omega)) (vv0 (by decide)) rfl (c_X1_end l F.ad σ μ 1) cw_X3_136 rfl rfl ⟨Nat.le_of_ble_eq_true rfl, Nat.le_of_ble_eq_true rfl⟩ rfl hl.1 rfl (Nat.le_of_ble_eq_true rfl) ⟨Nat.zero_le _, Nat.zero_le _⟩ dX3_end_13 (fun H locs hH => ?_)
    refine lv_iload_n hx hb dX3_end_16 rfl (lv_at hl 1 rfl) ?_
    exact x_iretX F hr hlk hH (by simp only [f_X3_end, if_neg c_1]) dX3_end_17
set_option maxRecDepth 100000 in
set_option maxHeartbeats 4000000 in
theorem lp_X3_pick {p : Program} {l : Launch} {e : Env} {s : State} {m : MethodId} {args : Array Value} {below : List Frame} {meth : Method} {c : Code} {Q : State → Prop} {E : EV} (F : Fx E p s m args c cX3_pick RX3 6) (t : Nat) (ht : t < 8) : ∀ (n : Nat) (rest : Int32) (σ μ : St) (H : Heap) (locs : List Loc) (ls : Array Slot), n ≤ 5 → HS E s σ μ H locs → lv_has ls 6 [(0, .ref (ea E 0)), (1, .ref (ea E (5 + t))), (3, .int rest), (4, .int (nI n + (-1)))] → (∀ (rf : Int32) (sf : St) (H : Heap) (locs : List Loc) (ls : Array Slot), pickL t n rest σ = (rf, sf) → HS E s sf μ H locs → lv_has ls 6 [(0, .ref (ea E 0)), (1, .ref (ea E (5 + t))), (3, .int rf), (4, .int (nI 0 + (-1)))] → W p l e (rmL 1) s m args below meth c H locs 0 0 Q (F0 m 65 ls [])) → W p l e (rmL 1) s m args below meth c H locs 0 0 Q (F0 m 5 ls []) := by
  have hx := F.hx
  have hb := F.hb
  intro n
  induction n with
  | zero =>
    intro rest σ μ H locs ls hn hH hl hk
    refine lv_iload hx hb dX3_pick_5 (lv_at hl 3 rfl) ?_
    refine lv_if_lt (tgt := 65) hx hb dX3_pick_7 (by decide) (fun _ => ?_) (fun c_1 => absurd (by decide) c_1)
    exact hk _ _ H locs ls (by simp only [pickL]) hH (lv_sub hl [0, 1, 2, 3] rfl)
  | succ n ih =>
    intro rest σ μ H locs ls hn hH hl hk
    rw [pk_m1] at hl
    refine lv_iload hx hb dX3_pick_5 (lv_at hl 3 rfl) ?_
    refine lv_if_lt (tgt := 65) hx hb dX3_pick_7 (by decide) (fun c_1 => absurd c_1 (nI_pos (by omega))) (fun _ => ?_)
    refine lv_aload_n hx hb dX3_pick_10 rfl (lv_at hl 1 rfl) ?_
    refine g_X2_coins F hH (t := t) (by omega) kw_58 dX3_pick_11 ?_
    refine g_X0_of F hH (j := t) (by omega) kw_52 dX3_pick_14 ?_
    refine lv_iload hx hb dX3_pick_17 (lv_at hl 3 rfl) ?_
    refine a_of F hH (j := t) (by omega) n (by omega) dX3_pick_19 ?_
    refine lv_iload_n hx hb dX3_pick_20 rfl (lv_at hl 2 rfl) ?_
    refine x_wget F hH kw_201 dX3_pick_21 ?_
    refine lv_iload hx hb dX3_pick_24 (lv_at hl 3 rfl) ?_
    refine x_wld F hH n (by omega) dX3_pick_26 ?_
    refine x_pure hx hb F.hml F.hown F.hts (c_X3_howOftenIn l rest (wof n)) cw_X3_142 rfl rfl ⟨Nat.le_of_ble_eq_true rfl, Nat.le_of_ble_eq_true rfl⟩ rfl hl.1 rfl (Nat.le_of_ble_eq_true rfl) ⟨Nat.zero_le _, Nat.zero_le _⟩ dX3_pick_27 ?_
    refine x_top (howOften_wof rest n) ?_
    refine va_mmin hx hb (by rw [F.hml]; exact hl.1.symm) F.hown (F.hts _ kw_206) (F.hts _ kw_207) (F.hts _ kw_29) (F.hts _ kw_208) (Nat.le_of_ble_eq_true rfl) (Nat.le_of_ble_eq_true rfl) (Nat.zero_le _) (Nat.zero_le _) dX3_pick_30 ?_
    refine lv_istore (lv' := [(5, .int (if (rest / (wof n)) < (σ t n) then (rest / (wof n)) else σ t n)), (0, .ref (ea E 0)), (1, .ref (ea E (5 + t))), (3, .int rest), (4, .int (nI n))]) hx hb dX3_pick_33 hl (by decide) rfl (fun ls hl => ?_)
    refine lv_aload_n hx hb dX3_pick_35 rfl (lv_at hl 1 rfl) ?_
    refine g_X3_picked F hH kw_101 dX3_pick_36 ?_
    refine g_X0_of F hH (j := 9) (by omega) kw_52 dX3_pick_39 ?_
    refine lv_iload hx hb dX3_pick_42 (lv_at hl 4 rfl) ?_
    refine lv_iload hx hb dX3_pick_44 (lv_at hl 0 rfl) ?_
    refine s_of F hH (j := 9) (by omega) n (by omega) dX3_pick_46 (fun H locs hH => ?_)
    refine lv_iload_n hx hb dX3_pick_47 rfl (lv_at hl 3 rfl) ?_
    refine lv_iload hx hb dX3_pick_48 (lv_at hl 0 rfl) ?_
    refine x_wget F hH kw_201 dX3_pick_50 ?_
    refine lv_iload hx hb dX3_pick_53 (lv_at hl 4 rfl) ?_
    refine x_wld F hH n (by omega) dX3_pick_55 ?_
    refine lv_imul hx hb dX3_pick_56 ?_
    refine lv_isub hx hb dX3_pick_57 ?_
    refine lv_istore_n (lv' := [(3, .int (rest - ((if (rest / (wof n)) < (σ t n) then (rest / (wof n)) else σ t n) * (wof n)))), (5, .int (if (rest / (wof n)) < (σ t n) then (rest / (wof n)) else σ t n)), (0, .ref (ea E 0)), (1, .ref (ea E (5 + t))), (4, .int (nI n))]) hx hb dX3_pick_58 rfl hl (by decide) rfl (fun ls hl => ?_)
    refine lv_iinc (v := (nI n) + (-1)) (lv' := [(4, .int ((nI n) + (-1))), (3, .int (rest - ((if (rest / (wof n)) < (σ t n) then (rest / (wof n)) else σ t n) * (wof n)))), (5, .int (if (rest / (wof n)) < (σ t n) then (rest / (wof n)) else σ t n)), (0, .ref (ea E 0)), (1, .ref (ea E (5 + t)))]) hx hb dX3_pick_59 hl (k := 4) rfl rfl (by decide) rfl (fun ls hl => ?_)
    refine lv_goto (tgt := 5) hx hb dX3_pick_62 (by decide) ?_
    exact ih (rest - ((if (rest / (wof n)) < (σ t n) then (rest / (wof n)) else σ t n) * (wof n))) (up σ 9 n (if (rest / (wof n)) < (σ t n) then (rest / (wof n)) else σ t n)) μ H locs ls (by omega) hH (lv_sub hl [3, 4, 1, 0] rfl) (fun rf sf H locs ls e hH hl => hk rf sf H locs ls (by simpa only [pickL] using e) hH hl)
def f_X3_pick (σ : St) (t : Nat) (worth : Int32) : Int32 × St :=
  match pickL t 5 worth σ with
  | (r_1, s_2) =>
    if r_1 = 0 then
      (1, s_2)
    else
      (0, s_2)
set_option maxRecDepth 100000 in
set_option maxHeartbeats 4000000 in
theorem c_X3_pick (l : Launch) {E : EV} (hA : AD E) (σ μ : St) (t : Nat) (worth : Int32) (ht : t < 8) : Met l yX3_pick (.code yX3_pick cX3_pick 6 (some .boolean) :: gtbl) (rmL 1) (va_Pc [.ref (ea E 0), .ref (ea E (5 + t)), .int worth] (PR E σ μ)) (QI E (f_X3_pick σ t worth).1 (f_X3_pick σ t worth).2 μ) 0 0 (eA E) := by
  refine x_met (own := RX3) (by decide) rfl hA (Nat.le_of_ble_eq_true rfl) ?_
  intro p e s m below meth c ls F hr hlk hH hl
  have hl : lv_has ls 6 [(0, .ref (ea E 0)), (1, .ref (ea E (5 + t))), (2, .int worth)] := hl
  have hx := F.hx
  have hb := F.hb
  refine lv_iload_n hx hb dX3_pick_0 rfl (lv_at hl 2 rfl) ?_
  refine lv_istore_n (lv' := [(3, .int worth), (0, .ref (ea E 0)), (1, .ref (ea E (5 + t))), (2, .int worth)]) hx hb dX3_pick_1 rfl hl (by decide) rfl (fun ls hl => ?_)
  refine lv_iconst (v := 4) hx hb dX3_pick_2 (by decide) ?_
  refine lv_istore (lv' := [(4, .int 4), (3, .int worth), (0, .ref (ea E 0)), (1, .ref (ea E (5 + t))), (2, .int worth)]) hx hb dX3_pick_3 hl (by decide) rfl (fun ls hl => ?_)
  refine lp_X3_pick F t ht 5 worth σ μ _ _ ls (by omega) hH (lv_sub hl [2, 3, 1, 0] rfl) (fun r_1 s_2 H locs ls e_3 hH hl => ?_)
  refine lv_iload_n hx hb dX3_pick_65 rfl (lv_at hl 2 rfl) ?_
  refine lv_if_ne (tgt := 73) hx hb dX3_pick_66 (by decide) (fun c_4 => ?_) (fun c_4 => ?_)
  · refine lv_iconst (v := 0) hx hb dX3_pick_73 (by decide) ?_
    exact x_zretX F hr hlk hH rfl (by simp only [f_X3_pick, e_3, if_neg c_4]) dX3_pick_74
  · refine lv_iconst (v := 1) hx hb dX3_pick_69 (by decide) ?_
    refine lv_goto (tgt := 74) hx hb dX3_pick_70 (by decide) ?_
    exact x_zretX F hr hlk hH rfl (by simp only [f_X3_pick, e_3, if_pos c_4]) dX3_pick_74
def f_X3_couldPay (σ : St) (t : Nat) (worth : Int32) : Int32 × St :=
  match f_X3_begin σ t with
  | (r_1, s_2) =>
    if r_1 = 0 then
      (0, s_2)
    else
      if (bz (s_2 18 t)) = 0 then
        match f_X3_pick s_2 t worth with
        | (r_9, s_10) =>
          if r_9 = 0 then
            match f_X3_end s_10 0 with
            | (r_13, s_14) =>
              (0, s_14)
          else
            match f_X3_end s_10 0 with
            | (r_16, s_17) =>
              (1, s_17)
      else
        match f_X3_end s_2 0 with
        | (r_6, s_7) =>
          (0, s_7)
set_option maxRecDepth 100000 in
set_option maxHeartbeats 4000000 in
theorem c_X3_couldPay (l : Launch) {E : EV} (hA : AD E) (σ μ : St) (t : Nat) (worth : Int32) (ht : t < 8) : Met l yX3_couldPay (.code yX3_couldPay cX3_couldPay 4 (some .boolean) :: gtbl) (rmL 3) (va_Pc [.ref (ea E 0), .ref (ea E (5 + t)), .int worth] (PR E σ μ)) (QI E (f_X3_couldPay σ t worth).1 (f_X3_couldPay σ t worth).2 μ) 0 0 (eA E) := by
  refine x_met (own := RX3) (by decide) rfl hA (Nat.le_of_ble_eq_true rfl) ?_
  intro p e s m below meth c ls F hr hlk hH hl
  have hl : lv_has ls 4 [(0, .ref (ea E 0)), (1, .ref (ea E (5 + t))), (2, .int worth)] := hl
  have hx := F.hx
  have hb := F.hb
  refine lv_aload_n hx hb dX3_couldPay_0 rfl (lv_at hl 0 rfl) ?_
  refine lv_aload_n hx hb dX3_couldPay_1 rfl (lv_at hl 1 rfl) ?_
  refine x_calliX F hH 0 (F.lt (by omega)) (vv0 (by decide)) rfl (c_X3_begin l F.ad σ μ t (by omega)) cw_X3_69 rfl rfl ⟨Nat.le_of_ble_eq_true rfl, Nat.le_of_ble_eq_true rfl⟩ rfl hl.1 rfl (Nat.le_of_ble_eq_true rfl) ⟨Nat.zero_le _, Nat.zero_le _⟩ dX3_couldPay_2 (fun r_1 s_2 H locs e_3 hH => ?_)
  refine lv_if_ne (tgt := 10) hx hb dX3_couldPay_5 (by decide) (fun c_4 => ?_) (fun c_4 => ?_)
  · refine lv_aload_n hx hb dX3_couldPay_10 rfl (lv_at hl 1 rfl) ?_
    refine g_X2_isShut F hH (t := t) (by omega) kw_60 dX3_couldPay_11 ?_
    refine lv_if_ne (tgt := 30) hx hb dX3_couldPay_14 (by decide) (fun c_5 => ?_) (fun c_5 => ?_)
    · refine lv_iconst (v := 0) hx hb dX3_couldPay_30 (by decide) ?_
      refine lv_istore_n (lv' := [(3, .int 0), (0, .ref (ea E 0)), (1, .ref (ea E (5 + t))), (2, .int worth)]) hx hb dX3_couldPay_31 rfl hl (by decide) rfl (fun ls hl => ?_)
      refine lv_aload_n hx hb dX3_couldPay_32 rfl (lv_at hl 1 rfl) ?_
      refine lv_iconst (v := 0) hx hb dX3_couldPay_33 (by decide) ?_
      refine x_calliX F hH 0 (F.lt (by omega)) (vv0 (by decide)) rfl (c_X3_end l F.ad s_2 μ 0) cw_X3_73 rfl rfl ⟨Nat.le_of_ble_eq_true rfl, Nat.le_of_ble_eq_true rfl⟩ rfl hl.1 rfl (Nat.le_of_ble_eq_true rfl) ⟨Nat.zero_le _, Nat.zero_le _⟩ dX3_couldPay_34 (fun r_6 s_7 H locs e_8 hH => ?_)
      refine lv_pop hx hb dX3_couldPay_37 rfl ?_
      refine lv_iload_n hx hb dX3_couldPay_38 rfl (lv_at hl 0 rfl) ?_
      exact x_zretX F hr hlk hH rfl (by simp only [f_X3_couldPay, e_3, if_neg c_4, if_neg c_5, e_8]) dX3_couldPay_39
    · refine lv_aload_n hx hb dX3_couldPay_17 rfl (lv_at hl 0 rfl) ?_
      refine lv_aload_n hx hb dX3_couldPay_18 rfl (lv_at hl 1 rfl) ?_
      refine lv_iload_n hx hb dX3_couldPay_19 rfl (lv_at hl 2 rfl) ?_
      refine x_calliX F hH 0 (F.lt (by omega)) (vv0 (by decide)) rfl (c_X3_pick l F.ad s_2 μ t worth (by omega)) cw_X3_151 rfl rfl ⟨Nat.le_of_ble_eq_true rfl, Nat.le_of_ble_eq_true rfl⟩ rfl hl.1 rfl (Nat.le_of_ble_eq_true rfl) ⟨Nat.zero_le _, Nat.zero_le _⟩ dX3_couldPay_20 (fun r_9 s_10 H locs e_11 hH => ?_)
      refine lv_if_eq (tgt := 30) hx hb dX3_couldPay_23 (by decide) (fun c_12 => ?_) (fun c_12 => ?_)
      · refine lv_iconst (v := 0) hx hb dX3_couldPay_30 (by decide) ?_
        refine lv_istore_n (lv' := [(3, .int 0), (0, .ref (ea E 0)), (1, .ref (ea E (5 + t))), (2, .int worth)]) hx hb dX3_couldPay_31 rfl hl (by decide) rfl (fun ls hl => ?_)
        refine lv_aload_n hx hb dX3_couldPay_32 rfl (lv_at hl 1 rfl) ?_
        refine lv_iconst (v := 0) hx hb dX3_couldPay_33 (by decide) ?_
        refine x_calliX F hH 0 (F.lt (by omega)) (vv0 (by decide)) rfl (c_X3_end l F.ad s_10 μ 0) cw_X3_73 rfl rfl ⟨Nat.le_of_ble_eq_true rfl, Nat.le_of_ble_eq_true rfl⟩ rfl hl.1 rfl (Nat.le_of_ble_eq_true rfl) ⟨Nat.zero_le _, Nat.zero_le _⟩ dX3_couldPay_34 (fun r_13 s_14 H locs e_15 hH => ?_)
        refine lv_pop hx hb dX3_couldPay_37 rfl ?_
        refine lv_iload_n hx hb dX3_couldPay_38 rfl (lv_at hl 0 rfl) ?_
        exact x_zretX F hr hlk hH rfl (by simp only [f_X3_couldPay, e_3, if_neg c_4, if_pos c_5, e_11, if_pos c_12, e_15]) dX3_couldPay_39
      · refine lv_iconst (v := 1) hx hb dX3_couldPay_26 (by decide) ?_
        refine lv_goto (tgt := 31) hx hb dX3_couldPay_27 (by decide) ?_
        refine lv_istore_n (lv' := [(3, .int 1), (0, .ref (ea E 0)), (1, .ref (ea E (5 + t))), (2, .int worth)]) hx hb dX3_couldPay_31 rfl hl (by decide) rfl (fun ls hl => ?_)
        refine lv_aload_n hx hb dX3_couldPay_32 rfl (lv_at hl 1 rfl) ?_
        refine lv_iconst (v := 0) hx hb dX3_couldPay_33 (by decide) ?_
        refine x_calliX F hH 0 (F.lt (by omega)) (vv0 (by decide)) rfl (c_X3_end l F.ad s_10 μ 0) cw_X3_73 rfl rfl ⟨Nat.le_of_ble_eq_true rfl, Nat.le_of_ble_eq_true rfl⟩ rfl hl.1 rfl (Nat.le_of_ble_eq_true rfl) ⟨Nat.zero_le _, Nat.zero_le _⟩ dX3_couldPay_34 (fun r_16 s_17 H locs e_18 hH => ?_)
        refine lv_pop hx hb dX3_couldPay_37 rfl ?_
        refine lv_iload_n hx hb dX3_couldPay_38 rfl (lv_at hl 0 rfl) ?_
        exact x_zretX F hr hlk hH rfl (by simp only [f_X3_couldPay, e_3, if_neg c_4, if_pos c_5, e_11, if_neg c_12, e_18]) dX3_couldPay_39
  · refine lv_iconst (v := 0) hx hb dX3_couldPay_8 (by decide) ?_
    exact x_zretX F hr hlk hH rfl (by simp only [f_X3_couldPay, e_3, if_pos c_4]) dX3_couldPay_9
def f_X3_pay (σ : St) (t : Nat) (worth : Int32) : Int32 × St :=
  if (bz (σ 18 t)) = 0 then
    match f_X3_pick σ t worth with
    | (r_2, s_3) =>
      if r_2 = 0 then
        ((-13), s_3)
      else
        (sumL ((addL 8 9 5 0 (remL t 9 5 0 s_3)) 9) 5 0 0, (addL 8 9 5 0 (remL t 9 5 0 s_3)))
  else
    ((-12), σ)
set_option maxRecDepth 100000 in
set_option maxHeartbeats 4000000 in
theorem c_X3_pay (l : Launch) {E : EV} (hA : AD E) (σ μ : St) (t : Nat) (worth : Int32) (ht : t < 8) : Met l yX3_pay (.code yX3_pay cX3_pay 3 (some .int) :: gtbl) (rmL 2) (va_Pc [.ref (ea E 0), .ref (ea E (5 + t)), .int worth] (PR E σ μ)) (QI E (f_X3_pay σ t worth).1 (f_X3_pay σ t worth).2 μ) 0 0 (eA E) := by
  refine x_met (own := RX3) (by decide) rfl hA (Nat.le_of_ble_eq_true rfl) ?_
  intro p e s m below meth c ls F hr hlk hH hl
  have hl : lv_has ls 3 [(0, .ref (ea E 0)), (1, .ref (ea E (5 + t))), (2, .int worth)] := hl
  have hx := F.hx
  have hb := F.hb
  refine lv_aload_n hx hb dX3_pay_0 rfl (lv_at hl 1 rfl) ?_
  refine g_X2_isShut F hH (t := t) (by omega) kw_60 dX3_pay_1 ?_
  refine lv_if_eq (tgt := 10) hx hb dX3_pay_4 (by decide) (fun c_1 => ?_) (fun c_1 => ?_)
  · refine lv_aload_n hx hb dX3_pay_10 rfl (lv_at hl 0 rfl) ?_
    refine lv_aload_n hx hb dX3_pay_11 rfl (lv_at hl 1 rfl) ?_
    refine lv_iload_n hx hb dX3_pay_12 rfl (lv_at hl 2 rfl) ?_
    refine x_calliX F hH 0 (F.lt (by omega)) (vv0 (by decide)) rfl (c_X3_pick l F.ad σ μ t worth (by omega)) cw_X3_151 rfl rfl ⟨Nat.le_of_ble_eq_true rfl, Nat.le_of_ble_eq_true rfl⟩ rfl hl.1 rfl (Nat.le_of_ble_eq_true rfl) ⟨Nat.zero_le _, Nat.zero_le _⟩ dX3_pay_13 (fun r_2 s_3 H locs e_4 hH => ?_)
    refine lv_if_ne (tgt := 22) hx hb dX3_pay_16 (by decide) (fun c_5 => ?_) (fun c_5 => ?_)
    · refine lv_aload_n hx hb dX3_pay_22 rfl (lv_at hl 1 rfl) ?_
      refine g_X2_coins F hH (t := t) (by omega) kw_58 dX3_pay_23 ?_
      refine lv_aload_n hx hb dX3_pay_26 rfl (lv_at hl 0 rfl) ?_
      refine g_X3_picked F hH kw_101 dX3_pay_27 ?_
      refine x_callv F hH (13 + t) (F.lt (by omega)) (vv2 (by omega)) rfl (c_X0_remove l F.ad s_3 μ t 9 (by omega) (by omega)) cw_X3_154 rfl rfl ⟨Nat.le_of_ble_eq_true rfl, Nat.le_of_ble_eq_true rfl⟩ rfl hl.1 rfl (Nat.le_of_ble_eq_true rfl) ⟨Nat.zero_le _, Nat.zero_le _⟩ dX3_pay_30 (fun H locs hH => ?_)
      refine lv_aload_n hx hb dX3_pay_33 rfl (lv_at hl 0 rfl) ?_
      refine g_X3_inHand F hH kw_99 dX3_pay_34 ?_
      refine lv_aload_n hx hb dX3_pay_37 rfl (lv_at hl 0 rfl) ?_
      refine g_X3_picked F hH kw_101 dX3_pay_38 ?_
      refine x_callv F hH (13 + 8) (F.lt (by omega)) (vv2 (by omega)) rfl (c_X0_add l F.ad (remL t 9 5 0 s_3) μ 8 9 (by omega) (by omega)) cw_X3_83 rfl rfl ⟨Nat.le_of_ble_eq_true rfl, Nat.le_of_ble_eq_true rfl⟩ rfl hl.1 rfl (Nat.le_of_ble_eq_true rfl) ⟨Nat.zero_le _, Nat.zero_le _⟩ dX3_pay_41 (fun H locs hH => ?_)
      refine lv_aload_n hx hb dX3_pay_44 rfl (lv_at hl 0 rfl) ?_
      refine g_X3_picked F hH kw_101 dX3_pay_45 ?_
      refine x_calliR F hH (13 + 9) (F.lt (by omega)) (vv2 (by omega)) rfl (c_X0_number l F.ad (addL 8 9 5 0 (remL t 9 5 0 s_3)) μ 9 (by omega)) cw_X3_157 rfl rfl ⟨Nat.le_of_ble_eq_true rfl, Nat.le_of_ble_eq_true rfl⟩ rfl hl.1 rfl (Nat.le_of_ble_eq_true rfl) ⟨Nat.zero_le _, Nat.zero_le _⟩ dX3_pay_48 (fun H locs hH => ?_)
      exact x_iretX F hr hlk hH (by simp only [f_X3_pay, if_pos c_1, e_4, if_neg c_5]) dX3_pay_51
    · refine lv_bipush (v := -13) hx hb dX3_pay_19 (by decide) ?_
      exact x_iretX F hr hlk hH (by simp only [f_X3_pay, if_pos c_1, e_4, if_pos c_5]) dX3_pay_21
  · refine lv_bipush (v := -12) hx hb dX3_pay_7 (by decide) ?_
    exact x_iretX F hr hlk hH (by simp only [f_X3_pay, if_neg c_1]) dX3_pay_9
def f_X3_layPicked (σ : St) (t : Nat) : Int32 × St :=
  if (bz (σ 18 t)) = 0 then
    if (f_X2_hasRoomFor σ t (sumL (σ 9) 5 0 0)) = 0 then
      ((-14), σ)
    else
      (sumL ((addL t 9 5 0 (remL 8 9 5 0 σ)) t) 5 0 0, (addL t 9 5 0 (remL 8 9 5 0 σ)))
  else
    ((-12), σ)
set_option maxRecDepth 100000 in
set_option maxHeartbeats 4000000 in
theorem c_X3_layPicked (l : Launch) {E : EV} (hA : AD E) (σ μ : St) (t : Nat) (ht : t < 8) : Met l yX3_layPicked (.code yX3_layPicked cX3_layPicked 2 (some .int) :: gtbl) (rmL 2) (va_Pc [.ref (ea E 0), .ref (ea E (5 + t))] (PR E σ μ)) (QI E (f_X3_layPicked σ t).1 (f_X3_layPicked σ t).2 μ) 0 0 (eA E) := by
  refine x_met (own := RX3) (by decide) rfl hA (Nat.le_of_ble_eq_true rfl) ?_
  intro p e s m below meth c ls F hr hlk hH hl
  have hl : lv_has ls 2 [(0, .ref (ea E 0)), (1, .ref (ea E (5 + t)))] := hl
  have hx := F.hx
  have hb := F.hb
  refine lv_aload_n hx hb dX3_layPicked_0 rfl (lv_at hl 1 rfl) ?_
  refine g_X2_isShut F hH (t := t) (by omega) kw_60 dX3_layPicked_1 ?_
  refine lv_if_eq (tgt := 10) hx hb dX3_layPicked_4 (by decide) (fun c_1 => ?_) (fun c_1 => ?_)
  · refine lv_aload_n hx hb dX3_layPicked_10 rfl (lv_at hl 1 rfl) ?_
    refine lv_aload_n hx hb dX3_layPicked_11 rfl (lv_at hl 0 rfl) ?_
    refine g_X3_picked F hH kw_101 dX3_layPicked_12 ?_
    refine x_calliR F hH (13 + 9) (F.lt (by omega)) (vv2 (by omega)) rfl (c_X0_number l F.ad σ μ 9 (by omega)) cw_X3_157 rfl rfl ⟨Nat.le_of_ble_eq_true rfl, Nat.le_of_ble_eq_true rfl⟩ rfl hl.1 rfl (Nat.le_of_ble_eq_true rfl) ⟨Nat.zero_le _, Nat.zero_le _⟩ dX3_layPicked_15 (fun H locs hH => ?_)
    refine x_calliR F hH (5 + t) (F.lt (by omega)) (vv1 (by omega)) rfl (c_X2_hasRoomFor l F.ad σ μ t (sumL (σ 9) 5 0 0) (by omega)) cw_X3_160 rfl rfl ⟨Nat.le_of_ble_eq_true rfl, Nat.le_of_ble_eq_true rfl⟩ rfl hl.1 rfl (Nat.le_of_ble_eq_true rfl) ⟨Nat.zero_le _, Nat.zero_le _⟩ dX3_layPicked_18 (fun H locs hH => ?_)
    refine lv_if_ne (tgt := 27) hx hb dX3_layPicked_21 (by decide) (fun c_2 => ?_) (fun c_2 => ?_)
    · refine lv_aload_n hx hb dX3_layPicked_27 rfl (lv_at hl 0 rfl) ?_
      refine g_X3_inHand F hH kw_99 dX3_layPicked_28 ?_
      refine lv_aload_n hx hb dX3_layPicked_31 rfl (lv_at hl 0 rfl) ?_
      refine g_X3_picked F hH kw_101 dX3_layPicked_32 ?_
      refine x_callv F hH (13 + 8) (F.lt (by omega)) (vv2 (by omega)) rfl (c_X0_remove l F.ad σ μ 8 9 (by omega) (by omega)) cw_X3_154 rfl rfl ⟨Nat.le_of_ble_eq_true rfl, Nat.le_of_ble_eq_true rfl⟩ rfl hl.1 rfl (Nat.le_of_ble_eq_true rfl) ⟨Nat.zero_le _, Nat.zero_le _⟩ dX3_layPicked_35 (fun H locs hH => ?_)
      refine lv_aload_n hx hb dX3_layPicked_38 rfl (lv_at hl 1 rfl) ?_
      refine g_X2_coins F hH (t := t) (by omega) kw_58 dX3_layPicked_39 ?_
      refine lv_aload_n hx hb dX3_layPicked_42 rfl (lv_at hl 0 rfl) ?_
      refine g_X3_picked F hH kw_101 dX3_layPicked_43 ?_
      refine x_callv F hH (13 + t) (F.lt (by omega)) (vv2 (by omega)) rfl (c_X0_add l F.ad (remL 8 9 5 0 σ) μ t 9 (by omega) (by omega)) cw_X3_83 rfl rfl ⟨Nat.le_of_ble_eq_true rfl, Nat.le_of_ble_eq_true rfl⟩ rfl hl.1 rfl (Nat.le_of_ble_eq_true rfl) ⟨Nat.zero_le _, Nat.zero_le _⟩ dX3_layPicked_46 (fun H locs hH => ?_)
      refine lv_aload_n hx hb dX3_layPicked_49 rfl (lv_at hl 1 rfl) ?_
      refine g_X2_coins F hH (t := t) (by omega) kw_58 dX3_layPicked_50 ?_
      refine x_calliR F hH (13 + t) (F.lt (by omega)) (vv2 (by omega)) rfl (c_X0_number l F.ad (addL t 9 5 0 (remL 8 9 5 0 σ)) μ t (by omega)) cw_X3_157 rfl rfl ⟨Nat.le_of_ble_eq_true rfl, Nat.le_of_ble_eq_true rfl⟩ rfl hl.1 rfl (Nat.le_of_ble_eq_true rfl) ⟨Nat.zero_le _, Nat.zero_le _⟩ dX3_layPicked_53 (fun H locs hH => ?_)
      exact x_iretX F hr hlk hH (by simp only [f_X3_layPicked, if_pos c_1, if_neg c_2]) dX3_layPicked_56
    · refine lv_bipush (v := -14) hx hb dX3_layPicked_24 (by decide) ?_
      exact x_iretX F hr hlk hH (by simp only [f_X3_layPicked, if_pos c_1, if_pos c_2]) dX3_layPicked_26
  · refine lv_bipush (v := -12) hx hb dX3_layPicked_7 (by decide) ?_
    exact x_iretX F hr hlk hH (by simp only [f_X3_layPicked, if_neg c_1]) dX3_layPicked_9
def f_X3_moveWithin (σ : St) (fr : Nat) (to : Nat) (worth : Int32) (back : Int32) : Int32 × St :=
  match f_X3_pay σ fr worth with
  | (r_1, s_2) =>
    if 0 ≤ r_1 then
      match f_X3_begin s_2 to with
      | (r_5, s_6) =>
        if r_5 = 0 then
          if (bz back) = 0 then
            ((-11), s_6)
          else
            ((-11), (addL fr 9 5 0 (remL 8 9 5 0 s_6)))
        else
          match f_X3_layPicked s_6 to with
          | (r_11, s_12) =>
            match f_X3_end s_12 r_11 with
            | (r_14, s_15) =>
              if r_14 < 0 then
                if (bz back) = 0 then
                  (r_14, s_15)
                else
                  (r_14, (addL fr 9 5 0 (remL 8 9 5 0 s_15)))
              else
                (r_1, s_15)
    else
      (r_1, s_2)
set_option maxRecDepth 100000 in
set_option maxHeartbeats 4000000 in
theorem c_X3_moveWithin (l : Launch) {E : EV} (hA : AD E) (σ μ : St) (fr : Nat) (to : Nat) (worth : Int32) (back : Int32) (hfr : fr < 8) (hto : to < 8) : Met l yX3_moveWithin (.code yX3_moveWithin cX3_moveWithin 7 (some .int) :: gtbl) (rmL 3) (va_Pc [.ref (ea E 0), .ref (ea E (5 + fr)), .ref (ea E (5 + to)), .int worth, .int (bz back)] (PR E σ μ)) (QI E (f_X3_moveWithin σ fr to worth back).1 (f_X3_moveWithin σ fr to worth back).2 μ) 0 0 (eA E) := by
  refine x_met (own := RX3) (by decide) rfl hA (Nat.le_of_ble_eq_true rfl) ?_
  intro p e s m below meth c ls F hr hlk hH hl
  have hl : lv_has ls 7 [(0, .ref (ea E 0)), (1, .ref (ea E (5 + fr))), (2, .ref (ea E (5 + to))), (3, .int worth), (4, .int (bz back))] := hl
  have hx := F.hx
  have hb := F.hb
  refine lv_aload_n hx hb dX3_moveWithin_0 rfl (lv_at hl 0 rfl) ?_
  refine lv_aload_n hx hb dX3_moveWithin_1 rfl (lv_at hl 1 rfl) ?_
  refine lv_iload_n hx hb dX3_moveWithin_2 rfl (lv_at hl 3 rfl) ?_
  refine x_calliX F hH 0 (F.lt (by omega)) (vv0 (by decide)) rfl (c_X3_pay l F.ad σ μ fr worth (by omega)) cw_X3_91 rfl rfl ⟨Nat.le_of_ble_eq_true rfl, Nat.le_of_ble_eq_true rfl⟩ rfl hl.1 rfl (Nat.le_of_ble_eq_true rfl) ⟨Nat.zero_le _, Nat.zero_le _⟩ dX3_moveWithin_3 (fun r_1 s_2 H locs e_3 hH => ?_)
  refine lv_istore (lv' := [(5, .int r_1), (0, .ref (ea E 0)), (1, .ref (ea E (5 + fr))), (2, .ref (ea E (5 + to))), (3, .int worth), (4, .int (bz back))]) hx hb dX3_moveWithin_6 hl (by decide) rfl (fun ls hl => ?_)
  refine lv_iload hx hb dX3_moveWithin_8 (lv_at hl 0 rfl) ?_
  refine lv_if_ge (tgt := 16) hx hb dX3_moveWithin_10 (by decide) (fun c_4 => ?_) (fun c_4 => ?_)
  · refine lv_aload_n hx hb dX3_moveWithin_16 rfl (lv_at hl 1 rfl) ?_
    refine lv_aload_n hx hb dX3_moveWithin_17 rfl (lv_at hl 3 rfl) ?_
    refine x_calliX F hH 0 (F.lt (by omega)) (vv0 (by decide)) rfl (c_X3_begin l F.ad s_2 μ to (by omega)) cw_X3_69 rfl rfl ⟨Nat.le_of_ble_eq_true rfl, Nat.le_of_ble_eq_true rfl⟩ rfl hl.1 rfl (Nat.le_of_ble_eq_true rfl) ⟨Nat.zero_le _, Nat.zero_le _⟩ dX3_moveWithin_18 (fun r_5 s_6 H locs e_7 hH => ?_)
    refine lv_if_eq (tgt := 36) hx hb dX3_moveWithin_21 (by decide) (fun c_8 => ?_) (fun c_8 => ?_)
    · refine lv_bipush (v := -11) hx hb dX3_moveWithin_36 (by decide) ?_
      refine lv_istore (lv' := [(6, .int (-11)), (5, .int r_1), (0, .ref (ea E 0)), (1, .ref (ea E (5 + fr))), (2, .ref (ea E (5 + to))), (3, .int worth), (4, .int (bz back))]) hx hb dX3_moveWithin_38 hl (by decide) rfl (fun ls hl => ?_)
      refine lv_iload hx hb dX3_moveWithin_40 (lv_at hl 0 rfl) ?_
      refine lv_if_lt (tgt := 48) hx hb dX3_moveWithin_42 (by decide) (fun _ => ?_) (fun c_9 => absurd (by decide) c_9)
      refine lv_iload hx hb dX3_moveWithin_48 (lv_at hl 6 rfl) ?_
      refine lv_if_eq (tgt := 75) hx hb dX3_moveWithin_50 (by decide) (fun c_10 => ?_) (fun c_10 => ?_)
      · refine lv_iload hx hb dX3_moveWithin_75 (lv_at hl 0 rfl) ?_
        exact x_iretX F hr hlk hH (by simp only [f_X3_moveWithin, e_3, if_pos c_4, e_7, if_pos c_8, if_pos c_10]) dX3_moveWithin_77
      · refine lv_aload_n hx hb dX3_moveWithin_53 rfl (lv_at hl 2 rfl) ?_
        refine g_X3_inHand F hH kw_99 dX3_moveWithin_54 ?_
        refine lv_aload_n hx hb dX3_moveWithin_57 rfl (lv_at hl 2 rfl) ?_
        refine g_X3_picked F hH kw_101 dX3_moveWithin_58 ?_
        refine x_callv F hH (13 + 8) (F.lt (by omega)) (vv2 (by omega)) rfl (c_X0_remove l F.ad s_6 μ 8 9 (by omega) (by omega)) cw_X3_154 rfl rfl ⟨Nat.le_of_ble_eq_true rfl, Nat.le_of_ble_eq_true rfl⟩ rfl hl.1 rfl (Nat.le_of_ble_eq_true rfl) ⟨Nat.zero_le _, Nat.zero_le _⟩ dX3_moveWithin_61 (fun H locs hH => ?_)
        refine lv_aload_n hx hb dX3_moveWithin_64 rfl (lv_at hl 3 rfl) ?_
        refine g_X2_coins F hH (t := fr) (by omega) kw_58 dX3_moveWithin_65 ?_
        refine lv_aload_n hx hb dX3_moveWithin_68 rfl (lv_at hl 2 rfl) ?_
        refine g_X3_picked F hH kw_101 dX3_moveWithin_69 ?_
        refine x_callv F hH (13 + fr) (F.lt (by omega)) (vv2 (by omega)) rfl (c_X0_add l F.ad (remL 8 9 5 0 s_6) μ fr 9 (by omega) (by omega)) cw_X3_83 rfl rfl ⟨Nat.le_of_ble_eq_true rfl, Nat.le_of_ble_eq_true rfl⟩ rfl hl.1 rfl (Nat.le_of_ble_eq_true rfl) ⟨Nat.zero_le _, Nat.zero_le _⟩ dX3_moveWithin_72 (fun H locs hH => ?_)
        refine lv_iload hx hb dX3_moveWithin_75 (lv_at hl 0 rfl) ?_
        exact x_iretX F hr hlk hH (by simp only [f_X3_moveWithin, e_3, if_pos c_4, e_7, if_pos c_8, if_neg c_10]) dX3_moveWithin_77
    · refine lv_aload_n hx hb dX3_moveWithin_24 rfl (lv_at hl 1 rfl) ?_
      refine lv_aload_n hx hb dX3_moveWithin_25 rfl (lv_at hl 1 rfl) ?_
      refine lv_aload_n hx hb dX3_moveWithin_26 rfl (lv_at hl 3 rfl) ?_
      refine x_calliX F hH 0 (F.lt (by omega)) (vv0 (by decide)) rfl (c_X3_layPicked l F.ad s_6 μ to (by omega)) cw_X3_87 rfl rfl ⟨Nat.le_of_ble_eq_true rfl, Nat.le_of_ble_eq_true rfl⟩ rfl hl.1 rfl (Nat.le_of_ble_eq_true rfl) ⟨Nat.zero_le _, Nat.zero_le _⟩ dX3_moveWithin_27 (fun r_11 s_12 H locs e_13 hH => ?_)
      refine x_calliX F hH 0 (F.lt (by omega)) (vv0 (by decide)) rfl (c_X3_end l F.ad s_12 μ r_11) cw_X3_73 rfl rfl ⟨Nat.le_of_ble_eq_true rfl, Nat.le_of_ble_eq_true rfl⟩ rfl hl.1 rfl (Nat.le_of_ble_eq_true rfl) ⟨Nat.zero_le _, Nat.zero_le _⟩ dX3_moveWithin_30 (fun r_14 s_15 H locs e_16 hH => ?_)
      refine lv_goto (tgt := 38) hx hb dX3_moveWithin_33 (by decide) ?_
      refine lv_istore (lv' := [(6, .int r_14), (5, .int r_1), (0, .ref (ea E 0)), (1, .ref (ea E (5 + fr))), (2, .ref (ea E (5 + to))), (3, .int worth), (4, .int (bz back))]) hx hb dX3_moveWithin_38 hl (by decide) rfl (fun ls hl => ?_)
      refine lv_iload hx hb dX3_moveWithin_40 (lv_at hl 0 rfl) ?_
      refine lv_if_lt (tgt := 48) hx hb dX3_moveWithin_42 (by decide) (fun c_17 => ?_) (fun c_17 => ?_)
      · refine lv_iload hx hb dX3_moveWithin_48 (lv_at hl 6 rfl) ?_
        refine lv_if_eq (tgt := 75) hx hb dX3_moveWithin_50 (by decide) (fun c_18 => ?_) (fun c_18 => ?_)
        · refine lv_iload hx hb dX3_moveWithin_75 (lv_at hl 0 rfl) ?_
          exact x_iretX F hr hlk hH (by simp only [f_X3_moveWithin, e_3, if_pos c_4, e_7, if_neg c_8, e_13, e_16, if_pos c_17, if_pos c_18]) dX3_moveWithin_77
        · refine lv_aload_n hx hb dX3_moveWithin_53 rfl (lv_at hl 2 rfl) ?_
          refine g_X3_inHand F hH kw_99 dX3_moveWithin_54 ?_
          refine lv_aload_n hx hb dX3_moveWithin_57 rfl (lv_at hl 2 rfl) ?_
          refine g_X3_picked F hH kw_101 dX3_moveWithin_58 ?_
          refine x_callv F hH (13 + 8) (F.lt (by omega)) (vv2 (by omega)) rfl (c_X0_remove l F.ad s_15 μ 8 9 (by omega) (by omega)) cw_X3_154 rfl rfl ⟨Nat.le_of_ble_eq_true rfl, Nat.le_of_ble_eq_true rfl⟩ rfl hl.1 rfl (Nat.le_of_ble_eq_true rfl) ⟨Nat.zero_le _, Nat.zero_le _⟩ dX3_moveWithin_61 (fun H locs hH => ?_)
          refine lv_aload_n hx hb dX3_moveWithin_64 rfl (lv_at hl 3 rfl) ?_
          refine g_X2_coins F hH (t := fr) (by omega) kw_58 dX3_moveWithin_65 ?_
          refine lv_aload_n hx hb dX3_moveWithin_68 rfl (lv_at hl 2 rfl) ?_
          refine g_X3_picked F hH kw_101 dX3_moveWithin_69 ?_
          refine x_callv F hH (13 + fr) (F.lt (by omega)) (vv2 (by omega)) rfl (c_X0_add l F.ad (remL 8 9 5 0 s_15) μ fr 9 (by omega) (by omega)) cw_X3_83 rfl rfl ⟨Nat.le_of_ble_eq_true rfl, Nat.le_of_ble_eq_true rfl⟩ rfl hl.1 rfl (Nat.le_of_ble_eq_true rfl) ⟨Nat.zero_le _, Nat.zero_le _⟩ dX3_moveWithin_72 (fun H locs hH => ?_)
          refine lv_iload hx hb dX3_moveWithin_75 (lv_at hl 0 rfl) ?_
          exact x_iretX F hr hlk hH (by simp only [f_X3_moveWithin, e_3, if_pos c_4, e_7, if_neg c_8, e_13, e_16, if_pos c_17, if_neg c_18]) dX3_moveWithin_77
      · refine lv_iload hx hb dX3_moveWithin_45 (lv_at hl 1 rfl) ?_
        exact x_iretX F hr hlk hH (by simp only [f_X3_moveWithin, e_3, if_pos c_4, e_7, if_neg c_8, e_13, e_16, if_neg c_17]) dX3_moveWithin_47
  · refine lv_iload hx hb dX3_moveWithin_13 (lv_at hl 0 rfl) ?_
    exact x_iretX F hr hlk hH (by simp only [f_X3_moveWithin, e_3, if_neg c_4]) dX3_moveWithin_15
def f_X3_give (σ : St) (fr : Nat) (to : Nat) (kind : Nat) (n : Int32) : Int32 × St :=
  if (f_X2_hasRoomFor σ to n) = 0 then
    ((-14), σ)
  else
    (n, (up (up σ fr kind ((σ fr kind) - n)) to kind (((up σ fr kind ((σ fr kind) - n)) to kind) + n)))
set_option maxRecDepth 100000 in
set_option maxHeartbeats 4000000 in
theorem c_X3_give (l : Launch) {E : EV} (hA : AD E) (σ μ : St) (fr : Nat) (to : Nat) (kind : Nat) (n : Int32) (hfr : fr < 8) (hto : to < 8) (hkind : kind < 5) : Met l yX3_give (.code yX3_give cX3_give 4 (some .int) :: gtbl) (rmL 2) (va_Pc [.ref (ea E (5 + fr)), .ref (ea E (5 + to)), .int (nI kind), .int n] (PR E σ μ)) (QI E (f_X3_give σ fr to kind n).1 (f_X3_give σ fr to kind n).2 μ) 0 0 (eA E) := by
  refine x_met (own := RX3) (by decide) rfl hA (Nat.le_of_ble_eq_true rfl) ?_
  intro p e s m below meth c ls F hr hlk hH hl
  have hl : lv_has ls 4 [(0, .ref (ea E (5 + fr))), (1, .ref (ea E (5 + to))), (2, .int (nI kind)), (3, .int n)] := hl
  have hx := F.hx
  have hb := F.hb
  refine lv_aload_n hx hb dX3_give_0 rfl (lv_at hl 1 rfl) ?_
  refine lv_iload_n hx hb dX3_give_1 rfl (lv_at hl 3 rfl) ?_
  refine x_calliR F hH (5 + to) (F.lt (by omega)) (vv1 (by omega)) rfl (c_X2_hasRoomFor l F.ad σ μ to n (by omega)) cw_X3_160 rfl rfl ⟨Nat.le_of_ble_eq_true rfl, Nat.le_of_ble_eq_true rfl⟩ rfl hl.1 rfl (Nat.le_of_ble_eq_true rfl) ⟨Nat.zero_le _, Nat.zero_le _⟩ dX3_give_2 (fun H locs hH => ?_)
  refine lv_if_ne (tgt := 11) hx hb dX3_give_5 (by decide) (fun c_1 => ?_) (fun c_1 => ?_)
  · refine lv_aload_n hx hb dX3_give_11 rfl (lv_at hl 0 rfl) ?_
    refine g_X2_coins F hH (t := fr) (by omega) kw_58 dX3_give_12 ?_
    refine g_X0_of F hH (j := fr) (by omega) kw_52 dX3_give_15 ?_
    refine lv_iload_n hx hb dX3_give_18 rfl (lv_at hl 2 rfl) ?_
    refine lv_dup2_11 hx hb dX3_give_19 rfl rfl ?_
    refine a_of F hH (j := fr) (by omega) kind (by omega) dX3_give_20 ?_
    refine lv_iload_n hx hb dX3_give_21 rfl (lv_at hl 3 rfl) ?_
    refine lv_isub hx hb dX3_give_22 ?_
    refine s_of F hH (j := fr) (by omega) kind (by omega) dX3_give_23 (fun H locs hH => ?_)
    refine lv_aload_n hx hb dX3_give_24 rfl (lv_at hl 1 rfl) ?_
    refine g_X2_coins F hH (t := to) (by omega) kw_58 dX3_give_25 ?_
    refine g_X0_of F hH (j := to) (by omega) kw_52 dX3_give_28 ?_
    refine lv_iload_n hx hb dX3_give_31 rfl (lv_at hl 2 rfl) ?_
    refine lv_dup2_11 hx hb dX3_give_32 rfl rfl ?_
    refine a_of F hH (j := to) (by omega) kind (by omega) dX3_give_33 ?_
    refine lv_iload_n hx hb dX3_give_34 rfl (lv_at hl 3 rfl) ?_
    refine lv_iadd hx hb dX3_give_35 ?_
    refine s_of F hH (j := to) (by omega) kind (by omega) dX3_give_36 (fun H locs hH => ?_)
    refine lv_iload_n hx hb dX3_give_37 rfl (lv_at hl 3 rfl) ?_
    exact x_iretX F hr hlk hH (by simp only [f_X3_give, if_neg c_1]) dX3_give_38
  · refine lv_bipush (v := -14) hx hb dX3_give_8 (by decide) ?_
    exact x_iretX F hr hlk hH (by simp only [f_X3_give, if_pos c_1]) dX3_give_10
def f_X3_halve (σ : St) (one : Nat) (oth : Nat) (kind : Nat) : Int32 × St :=
  if (bz (σ 18 one)) = 0 then
    if (bz (σ 18 oth)) = 0 then
      if 0 ≤ (((σ one kind) - (σ oth kind)) / 2) then
        match f_X3_give σ one oth kind (((σ one kind) - (σ oth kind)) / 2) with
        | (r_4, s_5) =>
          (r_4, s_5)
      else
        match f_X3_give σ oth one kind (-(((σ one kind) - (σ oth kind)) / 2)) with
        | (r_7, s_8) =>
          (r_7, s_8)
    else
      ((-12), σ)
  else
    ((-12), σ)
set_option maxRecDepth 100000 in
set_option maxHeartbeats 4000000 in
theorem c_X3_halve (l : Launch) {E : EV} (hA : AD E) (σ μ : St) (one : Nat) (oth : Nat) (kind : Nat) (hone : one < 8) (hoth : oth < 8) (hkind : kind < 5) : Met l yX3_halve (.code yX3_halve cX3_halve 4 (some .int) :: gtbl) (rmL 3) (va_Pc [.ref (ea E (5 + one)), .ref (ea E (5 + oth)), .int (nI kind)] (PR E σ μ)) (QI E (f_X3_halve σ one oth kind).1 (f_X3_halve σ one oth kind).2 μ) 0 0 (eA E) := by
  refine x_met (own := RX3) (by decide) rfl hA (Nat.le_of_ble_eq_true rfl) ?_
  intro p e s m below meth c ls F hr hlk hH hl
  have hl : lv_has ls 4 [(0, .ref (ea E (5 + one))), (1, .ref (ea E (5 + oth))), (2, .int (nI kind))] := hl
  have hx := F.hx
  have hb := F.hb
  refine lv_aload_n hx hb dX3_halve_0 rfl (lv_at hl 0 rfl) ?_
  refine g_X2_isShut F hH (t := one) (by omega) kw_60 dX3_halve_1 ?_
  refine lv_if_ne (tgt := 14) hx hb dX3_halve_4 (by decide) (fun c_1 => ?_) (fun c_1 => ?_)
  · refine lv_bipush (v := -12) hx hb dX3_halve_14 (by decide) ?_
    exact x_iretX F hr hlk hH (by simp only [f_X3_halve, if_neg c_1]) dX3_halve_16
  · refine lv_aload_n hx hb dX3_halve_7 rfl (lv_at hl 1 rfl) ?_
    refine g_X2_isShut F hH (t := oth) (by omega) kw_60 dX3_halve_8 ?_
    refine lv_if_eq (tgt := 17) hx hb dX3_halve_11 (by decide) (fun c_2 => ?_) (fun c_2 => ?_)
    · refine lv_aload_n hx hb dX3_halve_17 rfl (lv_at hl 0 rfl) ?_
      refine g_X2_coins F hH (t := one) (by omega) kw_58 dX3_halve_18 ?_
      refine g_X0_of F hH (j := one) (by omega) kw_52 dX3_halve_21 ?_
      refine lv_iload_n hx hb dX3_halve_24 rfl (lv_at hl 2 rfl) ?_
      refine a_of F hH (j := one) (by omega) kind (by omega) dX3_halve_25 ?_
      refine lv_aload_n hx hb dX3_halve_26 rfl (lv_at hl 1 rfl) ?_
      refine g_X2_coins F hH (t := oth) (by omega) kw_58 dX3_halve_27 ?_
      refine g_X0_of F hH (j := oth) (by omega) kw_52 dX3_halve_30 ?_
      refine lv_iload_n hx hb dX3_halve_33 rfl (lv_at hl 2 rfl) ?_
      refine a_of F hH (j := oth) (by omega) kind (by omega) dX3_halve_34 ?_
      refine lv_isub hx hb dX3_halve_35 ?_
      refine lv_iconst (v := 2) hx hb dX3_halve_36 (by decide) ?_
      refine lv_idiv hx hb dX3_halve_37 (by decide) ?_
      refine lv_istore_n (lv' := [(3, .int (((σ one kind) - (σ oth kind)) / 2)), (0, .ref (ea E (5 + one))), (1, .ref (ea E (5 + oth))), (2, .int (nI kind))]) hx hb dX3_halve_38 rfl hl (by decide) rfl (fun ls hl => ?_)
      refine lv_iload_n hx hb dX3_halve_39 rfl (lv_at hl 0 rfl) ?_
      refine lv_if_ge (tgt := 54) hx hb dX3_halve_40 (by decide) (fun c_3 => ?_) (fun c_3 => ?_)
      · refine lv_aload_n hx hb dX3_halve_54 rfl (lv_at hl 1 rfl) ?_
        refine lv_aload_n hx hb dX3_halve_55 rfl (lv_at hl 2 rfl) ?_
        refine lv_iload_n hx hb dX3_halve_56 rfl (lv_at hl 3 rfl) ?_
        refine lv_iload_n hx hb dX3_halve_57 rfl (lv_at hl 0 rfl) ?_
        refine x_callsX F hH (c_X3_give l F.ad σ μ one oth kind (((σ one kind) - (σ oth kind)) / 2) (by omega) (by omega) (by omega)) cw_X3_171 rfl rfl ⟨Nat.le_of_ble_eq_true rfl, Nat.le_of_ble_eq_true rfl⟩ rfl hl.1 rfl (Nat.le_of_ble_eq_true rfl) ⟨Nat.zero_le _, Nat.zero_le _⟩ dX3_halve_58 (fun r_4 s_5 H locs e_6 hH => ?_)
        exact x_iretX F hr hlk hH (by simp only [f_X3_halve, if_pos c_1, if_pos c_2, if_pos c_3, e_6]) dX3_halve_61
      · refine lv_aload_n hx hb dX3_halve_43 rfl (lv_at hl 2 rfl) ?_
        refine lv_aload_n hx hb dX3_halve_44 rfl (lv_at hl 1 rfl) ?_
        refine lv_iload_n hx hb dX3_halve_45 rfl (lv_at hl 3 rfl) ?_
        refine lv_iload_n hx hb dX3_halve_46 rfl (lv_at hl 0 rfl) ?_
        refine lv_ineg hx hb dX3_halve_47 ?_
        refine x_callsX F hH (c_X3_give l F.ad σ μ oth one kind (-(((σ one kind) - (σ oth kind)) / 2)) (by omega) (by omega) (by omega)) cw_X3_171 rfl rfl ⟨Nat.le_of_ble_eq_true rfl, Nat.le_of_ble_eq_true rfl⟩ rfl hl.1 rfl (Nat.le_of_ble_eq_true rfl) ⟨Nat.zero_le _, Nat.zero_le _⟩ dX3_halve_48 (fun r_7 s_8 H locs e_9 hH => ?_)
        refine lv_goto (tgt := 61) hx hb dX3_halve_51 (by decide) ?_
        exact x_iretX F hr hlk hH (by simp only [f_X3_halve, if_pos c_1, if_pos c_2, if_neg c_3, e_9]) dX3_halve_61
    · refine lv_bipush (v := -12) hx hb dX3_halve_14 (by decide) ?_
      exact x_iretX F hr hlk hH (by simp only [f_X3_halve, if_pos c_1, if_neg c_2]) dX3_halve_16
set_option maxRecDepth 100000 in
set_option maxHeartbeats 4000000 in
theorem lp_X3_tillsThere {p : Program} {l : Launch} {e : Env} {s : State} {m : MethodId} {args : Array Value} {below : List Frame} {meth : Method} {c : Code} {Q : State → Prop} {E : EV} (F : Fx E p s m args c cX3_tillsThere RX3 3) : ∀ (n : Nat) (k : Nat) (acc : Int32) (σ μ : St) (H : Heap) (locs : List Loc) (ls : Array Slot), k + n = 8 → HS E s σ μ H locs → lv_has ls 3 [(0, .ref (ea E 0)), (1, .int acc), (2, .int (nI k))] → (∀ (H : Heap) (locs : List Loc) (ls : Array Slot), HS E s σ μ H locs → lv_has ls 3 [(0, .ref (ea E 0)), (1, .int (thereL σ n k acc)), (2, .int (nI 8))] → W p l e (rmL 0) s m args below meth c H locs 0 0 Q (F0 m 31 ls [])) → W p l e (rmL 0) s m args below meth c H locs 0 0 Q (F0 m 4 ls []) := by
  have hx := F.hx
  have hb := F.hb
  intro n
  induction n with
  | zero =>
    intro k acc σ μ H locs ls hn hH hl hk
    obtain rfl : k = 8 := by omega
    refine lv_iload_n hx hb dX3_tillsThere_4 rfl (lv_at hl 2 rfl) ?_
    refine lv_bipush (v := 8) hx hb dX3_tillsThere_5 (by decide) ?_
    refine lv_icmp_ge (tgt := 31) hx hb dX3_tillsThere_7 (by decide) (fun _ => ?_) (fun c_1 => absurd (by decide) c_1)
    simp only [thereL] at hk
    exact hk H locs ls hH (lv_sub hl [0, 1, 2] rfl)
  | succ n ih =>
    intro k acc σ μ H locs ls hn hH hl hk
    refine lv_iload_n hx hb dX3_tillsThere_4 rfl (lv_at hl 2 rfl) ?_
    refine lv_bipush (v := 8) hx hb dX3_tillsThere_5 (by decide) ?_
    refine lv_icmp_ge (tgt := 31) hx hb dX3_tillsThere_7 (by decide) (fun c_1 => absurd c_1 (nI_ge (show k < 8 by omega) (by decide))) (fun _ => ?_)
    refine lv_aload_n hx hb dX3_tillsThere_10 rfl (lv_at hl 0 rfl) ?_
    refine g_X3_tills F hH kw_98 dX3_tillsThere_11 ?_
    refine lv_iload_n hx hb dX3_tillsThere_14 rfl (lv_at hl 2 rfl) ?_
    refine a_tills F hH k (by omega) dX3_tillsThere_15 ?_
    refine g_X2_isThere F hH (t := k) (by omega) kw_59 dX3_tillsThere_16 ?_
    refine lv_if_eq (tgt := 25) hx hb dX3_tillsThere_19 (by decide) (fun c_2 => ?_) (fun c_2 => ?_)
    · refine lv_iinc (v := nI (k + 1)) (lv' := [(2, .int (nI (k + 1))), (0, .ref (ea E 0)), (1, .int acc)]) hx hb dX3_tillsThere_25 hl (k := 2) rfl (nI_1 k) (by decide) rfl (fun ls hl => ?_)
      refine lv_goto (tgt := 4) hx hb dX3_tillsThere_28 (by decide) ?_
      simp only [thereL, if_pos c_2] at hk
      exact ih (k + 1) acc σ μ H locs ls (by omega) hH (lv_sub hl [1, 2, 0] rfl) hk
    · refine lv_iinc (v := acc + 1) (lv' := [(1, .int (acc + 1)), (0, .ref (ea E 0)), (2, .int (nI k))]) hx hb dX3_tillsThere_22 hl (k := 1) rfl rfl (by decide) rfl (fun ls hl => ?_)
      refine lv_iinc (v := nI (k + 1)) (lv' := [(2, .int (nI (k + 1))), (1, .int (acc + 1)), (0, .ref (ea E 0))]) hx hb dX3_tillsThere_25 hl (k := 2) rfl (nI_1 k) (by decide) rfl (fun ls hl => ?_)
      refine lv_goto (tgt := 4) hx hb dX3_tillsThere_28 (by decide) ?_
      simp only [thereL, if_neg c_2] at hk
      exact ih (k + 1) (acc + 1) σ μ H locs ls (by omega) hH (lv_sub hl [2, 1, 0] rfl) hk
set_option maxRecDepth 100000 in
set_option maxHeartbeats 4000000 in
theorem c_X3_tillsThere (l : Launch) {E : EV} (hA : AD E) (σ μ : St) : Met l yX3_tillsThere (.code yX3_tillsThere cX3_tillsThere 3 (some .int) :: gtbl) (rmL 0) (va_Pc [.ref (ea E 0)] (PR E σ μ)) (QI E (thereL σ 8 0 0) σ μ) 0 0 (eA E) := by
  refine x_met (own := RX3) (by decide) rfl hA (Nat.le_of_ble_eq_true rfl) ?_
  intro p e s m below meth c ls F hr hlk hH hl
  have hl : lv_has ls 3 [(0, .ref (ea E 0))] := hl
  have hx := F.hx
  have hb := F.hb
  refine lv_iconst (v := 0) hx hb dX3_tillsThere_0 (by decide) ?_
  refine lv_istore_n (lv' := [(1, .int 0), (0, .ref (ea E 0))]) hx hb dX3_tillsThere_1 rfl hl (by decide) rfl (fun ls hl => ?_)
  refine lv_iconst (v := 0) hx hb dX3_tillsThere_2 (by decide) ?_
  refine lv_istore_n (lv' := [(2, .int 0), (1, .int 0), (0, .ref (ea E 0))]) hx hb dX3_tillsThere_3 rfl hl (by decide) rfl (fun ls hl => ?_)
  refine lp_X3_tillsThere F 8 0 0 σ μ _ _ ls (by omega) hH (lv_sub hl [2, 1, 0] rfl) (fun H locs ls hH hl => ?_)
  refine lv_iload_n hx hb dX3_tillsThere_31 rfl (lv_at hl 1 rfl) ?_
  exact x_iretR F hr hlk hH rfl dX3_tillsThere_32
set_option maxRecDepth 100000 in
set_option maxHeartbeats 4000000 in
theorem lp_X3_digitsOf {p : Program} {l : Launch} {e : Env} {s : State} {m : MethodId} {args : Array Value} {below : List Frame} {meth : Method} {c : Code} (hx : p.tables.exec = Jvm.exec) (hb : c.code = cX3_digitsOf) (hr : meth.sig.returnType = some .int) (hlk : meth.locks = false) (row : Int32) : ∀ (n : Nat) (k : Nat) (nx : Int32) (ls : Array Slot), k + n = 6 → lv_has ls 3 [(0, .int row), (2, .int nx), (1, .int (nI k))] → W p l e (rmL 0) s m args below meth c s.heap [] 0 0 (MQ below (QcRead (nI (dgL row n k nx))) args s 0 0 (fun _ => False)) (F0 m 5 ls []) := by
  intro n
  induction n with
  | zero =>
    intro k nx ls hn hl
    obtain rfl : k = 6 := by omega
    refine lv_iload_n hx hb dX3_digitsOf_5 rfl (lv_at hl 2 rfl) ?_
    refine lv_bipush (v := 6) hx hb dX3_digitsOf_6 (by decide) ?_
    refine lv_icmp_ge (tgt := 27) hx hb dX3_digitsOf_8 (by decide) (fun _ => ?_) (fun c_1 => absurd (by decide) c_1)
    refine lv_iload_n hx hb dX3_digitsOf_27 rfl (lv_at hl 2 rfl) ?_
    exact x_pret hx hb hr hlk (by simp only [dgL]) dX3_digitsOf_28
  | succ n ih =>
    intro k nx ls hn hl
    refine lv_iload_n hx hb dX3_digitsOf_5 rfl (lv_at hl 2 rfl) ?_
    refine lv_bipush (v := 6) hx hb dX3_digitsOf_6 (by decide) ?_
    refine lv_icmp_ge (tgt := 27) hx hb dX3_digitsOf_8 (by decide) (fun c_1 => absurd c_1 (nI_ge (show k < 6 by omega) (by decide))) (fun _ => ?_)
    refine lv_iload_n hx hb dX3_digitsOf_11 rfl (lv_at hl 0 rfl) ?_
    refine lv_iload_n hx hb dX3_digitsOf_12 rfl (lv_at hl 1 rfl) ?_
    refine lv_icmp_lt (tgt := 27) hx hb dX3_digitsOf_13 (by decide) (fun c_2 => ?_) (fun c_2 => ?_)
    · refine lv_iload_n hx hb dX3_digitsOf_27 rfl (lv_at hl 2 rfl) ?_
      exact x_pret hx hb hr hlk (by simp only [dgL, if_pos c_2]) dX3_digitsOf_28
    · refine lv_iinc (v := nI (k + 1)) (lv' := [(1, .int (nI (k + 1))), (0, .int row), (2, .int nx)]) hx hb dX3_digitsOf_16 hl (k := 2) rfl (nI_1 k) (by decide) rfl (fun ls hl => ?_)
      refine lv_iload_n hx hb dX3_digitsOf_19 rfl (lv_at hl 2 rfl) ?_
      refine lv_bipush (v := 10) hx hb dX3_digitsOf_20 (by decide) ?_
      refine lv_imul hx hb dX3_digitsOf_22 ?_
      refine lv_istore_n (lv' := [(2, .int (nx * 10)), (1, .int (nI (k + 1))), (0, .int row)]) hx hb dX3_digitsOf_23 rfl hl (by decide) rfl (fun ls hl => ?_)
      refine lv_goto (tgt := 5) hx hb dX3_digitsOf_24 (by decide) ?_
      rw [show nI (dgL row (n + 1) k nx) = nI (dgL row n (k + 1) (nx * 10)) from (by simp only [dgL, if_neg c_2])]
      exact ih (k + 1) (nx * 10) ls (by omega) (lv_sub hl [2, 0, 1] rfl)
set_option maxRecDepth 100000 in
set_option maxHeartbeats 4000000 in
theorem c_X3_digitsOf (l : Launch) (row : Int32) : Met l yX3_digitsOf (.code yX3_digitsOf cX3_digitsOf 3 (some .int) :: gtbl) (rmL 0) (PS [.int row]) (QcRead (nI (dgL row 5 1 10))) 0 0 (fun _ => False) := by
  refine x_metS (by decide) (Nat.le_of_ble_eq_true rfl) ?_
  intro p e s m below meth c ls hx hb hml hown hts hr hlk hl
  have hl : lv_has ls 3 [(0, .int row)] := hl
  refine lv_iconst (v := 1) hx hb dX3_digitsOf_0 (by decide) ?_
  refine lv_istore_n (lv' := [(1, .int 1), (0, .int row)]) hx hb dX3_digitsOf_1 rfl hl (by decide) rfl (fun ls hl => ?_)
  refine lv_bipush (v := 10) hx hb dX3_digitsOf_2 (by decide) ?_
  refine lv_istore_n (lv' := [(2, .int 10), (1, .int 1), (0, .int row)]) hx hb dX3_digitsOf_4 rfl hl (by decide) rfl (fun ls hl => ?_)
  exact lp_X3_digitsOf hx hb hr hlk row 5 1 10 ls (by omega) (lv_sub hl [2, 0, 1] rfl)
