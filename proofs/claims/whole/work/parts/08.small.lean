theorem pos_ne {x : Int32} (h : ¬ x ≤ 0) : ¬ x = 0 := by
  rintro rfl
  exact h (by decide)
def f_X3_isUpTo (num : Int32) (most : Int32) : Int32 :=
  if num < 0 then
    0
  else
    if most < num then
      0
    else
      1
set_option maxRecDepth 100000 in
set_option maxHeartbeats 4000000 in
theorem c_X3_isUpTo (l : Launch) (num : Int32) (most : Int32) : Met l yX3_isUpTo (.code yX3_isUpTo cX3_isUpTo 2 (some .boolean) :: gtbl) (rmL 0) (PS [.int num, .int most]) (QcRead (f_X3_isUpTo num most)) 0 0 (fun _ => False) := by
  refine x_metS (by decide) (Nat.le_of_ble_eq_true rfl) ?_
  intro p e s m below meth c ls hx hb hml hown hts hr hlk hl
  have hl : lv_has ls 2 [(0, .int num), (1, .int most)] := hl
  refine lv_iload_n hx hb dX3_isUpTo_0 rfl (lv_at hl 0 rfl) ?_
  refine lv_if_lt (tgt := 13) hx hb dX3_isUpTo_1 (by decide) (fun c_1 => ?_) (fun c_1 => ?_)
  · refine lv_iconst (v := 0) hx hb dX3_isUpTo_13 (by decide) ?_
    exact x_pretZ hx hb hr hlk rfl (by simp only [f_X3_isUpTo, if_pos c_1]) dX3_isUpTo_14
  · refine lv_iload_n hx hb dX3_isUpTo_4 rfl (lv_at hl 0 rfl) ?_
    refine lv_iload_n hx hb dX3_isUpTo_5 rfl (lv_at hl 1 rfl) ?_
    refine lv_icmp_gt (tgt := 13) hx hb dX3_isUpTo_6 (by decide) (fun c_2 => ?_) (fun c_2 => ?_)
    · refine lv_iconst (v := 0) hx hb dX3_isUpTo_13 (by decide) ?_
      exact x_pretZ hx hb hr hlk rfl (by simp only [f_X3_isUpTo, if_neg c_1, if_pos c_2]) dX3_isUpTo_14
    · refine lv_iconst (v := 1) hx hb dX3_isUpTo_9 (by decide) ?_
      refine lv_goto (tgt := 14) hx hb dX3_isUpTo_10 (by decide) ?_
      exact x_pretZ hx hb hr hlk rfl (by simp only [f_X3_isUpTo, if_neg c_1, if_neg c_2]) dX3_isUpTo_14
def f_X3_isTill (t : Int32) : Int32 :=
  if t < 0 then
    0
  else
    if 8 ≤ t then
      0
    else
      1
set_option maxRecDepth 100000 in
set_option maxHeartbeats 4000000 in
theorem c_X3_isTill (l : Launch) (t : Int32) : Met l yX3_isTill (.code yX3_isTill cX3_isTill 1 (some .boolean) :: gtbl) (rmL 0) (PS [.int t]) (QcRead (f_X3_isTill t)) 0 0 (fun _ => False) := by
  refine x_metS (by decide) (Nat.le_of_ble_eq_true rfl) ?_
  intro p e s m below meth c ls hx hb hml hown hts hr hlk hl
  have hl : lv_has ls 1 [(0, .int t)] := hl
  refine lv_iload_n hx hb dX3_isTill_0 rfl (lv_at hl 0 rfl) ?_
  refine lv_if_lt (tgt := 14) hx hb dX3_isTill_1 (by decide) (fun c_1 => ?_) (fun c_1 => ?_)
  · refine lv_iconst (v := 0) hx hb dX3_isTill_14 (by decide) ?_
    exact x_pretZ hx hb hr hlk rfl (by simp only [f_X3_isTill, if_pos c_1]) dX3_isTill_15
  · refine lv_iload_n hx hb dX3_isTill_4 rfl (lv_at hl 0 rfl) ?_
    refine lv_bipush (v := 8) hx hb dX3_isTill_5 (by decide) ?_
    refine lv_icmp_ge (tgt := 14) hx hb dX3_isTill_7 (by decide) (fun c_2 => ?_) (fun c_2 => ?_)
    · refine lv_iconst (v := 0) hx hb dX3_isTill_14 (by decide) ?_
      exact x_pretZ hx hb hr hlk rfl (by simp only [f_X3_isTill, if_neg c_1, if_pos c_2]) dX3_isTill_15
    · refine lv_iconst (v := 1) hx hb dX3_isTill_10 (by decide) ?_
      refine lv_goto (tgt := 15) hx hb dX3_isTill_11 (by decide) ?_
      exact x_pretZ hx hb hr hlk rfl (by simp only [f_X3_isTill, if_neg c_1, if_neg c_2]) dX3_isTill_15
def f_X3_isKind (kind : Int32) : Int32 :=
  if kind < 0 then
    0
  else
    if 5 ≤ kind then
      0
    else
      1
set_option maxRecDepth 100000 in
set_option maxHeartbeats 4000000 in
theorem c_X3_isKind (l : Launch) (kind : Int32) : Met l yX3_isKind (.code yX3_isKind cX3_isKind 1 (some .boolean) :: gtbl) (rmL 0) (PS [.int kind]) (QcRead (f_X3_isKind kind)) 0 0 (fun _ => False) := by
  refine x_metS (by decide) (Nat.le_of_ble_eq_true rfl) ?_
  intro p e s m below meth c ls hx hb hml hown hts hr hlk hl
  have hl : lv_has ls 1 [(0, .int kind)] := hl
  refine lv_iload_n hx hb dX3_isKind_0 rfl (lv_at hl 0 rfl) ?_
  refine lv_if_lt (tgt := 13) hx hb dX3_isKind_1 (by decide) (fun c_1 => ?_) (fun c_1 => ?_)
  · refine lv_iconst (v := 0) hx hb dX3_isKind_13 (by decide) ?_
    exact x_pretZ hx hb hr hlk rfl (by simp only [f_X3_isKind, if_pos c_1]) dX3_isKind_14
  · refine lv_iload_n hx hb dX3_isKind_4 rfl (lv_at hl 0 rfl) ?_
    refine lv_iconst (v := 5) hx hb dX3_isKind_5 (by decide) ?_
    refine lv_icmp_ge (tgt := 13) hx hb dX3_isKind_6 (by decide) (fun c_2 => ?_) (fun c_2 => ?_)
    · refine lv_iconst (v := 0) hx hb dX3_isKind_13 (by decide) ?_
      exact x_pretZ hx hb hr hlk rfl (by simp only [f_X3_isKind, if_neg c_1, if_pos c_2]) dX3_isKind_14
    · refine lv_iconst (v := 1) hx hb dX3_isKind_9 (by decide) ?_
      refine lv_goto (tgt := 14) hx hb dX3_isKind_10 (by decide) ?_
      exact x_pretZ hx hb hr hlk rfl (by simp only [f_X3_isKind, if_neg c_1, if_neg c_2]) dX3_isKind_14
def f_X3_howOftenIn (rest : Int32) (worth : Int32) : Int32 :=
  if worth ≤ 0 then
    0
  else
    (rest / worth)
set_option maxRecDepth 100000 in
set_option maxHeartbeats 4000000 in
theorem c_X3_howOftenIn (l : Launch) (rest : Int32) (worth : Int32) : Met l yX3_howOftenIn (.code yX3_howOftenIn cX3_howOftenIn 2 (some .int) :: gtbl) (rmL 0) (PS [.int rest, .int worth]) (QcRead (f_X3_howOftenIn rest worth)) 0 0 (fun _ => False) := by
  refine x_metS (by decide) (Nat.le_of_ble_eq_true rfl) ?_
  intro p e s m below meth c ls hx hb hml hown hts hr hlk hl
  have hl : lv_has ls 2 [(0, .int rest), (1, .int worth)] := hl
  refine lv_iload_n hx hb dX3_howOftenIn_0 rfl (lv_at hl 1 rfl) ?_
  refine lv_if_le (tgt := 10) hx hb dX3_howOftenIn_1 (by decide) (fun c_1 => ?_) (fun c_1 => ?_)
  · refine lv_iconst (v := 0) hx hb dX3_howOftenIn_10 (by decide) ?_
    exact x_pret hx hb hr hlk (by simp only [f_X3_howOftenIn, if_pos c_1]) dX3_howOftenIn_11
  · refine lv_iload_n hx hb dX3_howOftenIn_4 rfl (lv_at hl 0 rfl) ?_
    refine lv_iload_n hx hb dX3_howOftenIn_5 rfl (lv_at hl 1 rfl) ?_
    refine lv_idiv hx hb dX3_howOftenIn_6 (pos_ne c_1) ?_
    refine lv_goto (tgt := 11) hx hb dX3_howOftenIn_7 (by decide) ?_
    exact x_pret hx hb hr hlk (by simp only [f_X3_howOftenIn, if_neg c_1]) dX3_howOftenIn_11
def f_X4_in (v : Int32) (low : Int32) (high : Int32) : Int32 :=
  if v < low then
    0
  else
    if high < v then
      0
    else
      1
set_option maxRecDepth 100000 in
set_option maxHeartbeats 4000000 in
theorem c_X4_in (l : Launch) (v : Int32) (low : Int32) (high : Int32) : Met l yX4_in (.code yX4_in cX4_in 3 (some .boolean) :: gtbl) (rmL 0) (PS [.int v, .int low, .int high]) (QcRead (f_X4_in v low high)) 0 0 (fun _ => False) := by
  refine x_metS (by decide) (Nat.le_of_ble_eq_true rfl) ?_
  intro p e s m below meth c ls hx hb hml hown hts hr hlk hl
  have hl : lv_has ls 3 [(0, .int v), (1, .int low), (2, .int high)] := hl
  refine lv_iload_n hx hb dX4_in_0 rfl (lv_at hl 0 rfl) ?_
  refine lv_iload_n hx hb dX4_in_1 rfl (lv_at hl 1 rfl) ?_
  refine lv_icmp_lt (tgt := 14) hx hb dX4_in_2 (by decide) (fun c_1 => ?_) (fun c_1 => ?_)
  · refine lv_iconst (v := 0) hx hb dX4_in_14 (by decide) ?_
    exact x_pretZ hx hb hr hlk rfl (by simp only [f_X4_in, if_pos c_1]) dX4_in_15
  · refine lv_iload_n hx hb dX4_in_5 rfl (lv_at hl 0 rfl) ?_
    refine lv_iload_n hx hb dX4_in_6 rfl (lv_at hl 2 rfl) ?_
    refine lv_icmp_gt (tgt := 14) hx hb dX4_in_7 (by decide) (fun c_2 => ?_) (fun c_2 => ?_)
    · refine lv_iconst (v := 0) hx hb dX4_in_14 (by decide) ?_
      exact x_pretZ hx hb hr hlk rfl (by simp only [f_X4_in, if_neg c_1, if_pos c_2]) dX4_in_15
    · refine lv_iconst (v := 1) hx hb dX4_in_10 (by decide) ?_
      refine lv_goto (tgt := 15) hx hb dX4_in_11 (by decide) ?_
      exact x_pretZ hx hb hr hlk rfl (by simp only [f_X4_in, if_neg c_1, if_neg c_2]) dX4_in_15
def f_X4_worthOf (kind : Int32) : Int32 :=
  if kind = 0 then
    1
  else
    if kind = 1 then
      2
    else
      if kind = 2 then
        5
      else
        if kind = 3 then
          10
        else
          20
set_option maxRecDepth 100000 in
set_option maxHeartbeats 4000000 in
theorem c_X4_worthOf (l : Launch) (kind : Int32) : Met l yX4_worthOf (.code yX4_worthOf cX4_worthOf 1 (some .int) :: gtbl) (rmL 0) (PS [.int kind]) (QcRead (f_X4_worthOf kind)) 0 0 (fun _ => False) := by
  refine x_metS (by decide) (Nat.le_of_ble_eq_true rfl) ?_
  intro p e s m below meth c ls hx hb hml hown hts hr hlk hl
  have hl : lv_has ls 1 [(0, .int kind)] := hl
  refine lv_iload_n hx hb dX4_worthOf_0 rfl (lv_at hl 0 rfl) ?_
  refine lv_if_ne (tgt := 8) hx hb dX4_worthOf_1 (by decide) (fun c_1 => ?_) (fun c_1 => ?_)
  · refine lv_iload_n hx hb dX4_worthOf_8 rfl (lv_at hl 0 rfl) ?_
    refine lv_iconst (v := 1) hx hb dX4_worthOf_9 (by decide) ?_
    refine lv_icmp_ne (tgt := 17) hx hb dX4_worthOf_10 (by decide) (fun c_2 => ?_) (fun c_2 => ?_)
    · refine lv_iload_n hx hb dX4_worthOf_17 rfl (lv_at hl 0 rfl) ?_
      refine lv_iconst (v := 2) hx hb dX4_worthOf_18 (by decide) ?_
      refine lv_icmp_ne (tgt := 26) hx hb dX4_worthOf_19 (by decide) (fun c_3 => ?_) (fun c_3 => ?_)
      · refine lv_iload_n hx hb dX4_worthOf_26 rfl (lv_at hl 0 rfl) ?_
        refine lv_iconst (v := 3) hx hb dX4_worthOf_27 (by decide) ?_
        refine lv_icmp_ne (tgt := 36) hx hb dX4_worthOf_28 (by decide) (fun c_4 => ?_) (fun c_4 => ?_)
        · refine lv_bipush (v := 20) hx hb dX4_worthOf_36 (by decide) ?_
          exact x_pret hx hb hr hlk (by simp only [f_X4_worthOf, if_neg c_1, if_neg c_2, if_neg c_3, if_neg c_4]) dX4_worthOf_38
        · refine lv_bipush (v := 10) hx hb dX4_worthOf_31 (by decide) ?_
          refine lv_goto (tgt := 38) hx hb dX4_worthOf_33 (by decide) ?_
          exact x_pret hx hb hr hlk (by simp only [f_X4_worthOf, if_neg c_1, if_neg c_2, if_neg c_3, if_pos c_4]) dX4_worthOf_38
      · refine lv_iconst (v := 5) hx hb dX4_worthOf_22 (by decide) ?_
        refine lv_goto (tgt := 38) hx hb dX4_worthOf_23 (by decide) ?_
        exact x_pret hx hb hr hlk (by simp only [f_X4_worthOf, if_neg c_1, if_neg c_2, if_pos c_3]) dX4_worthOf_38
    · refine lv_iconst (v := 2) hx hb dX4_worthOf_13 (by decide) ?_
      refine lv_goto (tgt := 38) hx hb dX4_worthOf_14 (by decide) ?_
      exact x_pret hx hb hr hlk (by simp only [f_X4_worthOf, if_neg c_1, if_pos c_2]) dX4_worthOf_38
  · refine lv_iconst (v := 1) hx hb dX4_worthOf_4 (by decide) ?_
    refine lv_goto (tgt := 38) hx hb dX4_worthOf_5 (by decide) ?_
    exact x_pret hx hb hr hlk (by simp only [f_X4_worthOf, if_pos c_1]) dX4_worthOf_38
def f_X4_told (fl : Int32) (ans : Int32) : Int32 :=
  if fl = 0 then
    ans
  else
    ((-10) - fl)
set_option maxRecDepth 100000 in
set_option maxHeartbeats 4000000 in
theorem c_X4_told (l : Launch) (fl : Int32) (ans : Int32) : Met l yX4_told (.code yX4_told cX4_told 2 (some .int) :: gtbl) (rmL 0) (PS [.int fl, .int ans]) (QcRead (f_X4_told fl ans)) 0 0 (fun _ => False) := by
  refine x_metS (by decide) (Nat.le_of_ble_eq_true rfl) ?_
  intro p e s m below meth c ls hx hb hml hown hts hr hlk hl
  have hl : lv_has ls 2 [(0, .int fl), (1, .int ans)] := hl
  refine lv_iload_n hx hb dX4_told_0 rfl (lv_at hl 0 rfl) ?_
  refine lv_if_ne (tgt := 8) hx hb dX4_told_1 (by decide) (fun c_1 => ?_) (fun c_1 => ?_)
  · refine lv_bipush (v := -10) hx hb dX4_told_8 (by decide) ?_
    refine lv_iload_n hx hb dX4_told_10 rfl (lv_at hl 0 rfl) ?_
    refine lv_isub hx hb dX4_told_11 ?_
    exact x_pret hx hb hr hlk (by simp only [f_X4_told, if_neg c_1]) dX4_told_12
  · refine lv_iload_n hx hb dX4_told_4 rfl (lv_at hl 1 rfl) ?_
    refine lv_goto (tgt := 12) hx hb dX4_told_5 (by decide) ?_
    exact x_pret hx hb hr hlk (by simp only [f_X4_told, if_pos c_1]) dX4_told_12
theorem X4_in_nar (v a b : Int32) : narrow .boolean (.int (f_X4_in v a b)) = .int (f_X4_in v a b) := by
  unfold f_X4_in
  repeat' (first | rfl | split)
def f_X4_isTill (t : Int32) : Int32 :=
  f_X4_in t 0 7
set_option maxRecDepth 100000 in
set_option maxHeartbeats 4000000 in
theorem c_X4_isTill (l : Launch) (t : Int32) : Met l yX4_isTill (.code yX4_isTill cX4_isTill 1 (some .boolean) :: gtbl) (rmL 1) (PS [.int t]) (QcRead (f_X4_isTill t)) 0 0 (fun _ => False) := by
  refine x_metS (by decide) (Nat.le_of_ble_eq_true rfl) ?_
  intro p e s m below meth c ls hx hb hml hown hts hr hlk hl
  have hl : lv_has ls 1 [(0, .int t)] := hl
  refine lv_iload_n hx hb dX4_isTill_0 rfl (lv_at hl 0 rfl) ?_
  refine lv_iconst (v := 0) hx hb dX4_isTill_1 (by decide) ?_
  refine lv_bipush (v := 7) hx hb dX4_isTill_2 (by decide) ?_
  refine x_pure hx hb hml hown hts (c_X4_in l t 0 7) cw_X4_33 rfl rfl ⟨Nat.le_of_ble_eq_true rfl, Nat.le_of_ble_eq_true rfl⟩ rfl hl.1 rfl (Nat.le_of_ble_eq_true rfl) ⟨Nat.zero_le _, Nat.zero_le _⟩ dX4_isTill_4 ?_
  exact x_pretZ hx hb hr hlk (X4_in_nar _ _ _) (by simp only [f_X4_isTill]) dX4_isTill_7
def f_X1_begin (σ : St) : St :=
  (up (up (up σ 20 0 ((σ 20 0) + 1)) 20 2 (((up σ 20 0 ((σ 20 0) + 1)) 20 2) + 1)) 20 3 (if ((up (up σ 20 0 ((σ 20 0) + 1)) 20 2 (((up σ 20 0 ((σ 20 0) + 1)) 20 2) + 1)) 20 3) < ((up (up σ 20 0 ((σ 20 0) + 1)) 20 2 (((up σ 20 0 ((σ 20 0) + 1)) 20 2) + 1)) 20 2) then (up (up σ 20 0 ((σ 20 0) + 1)) 20 2 (((up σ 20 0 ((σ 20 0) + 1)) 20 2) + 1)) 20 2 else (up (up σ 20 0 ((σ 20 0) + 1)) 20 2 (((up σ 20 0 ((σ 20 0) + 1)) 20 2) + 1)) 20 3))
set_option maxRecDepth 100000 in
set_option maxHeartbeats 4000000 in
theorem c_X1_begin (l : Launch) {E : EV} (hA : AD E) (σ μ : St) : Met l yX1_begin (.code yX1_begin cX1_begin 1 none :: gtbl) (rmL 1) (va_Pc [.ref (ea E 2)] (PR E σ μ)) (QV E (f_X1_begin σ) μ) 0 0 (eA E) := by
  refine x_met (own := RX1) (by decide) rfl hA (Nat.le_of_ble_eq_true rfl) ?_
  intro p e s m below meth c ls F hr hlk hH hl
  have hl : lv_has ls 1 [(0, .ref (ea E 2))] := hl
  have hx := F.hx
  have hb := F.hb
  refine lv_aload_n hx hb dX1_begin_0 rfl (lv_at hl 0 rfl) ?_
  refine lv_dup hx hb dX1_begin_1 rfl ?_
  refine g_X1_begun F hH kw_81 dX1_begin_2 ?_
  refine lv_iconst (v := 1) hx hb dX1_begin_5 (by decide) ?_
  refine lv_iadd hx hb dX1_begin_6 ?_
  refine p_X1_begun F hH kw_81 dX1_begin_7 (fun H locs hH => ?_)
  refine lv_aload_n hx hb dX1_begin_10 rfl (lv_at hl 0 rfl) ?_
  refine lv_dup hx hb dX1_begin_11 rfl ?_
  refine g_X1_depth F hH kw_85 dX1_begin_12 ?_
  refine lv_iconst (v := 1) hx hb dX1_begin_15 (by decide) ?_
  refine lv_iadd hx hb dX1_begin_16 ?_
  refine p_X1_depth F hH kw_85 dX1_begin_17 (fun H locs hH => ?_)
  refine lv_aload_n hx hb dX1_begin_20 rfl (lv_at hl 0 rfl) ?_
  refine lv_aload_n hx hb dX1_begin_21 rfl (lv_at hl 0 rfl) ?_
  refine g_X1_deepest F hH kw_86 dX1_begin_22 ?_
  refine lv_aload_n hx hb dX1_begin_25 rfl (lv_at hl 0 rfl) ?_
  refine g_X1_depth F hH kw_85 dX1_begin_26 ?_
  refine va_mmax hx hb (by rw [F.hml]; exact hl.1.symm) F.hown (F.hts _ kw_150) (F.hts _ kw_151) (F.hts _ kw_29) (F.hts _ kw_152) (Nat.le_of_ble_eq_true rfl) (Nat.le_of_ble_eq_true rfl) (Nat.zero_le _) (Nat.zero_le _) dX1_begin_29 ?_
  refine p_X1_deepest F hH kw_86 dX1_begin_32 (fun H locs hH => ?_)
  exact x_vret F hr hlk hH (by simp only [f_X1_begin]) rfl dX1_begin_35
def f_X1_end (σ : St) (fa : Int32) : St :=
  if (bz fa) = 0 then
    (up σ 20 2 ((σ 20 2) - 1))
  else
    (up (up σ 20 2 ((σ 20 2) - 1)) 20 1 (((up σ 20 2 ((σ 20 2) - 1)) 20 1) + 1))
set_option maxRecDepth 100000 in
set_option maxHeartbeats 4000000 in
theorem c_X1_end (l : Launch) {E : EV} (hA : AD E) (σ μ : St) (fa : Int32) : Met l yX1_end (.code yX1_end cX1_end 2 none :: gtbl) (rmL 0) (va_Pc [.ref (ea E 2), .int (bz fa)] (PR E σ μ)) (QV E (f_X1_end σ fa) μ) 0 0 (eA E) := by
  refine x_met (own := RX1) (by decide) rfl hA (Nat.le_of_ble_eq_true rfl) ?_
  intro p e s m below meth c ls F hr hlk hH hl
  have hl : lv_has ls 2 [(0, .ref (ea E 2)), (1, .int (bz fa))] := hl
  have hx := F.hx
  have hb := F.hb
  refine lv_aload_n hx hb dX1_end_0 rfl (lv_at hl 0 rfl) ?_
  refine lv_dup hx hb dX1_end_1 rfl ?_
  refine g_X1_depth F hH kw_85 dX1_end_2 ?_
  refine lv_iconst (v := 1) hx hb dX1_end_5 (by decide) ?_
  refine lv_isub hx hb dX1_end_6 ?_
  refine p_X1_depth F hH kw_85 dX1_end_7 (fun H locs hH => ?_)
  refine lv_iload_n hx hb dX1_end_10 rfl (lv_at hl 1 rfl) ?_
  refine lv_if_eq (tgt := 24) hx hb dX1_end_11 (by decide) (fun c_1 => ?_) (fun c_1 => ?_)
  · exact x_vret F hr hlk hH (by simp only [f_X1_end, if_pos c_1]) rfl dX1_end_24
  · refine lv_aload_n hx hb dX1_end_14 rfl (lv_at hl 0 rfl) ?_
    refine lv_dup hx hb dX1_end_15 rfl ?_
    refine g_X1_left F hH kw_83 dX1_end_16 ?_
    refine lv_iconst (v := 1) hx hb dX1_end_19 (by decide) ?_
    refine lv_iadd hx hb dX1_end_20 ?_
    refine p_X1_left F hH kw_83 dX1_end_21 (fun H locs hH => ?_)
    exact x_vret F hr hlk hH (by simp only [f_X1_end, if_neg c_1]) rfl dX1_end_24
theorem tn_toInt {x : Int32} (h : ¬ x < 0) : (tn x : Int) = x.toInt := by
  have h1 : ¬ x.toInt < 0 := by simpa [Int32.lt_iff_toInt_lt] using h
  show ((x.toInt.toNat : Nat) : Int) = x.toInt
  omega
theorem nI_tn {x : Int32} (h : ¬ x < 0) : x = nI (tn x) := by
  obtain ⟨j, hj, rfl⟩ := nI_of h
  rw [tn, nI_clamp hj]
theorem tn_le {x m : Int32} {M : Nat} (hm : m = nI M) (hM : M < 2 ^ 31) (h0 : ¬ x < 0) (h : ¬ m < x) : tn x ≤ M := by
  have h1 := tn_toInt h0
  rw [hm, Int32.lt_iff_toInt_lt, nI_toInt hM] at h
  omega
theorem X3_isUpTo_n {x m : Int32} {M : Nat} (hm : m = nI M) (hM : M < 2 ^ 31) (h : ¬ f_X3_isUpTo x m = 0) : x = nI (tn x) ∧ tn x ≤ M := by
  unfold f_X3_isUpTo at h
  by_cases h0 : x < 0
  · rw [if_pos h0] at h; exact absurd rfl h
  · rw [if_neg h0] at h
    by_cases h1 : m < x
    · rw [if_pos h1] at h; exact absurd rfl h
    · exact ⟨nI_tn h0, tn_le hm hM h0 h1⟩
theorem X3_isTill_n {x : Int32} (h : ¬ f_X3_isTill x = 0) : x = nI (tn x) ∧ tn x < 8 := by
  unfold f_X3_isTill at h
  by_cases h0 : x < 0
  · rw [if_pos h0] at h; exact absurd rfl h
  · rw [if_neg h0] at h
    by_cases h1 : 8 ≤ x
    · rw [if_pos h1] at h; exact absurd rfl h
    · refine ⟨nI_tn h0, ?_⟩
      have h2 := tn_toInt h0
      rw [Int32.le_iff_toInt_le, show (8 : Int32).toInt = 8 from rfl] at h1
      omega
theorem X3_isKind_n {x : Int32} (h : ¬ f_X3_isKind x = 0) : x = nI (tn x) ∧ tn x < 5 := by
  unfold f_X3_isKind at h
  by_cases h0 : x < 0
  · rw [if_pos h0] at h; exact absurd rfl h
  · rw [if_neg h0] at h
    by_cases h1 : 5 ≤ x
    · rw [if_pos h1] at h; exact absurd rfl h
    · refine ⟨nI_tn h0, ?_⟩
      have h2 := tn_toInt h0
      rw [Int32.le_iff_toInt_le, show (5 : Int32).toInt = 5 from rfl] at h1
      omega
theorem X4_in_n {x m : Int32} {M : Nat} (hm : m = nI M) (hM : M < 2 ^ 31) (h : ¬ f_X4_in x 0 m = 0) : x = nI (tn x) ∧ tn x ≤ M := by
  unfold f_X4_in at h
  by_cases h0 : x < 0
  · rw [if_pos h0] at h; exact absurd rfl h
  · rw [if_neg h0] at h
    by_cases h1 : m < x
    · rw [if_pos h1] at h; exact absurd rfl h
    · exact ⟨nI_tn h0, tn_le hm hM h0 h1⟩
theorem X4_isTill_n {x : Int32} (h : ¬ f_X4_isTill x = 0) : x = nI (tn x) ∧ tn x < 8 := by
  unfold f_X4_isTill at h
  have := X4_in_n (M := 7) rfl (by decide) h
  exact ⟨this.1, by omega⟩
theorem fq_eq {a b : Nat} {x : Int32} (hx : x = nI b) (ha : a < 2 ^ 31) (hb : b < 2 ^ 31) : nI a = x ↔ a = b := by rw [hx]; exact nI_eq ha hb
theorem fq_lt {a b : Nat} {x : Int32} (hx : x = nI b) (ha : a < 2 ^ 31) (hb : b < 2 ^ 31) : nI a < x ↔ a < b := by rw [hx]; exact nI_ltI ha hb
theorem fq_le {a b : Nat} {x : Int32} (hx : x = nI b) (ha : a < 2 ^ 31) (hb : b < 2 ^ 31) : nI a ≤ x ↔ a ≤ b := by rw [hx]; exact nI_leI ha hb
theorem fq_gt {a b : Nat} {x : Int32} (hx : x = nI b) (ha : a < 2 ^ 31) (hb : b < 2 ^ 31) : x < nI a ↔ b < a := by rw [hx]; exact nI_ltI hb ha
theorem fq_ge {a b : Nat} {x : Int32} (hx : x = nI b) (ha : a < 2 ^ 31) (hb : b < 2 ^ 31) : x ≤ nI a ↔ b ≤ a := by rw [hx]; exact nI_leI hb ha
theorem wof_ne (k : Nat) : ¬ wof k = 0 := by unfold wof; split <;> decide
theorem howOften_wof (r : Int32) (k : Nat) : f_X3_howOftenIn r (wof k) = r / wof k := by
  have h : ¬ wof k ≤ 0 := by unfold wof; split <;> decide
  unfold f_X3_howOftenIn
  rw [if_neg h]
theorem worthOf_ne (k : Int32) : ¬ f_X4_worthOf k = 0 := by unfold f_X4_worthOf; repeat' (first | split | decide)
