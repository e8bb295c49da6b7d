def digsN : Nat → Nat → Nat → Nat
  | 0, _, k => k
  | n + 1, y, k => if nI y ≤ 9 then k else digsN n (y / 10) (k + 1)
def digN : Nat → Nat → Nat
  | 0, v => v
  | c + 1, v => digN c (v / 10)
theorem digsN_le : ∀ (n y k : Nat), k ≤ digsN n y k ∧ digsN n y k ≤ k + n := by
  intro n
  induction n with
  | zero => intro y k; simp [digsN]
  | succ n ih =>
    intro y k
    unfold digsN
    split
    · omega
    · have := ih (y / 10) (k + 1); omega
set_option maxRecDepth 100000 in
set_option maxHeartbeats 4000000 in
theorem lp_X4_digits {p : Program} {l : Launch} {e : Env} {s : State} {m : MethodId} {args : Array Value} {below : List Frame} {meth : Method} {c : Code} (hx : p.tables.exec = Jvm.exec) (hb : c.code = cX4_digits) (hr : meth.sig.returnType = some .int) (hlk : meth.locks = false) (x : Nat) : ∀ (n k y : Nat) (ls : Array Slot), y < 10 ^ (n + 1) → y < 2 ^ 31 → lv_has ls 3 [(0, .int (nI x)), (1, .int (nI k)), (2, .int (nI y))] → W p l e (rmL 0) s m args below meth c s.heap [] 0 0 (MQ below (QcRead (nI (digsN n y k))) args s 0 0 (fun _ => False)) (F0 m 4 ls []) := by
  intro n
  induction n with
  | zero =>
    intro k y ls hy hy2 hl
    refine lv_iload_n hx hb dX4_digits_4 rfl (lv_at hl 2 rfl) ?_
    refine lv_bipush (v := 9) hx hb dX4_digits_5 (by decide) ?_
    refine lv_icmp_le (tgt := 21) hx hb dX4_digits_7 (by decide) (fun _ => ?_) (fun c_1 => absurd ((fq_le (b := 9) rfl hy2 (by decide)).mpr (by omega)) c_1)
    refine lv_iload_n hx hb dX4_digits_21 rfl (lv_at hl 1 rfl) ?_
    exact x_pret hx hb hr hlk (by simp only [digsN]) dX4_digits_22
  | succ n ih =>
    intro k y ls hy hy2 hl
    refine lv_iload_n hx hb dX4_digits_4 rfl (lv_at hl 2 rfl) ?_
    refine lv_bipush (v := 9) hx hb dX4_digits_5 (by decide) ?_
    refine lv_icmp_le (tgt := 21) hx hb dX4_digits_7 (by decide) (fun c_1 => ?_) (fun c_1 => ?_)
    · have q_2 := (fq_le (a := y) (b := 9) rfl (by omega) (by omega)).mp c_1
      refine lv_iload_n hx hb dX4_digits_21 rfl (lv_at hl 1 rfl) ?_
      exact x_pret hx hb hr hlk (by simp only [digsN, if_pos c_1]) dX4_digits_22
    · have q_3 := mt (fq_le (a := y) (b := 9) rfl (by omega) (by omega)).mpr c_1
      refine lv_iinc (v := nI (k + 1)) (lv' := [(1, .int (nI (k + 1))), (0, .int (nI x)), (2, .int (nI y))]) hx hb dX4_digits_10 hl (k := 1) rfl (nI_1 k) (by decide) rfl (fun ls hl => ?_)
      refine lv_iload_n hx hb dX4_digits_13 rfl (lv_at hl 2 rfl) ?_
      refine lv_bipush (v := 10) hx hb dX4_digits_14 (by decide) ?_
      refine lv_idiv hx hb dX4_digits_16 (by decide) ?_
      refine x_top (pk_div (a := y) (d := 10) (by omega) (by decide) (by decide)) ?_
      refine lv_istore_n (lv' := [(2, .int (nI (y / 10))), (1, .int (nI (k + 1))), (0, .int (nI x))]) hx hb dX4_digits_17 rfl hl (by decide) rfl (fun ls hl => ?_)
      refine lv_goto (tgt := 4) hx hb dX4_digits_18 (by decide) ?_
      rw [show digsN (n + 1) y k = digsN n (y / 10) (k + 1) from (by simp only [digsN, if_neg c_1])]
      exact ih (k + 1) (y / 10) ls (Nat.div_lt_of_lt_mul (by rw [Nat.pow_succ] at hy; omega)) (by omega) (lv_sub hl [2, 1, 0] rfl)
set_option maxRecDepth 100000 in
set_option maxHeartbeats 4000000 in
theorem c_X4_digits (l : Launch) (x : Nat) (hx : x < 777778) : Met l yX4_digits (.code yX4_digits cX4_digits 3 (some .int) :: gtbl) (rmL 0) (PS [.int (nI x)]) (QcRead (nI (digsN 5 x 1))) 0 0 (fun _ => False) := by
  refine x_metS (by decide) (Nat.le_of_ble_eq_true rfl) ?_
  intro p e s m below meth c ls hx hb hml hown hts hr hlk hl
  have hl : lv_has ls 3 [(0, .int (nI x))] := hl
  refine lv_iconst (v := 1) hx hb dX4_digits_0 (by decide) ?_
  refine lv_istore_n (lv' := [(1, .int 1), (0, .int (nI x))]) hx hb dX4_digits_1 rfl hl (by decide) rfl (fun ls hl => ?_)
  refine lv_iload_n hx hb dX4_digits_2 rfl (lv_at hl 1 rfl) ?_
  refine lv_istore_n (lv' := [(2, .int (nI x)), (1, .int 1), (0, .int (nI x))]) hx hb dX4_digits_3 rfl hl (by decide) rfl (fun ls hl => ?_)
  exact lp_X4_digits hx hb hr hlk x 5 1 x ls (by omega) (by omega) (lv_sub hl [2, 1, 0] rfl)
set_option maxRecDepth 100000 in
set_option maxHeartbeats 4000000 in
theorem lp_X4_digit {p : Program} {l : Launch} {e : Env} {s : State} {m : MethodId} {args : Array Value} {below : List Frame} {meth : Method} {c : Code} (hx : p.tables.exec = Jvm.exec) (hb : c.code = cX4_digit) (hr : meth.sig.returnType = some .int) (hlk : meth.locks = false) (x len k : Nat) (hlen : len < 7) : ∀ (n i v : Nat) (ls : Array Slot), i + n = len → v < 2 ^ 31 → lv_has ls 5 [(0, .int (nI x)), (1, .int (nI len)), (2, .int (nI k)), (3, .int (nI v)), (4, .int (nI i))] → W p l e (rmL 0) s m args below meth c s.heap [] 0 0 (MQ below (QcRead (nI (digN n v % 10))) args s 0 0 (fun _ => False)) (F0 m 7 ls []) := by
  intro n
  induction n with
  | zero =>
    intro i v ls hi hv hl
    refine lv_iload hx hb dX4_digit_7 (lv_at hl 4 rfl) ?_
    refine lv_iload_n hx hb dX4_digit_9 rfl (lv_at hl 1 rfl) ?_
    refine lv_icmp_ge (tgt := 24) hx hb dX4_digit_10 (by decide) (fun _ => ?_) (fun c_1 => absurd (nI_le (show len ≤ i by omega) (by omega)) c_1)
    refine lv_iload_n hx hb dX4_digit_24 rfl (lv_at hl 3 rfl) ?_
    refine lv_bipush (v := 10) hx hb dX4_digit_25 (by decide) ?_
    refine lv_irem hx hb dX4_digit_27 (by decide) ?_
    refine x_top (pk_rem (a := v) (d := 10) (by omega) (by decide) (by decide)) ?_
    exact x_pret hx hb hr hlk (by simp only [digN]) dX4_digit_28
  | succ n ih =>
    intro i v ls hi hv hl
    refine lv_iload hx hb dX4_digit_7 (lv_at hl 4 rfl) ?_
    refine lv_iload_n hx hb dX4_digit_9 rfl (lv_at hl 1 rfl) ?_
    refine lv_icmp_ge (tgt := 24) hx hb dX4_digit_10 (by decide) (fun c_1 => absurd c_1 (nI_ge (show i < len by omega) (by omega))) (fun _ => ?_)
    refine lv_iload_n hx hb dX4_digit_13 rfl (lv_at hl 3 rfl) ?_
    refine lv_bipush (v := 10) hx hb dX4_digit_14 (by decide) ?_
    refine lv_idiv hx hb dX4_digit_16 (by decide) ?_
    refine x_top (pk_div (a := v) (d := 10) (by omega) (by decide) (by decide)) ?_
    refine lv_istore_n (lv' := [(3, .int (nI (v / 10))), (0, .int (nI x)), (1, .int (nI len)), (2, .int (nI k)), (4, .int (nI i))]) hx hb dX4_digit_17 rfl hl (by decide) rfl (fun ls hl => ?_)
    refine lv_iinc (v := nI (i + 1)) (lv' := [(4, .int (nI (i + 1))), (3, .int (nI (v / 10))), (0, .int (nI x)), (1, .int (nI len)), (2, .int (nI k))]) hx hb dX4_digit_18 hl (k := 4) rfl (nI_1 i) (by decide) rfl (fun ls hl => ?_)
    refine lv_goto (tgt := 7) hx hb dX4_digit_21 (by decide) ?_
    exact ih (i + 1) (v / 10) ls (by omega) (by omega) (lv_sub hl [2, 3, 4, 1, 0] rfl)
set_option maxRecDepth 100000 in
set_option maxHeartbeats 4000000 in
theorem c_X4_digit (l : Launch) (x : Nat) (len : Nat) (k : Nat) (hx : x < 777778) (hlen : len < 7) (hk : k < 7) (hkl : k < len) : Met l yX4_digit (.code yX4_digit cX4_digit 5 (some .int) :: gtbl) (rmL 0) (PS [.int (nI x), .int (nI len), .int (nI k)]) (QcRead (nI (digN (len - (k + 1)) x % 10))) 0 0 (fun _ => False) := by
  refine x_metS (by decide) (Nat.le_of_ble_eq_true rfl) ?_
  intro p e s m below meth c ls hx hb hml hown hts hr hlk hl
  have hl : lv_has ls 5 [(0, .int (nI x)), (1, .int (nI len)), (2, .int (nI k))] := hl
  refine lv_iload_n hx hb dX4_digit_0 rfl (lv_at hl 0 rfl) ?_
  refine lv_istore_n (lv' := [(3, .int (nI x)), (0, .int (nI x)), (1, .int (nI len)), (2, .int (nI k))]) hx hb dX4_digit_1 rfl hl (by decide) rfl (fun ls hl => ?_)
  refine lv_iload_n hx hb dX4_digit_2 rfl (lv_at hl 3 rfl) ?_
  refine lv_iconst (v := 1) hx hb dX4_digit_3 (by decide) ?_
  refine lv_iadd hx hb dX4_digit_4 ?_
  refine x_top (nI_add k 1) ?_
  refine lv_istore (lv' := [(4, .int (nI (k + 1))), (3, .int (nI x)), (0, .int (nI x)), (1, .int (nI len)), (2, .int (nI k))]) hx hb dX4_digit_5 hl (by decide) rfl (fun ls hl => ?_)
  exact lp_X4_digit hx hb hr hlk x len k (by omega) (len - (k + 1)) (k + 1) x ls (by omega) (by omega) (lv_sub hl [2, 3, 4, 1, 0] rfl)
def okL (x len : Nat) : Nat → Nat → Int32 → Int32
  | 0, _, g => g
  | n + 1, k, g => if g = 0 then okL x len n (k + 1) 0 else if 8 ≤ nI (digN (len - (k + 1)) x % 10) then okL x len n (k + 1) 0 else okL x len n (k + 1) 1
set_option maxRecDepth 100000 in
set_option maxHeartbeats 4000000 in
theorem lp_X4_passA {p : Program} {l : Launch} {e : Env} {s : State} {m : MethodId} {args : Array Value} {below : List Frame} {meth : Method} {c : Code} {Q : State → Prop} {E : EV} (F : Fx E p s m args c cX4_pass RX4 9) (row worth back : Int32) (x len : Nat) (hrow : row = nI x) (hx7 : x < 777778) (hlen : len < 7) : ∀ (n : Nat) (k : Nat) (g : Int32) (σ μ : St) (H : Heap) (locs : List Loc) (ls : Array Slot), k + n = len → HS E s σ μ H locs → lv_has ls 9 [(0, .ref (ea E 47)), (1, .int row), (2, .int worth), (3, .int (bz back)), (5, .int (nI len)), (4, .int g), (6, .int (nI k))] → (∀ (H : Heap) (locs : List Loc) (ls : Array Slot), HS E s σ μ H locs → lv_has ls 9 [(0, .ref (ea E 47)), (1, .int row), (2, .int worth), (3, .int (bz back)), (5, .int (nI len)), (4, .int (okL x len n k g)), (6, .int (nI len))] → W p l e (rmL 3) s m args below meth c H locs 0 0 Q (F0 m 89 ls [])) → W p l e (rmL 3) s m args below meth c H locs 0 0 Q (F0 m 51 ls []) := by
  have hx := F.hx
  have hb := F.hb
  intro n
  induction n with
  | zero =>
    intro k g σ μ H locs ls hn hH hl hk
    obtain rfl : k = len := by omega
    refine lv_iload hx hb dX4_pass_51 (lv_at hl 6 rfl) ?_
    refine lv_iload hx hb dX4_pass_53 (lv_at hl 4 rfl) ?_
    refine lv_icmp_ge (tgt := 89) hx hb dX4_pass_55 (by decide) (fun _ => ?_) (fun c_1 => absurd (nI_le (Nat.le_refl _) (by omega)) c_1)
    simp only [okL] at hk
    exact hk H locs ls hH (lv_sub hl [0, 1, 2, 3, 4, 5, 6] rfl)
  | succ n ih =>
    intro k g σ μ H locs ls hn hH hl hk
    refine lv_iload hx hb dX4_pass_51 (lv_at hl 6 rfl) ?_
    refine lv_iload hx hb dX4_pass_53 (lv_at hl 4 rfl) ?_
    refine lv_icmp_ge (tgt := 89) hx hb dX4_pass_55 (by decide) (fun c_1 => absurd c_1 (nI_ge (show k < len by omega) (by omega))) (fun _ => ?_)
    refine lv_iload hx hb dX4_pass_58 (lv_at hl 5 rfl) ?_
    refine lv_if_eq (tgt := 80) hx hb dX4_pass_60 (by decide) (fun c_2 => ?_) (fun c_2 => ?_)
    · refine lv_iconst (v := 0) hx hb dX4_pass_80 (by decide) ?_
      refine lv_istore (lv' := [(4, .int 0), (0, .ref (ea E 47)), (1, .int row), (2, .int worth), (3, .int (bz back)), (5, .int (nI len)), (6, .int (nI k))]) hx hb dX4_pass_81 hl (by decide) rfl (fun ls hl => ?_)
      refine lv_iinc (v := nI (k + 1)) (lv' := [(6, .int (nI (k + 1))), (4, .int 0), (0, .ref (ea E 47)), (1, .int row), (2, .int worth), (3, .int (bz back)), (5, .int (nI len))]) hx hb dX4_pass_83 hl (k := 6) rfl (nI_1 k) (by decide) rfl (fun ls hl => ?_)
      refine lv_goto (tgt := 51) hx hb dX4_pass_86 (by decide) ?_
      simp only [okL, if_pos c_2] at hk
      exact ih (k + 1) 0 σ μ H locs ls (by omega) hH (lv_sub hl [2, 3, 4, 5, 6, 1, 0] rfl) hk
    · refine lv_iload_n hx hb dX4_pass_63 rfl (lv_at hl 1 rfl) ?_
      refine x_top hrow ?_
      refine lv_iload hx hb dX4_pass_64 (lv_at hl 4 rfl) ?_
      refine lv_iload hx hb dX4_pass_66 (lv_at hl 6 rfl) ?_
      refine x_pure hx hb F.hml F.hown F.hts (c_X4_digit l x len k (by omega) (by omega) (by omega) (by omega)) cw_X4_96 rfl rfl ⟨Nat.le_of_ble_eq_true rfl, Nat.le_of_ble_eq_true rfl⟩ rfl hl.1 rfl (Nat.le_of_ble_eq_true rfl) ⟨Nat.zero_le _, Nat.zero_le _⟩ dX4_pass_68 ?_
      refine lv_bipush (v := 8) hx hb dX4_pass_71 (by decide) ?_
      refine lv_icmp_ge (tgt := 80) hx hb dX4_pass_73 (by decide) (fun c_3 => ?_) (fun c_3 => ?_)
      · have q_4 := (fq_ge (a := (digN (len - (k + 1)) x % 10)) (b := 8) rfl (by omega) (by omega)).mp c_3
        refine lv_iconst (v := 0) hx hb dX4_pass_80 (by decide) ?_
        refine lv_istore (lv' := [(4, .int 0), (0, .ref (ea E 47)), (1, .int row), (2, .int worth), (3, .int (bz back)), (5, .int (nI len)), (6, .int (nI k))]) hx hb dX4_pass_81 hl (by decide) rfl (fun ls hl => ?_)
        refine lv_iinc (v := nI (k + 1)) (lv' := [(6, .int (nI (k + 1))), (4, .int 0), (0, .ref (ea E 47)), (1, .int row), (2, .int worth), (3, .int (bz back)), (5, .int (nI len))]) hx hb dX4_pass_83 hl (k := 6) rfl (nI_1 k) (by decide) rfl (fun ls hl => ?_)
        refine lv_goto (tgt := 51) hx hb dX4_pass_86 (by decide) ?_
        simp only [okL, if_neg c_2, if_pos c_3] at hk
        exact ih (k + 1) 0 σ μ H locs ls (by omega) hH (lv_sub hl [2, 3, 4, 5, 6, 1, 0] rfl) hk
      · have q_5 := mt (fq_ge (a := (digN (len - (k + 1)) x % 10)) (b := 8) rfl (by omega) (by omega)).mpr c_3
        refine lv_iconst (v := 1) hx hb dX4_pass_76 (by decide) ?_
        refine lv_goto (tgt := 81) hx hb dX4_pass_77 (by decide) ?_
        refine lv_istore (lv' := [(4, .int 1), (0, .ref (ea E 47)), (1, .int row), (2, .int worth), (3, .int (bz back)), (5, .int (nI len)), (6, .int (nI k))]) hx hb dX4_pass_81 hl (by decide) rfl (fun ls hl => ?_)
        refine lv_iinc (v := nI (k + 1)) (lv' := [(6, .int (nI (k + 1))), (4, .int 1), (0, .ref (ea E 47)), (1, .int row), (2, .int worth), (3, .int (bz back)), (5, .int (nI len))]) hx hb dX4_pass_83 hl (k := 6) rfl (nI_1 k) (by decide) rfl (fun ls hl => ?_)
        refine lv_goto (tgt := 51) hx hb dX4_pass_86 (by decide) ?_
        simp only [okL, if_neg c_2, if_neg c_3] at hk
        exact ih (k + 1) 1 σ μ H locs ls (by omega) hH (lv_sub hl [2, 3, 4, 5, 6, 1, 0] rfl) hk
def mainL (x len : Nat) (worth : Int32) : Nat → Nat → Int32 → St → Nat × Int32 × St
  | 0, h, f, μ => (h, f, μ)
  | n + 1, h, f, μ =>
    if f = 0 then
      match f_X4_hold μ (digN (len - (h + 1)) x % 10) with
      | (r_3, s_4) =>
        if r_3 = 0 then
          if (nI (h + 1)) ≤ 1 then
            if (nI (h + 1)) < (nI len) then
              match f_X4_pay (keepL (digN (len - (h + 1)) x % 10) h 5 0 s_4) (digN (len - (h + 1)) x % 10) worth with
              | (r_11, s_12) =>
                mainL x len worth n (h + 1) r_11 s_12
            else
              if (nI len) = 1 then
                match f_X4_pay (keepL (digN (len - (h + 1)) x % 10) h 5 0 s_4) (digN (len - (h + 1)) x % 10) worth with
                | (r_17, s_18) =>
                  mainL x len worth n (h + 1) r_17 s_18
              else
                mainL x len worth n (h + 1) 0 (keepL (digN (len - (h + 1)) x % 10) h 5 0 s_4)
          else
            match f_X4_lay (keepL (digN (len - (h + 1)) x % 10) h 5 0 s_4) (digN (len - (h + 1)) x % 10) 5 with
            | (r_21, s_22) =>
              if r_21 = 0 then
                if (nI (h + 1)) < (nI len) then
                  match f_X4_pay s_22 (digN (len - (h + 1)) x % 10) worth with
                  | (r_26, s_27) =>
                    mainL x len worth n (h + 1) r_26 s_27
                else
                  if (nI len) = 1 then
                    match f_X4_pay s_22 (digN (len - (h + 1)) x % 10) worth with
                    | (r_32, s_33) =>
                      mainL x len worth n (h + 1) r_32 s_33
                  else
                    mainL x len worth n (h + 1) r_21 s_22
              else
                mainL x len worth n (h + 1) r_21 s_22
        else
          mainL x len worth n h r_3 s_4
    else
      (h, f, μ)
set_option maxRecDepth 100000 in
set_option maxHeartbeats 4000000 in
theorem lp_X4_passB {p : Program} {l : Launch} {e : Env} {s : State} {m : MethodId} {args : Array Value} {below : List Frame} {meth : Method} {c : Code} {Q : State → Prop} {E : EV} (F : Fx E p s m args c cX4_pass RX4 9) (row worth back : Int32) (x len : Nat) (hrow : row = nI x) (hx7 : x < 777778) (hlen : len < 7) (hdig : ∀ k, k < len → digN (len - (k + 1)) x % 10 < 8) : ∀ (n h : Nat) (f : Int32) (σ μ : St) (H : Heap) (locs : List Loc) (ls : Array Slot), h + n ≤ len ∧ (f = 0 → h + n = len) → HS E s σ μ H locs → lv_has ls 9 [(0, .ref (ea E 47)), (1, .int row), (2, .int worth), (3, .int (bz back)), (5, .int (nI len)), (6, .int (nI h)), (7, .int f)] → (∀ (hF : Nat) (fF : Int32) (mF : St) (H : Heap) (locs : List Loc) (ls : Array Slot), mainL x len worth n h f μ = (hF, fF, mF) → hF ≤ len → HS E s σ mF H locs → lv_has ls 9 [(0, .ref (ea E 47)), (1, .int row), (2, .int worth), (3, .int (bz back)), (5, .int (nI len)), (6, .int (nI hF)), (7, .int fF)] → W p l e (rmL 3) s m args below meth c H locs 0 0 Q (F0 m 213 ls [])) → W p l e (rmL 3) s m args below meth c H locs 0 0 Q (F0 m 110 ls []) := by
  have hx := F.hx
  have hb := F.hb
  intro n
  induction n with
  | zero =>
    intro h f σ μ H locs ls hn hH hl hk
    refine lv_iload hx hb dX4_pass_110 (lv_at hl 5 rfl) ?_
    refine lv_iload hx hb dX4_pass_112 (lv_at hl 4 rfl) ?_
    refine lv_icmp_ge (tgt := 213) hx hb dX4_pass_114 (by decide) (fun c_0 => ?_) (fun c_0 => ?_)
    · exact hk h f μ H locs ls (by simp only [mainL]) (by omega) hH (lv_sub hl [0, 1, 2, 3, 4, 5, 6] rfl)
    · have q0 := mt (nI_leI (a := len) (b := h) (by omega) (by omega)).mpr c_0
      refine lv_iload hx hb dX4_pass_117 (lv_at hl 6 rfl) ?_
      refine lv_if_ne (tgt := 213) hx hb dX4_pass_119 (by decide) (fun c_1 => ?_) (fun c_1 => absurd (hn.2 c_1) (by omega))
      exact hk h f μ H locs ls (by simp only [mainL]) (by omega) hH (lv_sub hl [0, 1, 2, 3, 4, 5, 6] rfl)
  | succ n ih =>
    intro h f σ μ H locs ls hn hH hl hk
    refine lv_iload hx hb dX4_pass_110 (lv_at hl 5 rfl) ?_
    refine lv_iload hx hb dX4_pass_112 (lv_at hl 4 rfl) ?_
    refine lv_icmp_ge (tgt := 213) hx hb dX4_pass_114 (by decide) (fun c_0 => absurd c_0 (nI_ge (show h < len by omega) (by omega))) (fun _ => ?_)
    refine lv_iload hx hb dX4_pass_117 (lv_at hl 6 rfl) ?_
    refine lv_if_ne (tgt := 213) hx hb dX4_pass_119 (by decide) (fun c_1 => ?_) (fun c_1 => ?_)
    · exact hk h f μ H locs ls (by simp only [mainL, if_neg c_1]) (by omega) hH (lv_sub hl [0, 1, 2, 3, 4, 5, 6] rfl)
    · refine lv_iload_n hx hb dX4_pass_122 rfl (lv_at hl 1 rfl) ?_
      refine x_top hrow ?_
      refine lv_iload hx hb dX4_pass_123 (lv_at hl 4 rfl) ?_
      refine lv_iload hx hb dX4_pass_125 (lv_at hl 5 rfl) ?_
      refine x_pure hx hb F.hml F.hown F.hts (c_X4_digit l x len h (by omega) (by omega) (by omega) (by omega)) cw_X4_96 rfl rfl ⟨Nat.le_of_ble_eq_true rfl, Nat.le_of_ble_eq_true rfl⟩ rfl hl.1 rfl (Nat.le_of_ble_eq_true rfl) ⟨Nat.zero_le _, Nat.zero_le _⟩ dX4_pass_127 ?_
      have d_2 := hdig h (by omega)
      refine lv_istore (lv' := [(8, .int (nI (digN (len - (h + 1)) x % 10))), (0, .ref (ea E 47)), (1, .int row), (2, .int worth), (3, .int (bz back)), (5, .int (nI len)), (6, .int (nI h)), (7, .int f)]) hx hb dX4_pass_130 hl (by decide) rfl (fun ls hl => ?_)
      refine lv_aload_n hx hb dX4_pass_132 rfl (lv_at hl 1 rfl) ?_
      refine lv_iload hx hb dX4_pass_133 (lv_at hl 0 rfl) ?_
      refine x_calliM F hH 47 (F.lt (by omega)) (vv4 0) rfl (c_X4_hold l F.ad σ μ (digN (len - (h + 1)) x % 10) (by omega)) cw_X4_76 rfl rfl ⟨Nat.le_of_ble_eq_true rfl, Nat.le_of_ble_eq_true rfl⟩ rfl hl.1 rfl (Nat.le_of_ble_eq_true rfl) ⟨Nat.zero_le _, Nat.zero_le _⟩ dX4_pass_135 (fun r_3 s_4 H locs e_5 hH => ?_)
      refine lv_istore (lv' := [(7, .int r_3), (8, .int (nI (digN (len - (h + 1)) x % 10))), (0, .ref (ea E 47)), (1, .int row), (2, .int worth), (3, .int (bz back)), (5, .int (nI len)), (6, .int (nI h))]) hx hb dX4_pass_138 hl (by decide) rfl (fun ls hl => ?_)
      refine lv_iload hx hb dX4_pass_140 (lv_at hl 0 rfl) ?_
      refine lv_if_ne (tgt := 210) hx hb dX4_pass_142 (by decide) (fun c_6 => ?_) (fun c_6 => ?_)
      · refine lv_goto (tgt := 110) hx hb dX4_pass_210 (by decide) ?_
        have hn2 := hn.2 c_1
        exact ih h r_3 σ s_4 H locs ls ⟨(by omega), (fun hz => by first | omega | exact absurd hz (by assumption))⟩ hH (lv_sub hl [2, 3, 4, 5, 6, 7, 0] rfl) (fun hF fF mF H locs ls e h6 hH hl => hk hF fF mF H locs ls (by simpa only [mainL, if_pos c_1, e_5, if_neg c_6] using e) h6 hH hl)
      · refine lv_aload_n hx hb dX4_pass_145 rfl (lv_at hl 2 rfl) ?_
        refine lv_iload hx hb dX4_pass_146 (lv_at hl 1 rfl) ?_
        refine lv_iload hx hb dX4_pass_148 (lv_at hl 7 rfl) ?_
        refine x_callv F hH 47 (F.lt (by omega)) (vv4 0) rfl (c_X4_keep l F.ad σ s_4 (digN (len - (h + 1)) x % 10) h (by omega) (by omega)) cw_X4_100 rfl rfl ⟨Nat.le_of_ble_eq_true rfl, Nat.le_of_ble_eq_true rfl⟩ rfl hl.1 rfl (Nat.le_of_ble_eq_true rfl) ⟨Nat.zero_le _, Nat.zero_le _⟩ dX4_pass_150 (fun H locs hH => ?_)
        refine lv_iinc (v := nI (h + 1)) (lv' := [(6, .int (nI (h + 1))), (7, .int r_3), (8, .int (nI (digN (len - (h + 1)) x % 10))), (0, .ref (ea E 47)), (1, .int row), (2, .int worth), (3, .int (bz back)), (5, .int (nI len))]) hx hb dX4_pass_153 hl (k := 7) rfl (nI_1 h) (by decide) rfl (fun ls hl => ?_)
        refine lv_iload hx hb dX4_pass_156 (lv_at hl 0 rfl) ?_
        refine lv_iconst (v := 1) hx hb dX4_pass_158 (by decide) ?_
        refine lv_icmp_le (tgt := 175) hx hb dX4_pass_159 (by decide) (fun c_7 => ?_) (fun c_7 => ?_)
        · have q_8 := (fq_le (a := (h + 1)) (b := 1) rfl (by omega) (by omega)).mp c_7
          refine lv_iconst (v := 0) hx hb dX4_pass_175 (by decide) ?_
          refine lv_istore (lv' := [(7, .int 0), (6, .int (nI (h + 1))), (8, .int (nI (digN (len - (h + 1)) x % 10))), (0, .ref (ea E 47)), (1, .int row), (2, .int worth), (3, .int (bz back)), (5, .int (nI len))]) hx hb dX4_pass_176 hl (by decide) rfl (fun ls hl => ?_)
          refine lv_iload hx hb dX4_pass_178 (lv_at hl 0 rfl) ?_
          refine lv_if_ne (tgt := 206) hx hb dX4_pass_180 (by decide) (fun c_9 => absurd (by decide) c_9) (fun _ => ?_)
          refine lv_iload hx hb dX4_pass_183 (lv_at hl 1 rfl) ?_
          refine lv_iload hx hb dX4_pass_185 (lv_at hl 7 rfl) ?_
          refine lv_icmp_lt (tgt := 196) hx hb dX4_pass_187 (by decide) (fun c_10 => ?_) (fun c_10 => ?_)
          · refine lv_aload_n hx hb dX4_pass_196 rfl (lv_at hl 3 rfl) ?_
            refine lv_iload hx hb dX4_pass_197 (lv_at hl 2 rfl) ?_
            refine lv_iload_n hx hb dX4_pass_199 rfl (lv_at hl 5 rfl) ?_
            refine x_calliM F hH 47 (F.lt (by omega)) (vv4 0) rfl (c_X4_pay l F.ad σ (keepL (digN (len - (h + 1)) x % 10) h 5 0 s_4) (digN (len - (h + 1)) x % 10) worth (by omega)) cw_X4_89 rfl rfl ⟨Nat.le_of_ble_eq_true rfl, Nat.le_of_ble_eq_true rfl⟩ rfl hl.1 rfl (Nat.le_of_ble_eq_true rfl) ⟨Nat.zero_le _, Nat.zero_le _⟩ dX4_pass_200 (fun r_11 s_12 H locs e_13 hH => ?_)
            refine lv_goto (tgt := 208) hx hb dX4_pass_203 (by decide) ?_
            refine lv_istore (lv' := [(7, .int r_11), (6, .int (nI (h + 1))), (8, .int (nI (digN (len - (h + 1)) x % 10))), (0, .ref (ea E 47)), (1, .int row), (2, .int worth), (3, .int (bz back)), (5, .int (nI len))]) hx hb dX4_pass_208 hl (by decide) rfl (fun ls hl => ?_)
            refine lv_goto (tgt := 110) hx hb dX4_pass_210 (by decide) ?_
            have hn2 := hn.2 c_1
            exact ih (h + 1) r_11 σ s_12 H locs ls ⟨(by omega), (fun hz => by first | omega | exact absurd hz (by assumption))⟩ hH (lv_sub hl [3, 4, 5, 6, 7, 1, 0] rfl) (fun hF fF mF H locs ls e h6 hH hl => hk hF fF mF H locs ls (by simpa only [mainL, if_pos c_1, e_5, if_pos c_6, if_pos c_7, if_pos c_10, e_13] using e) h6 hH hl)
          · refine lv_iload hx hb dX4_pass_190 (lv_at hl 7 rfl) ?_
            refine lv_iconst (v := 1) hx hb dX4_pass_192 (by decide) ?_
            refine lv_icmp_ne (tgt := 206) hx hb dX4_pass_193 (by decide) (fun c_14 => ?_) (fun c_14 => ?_)
            · have q_15 := mt (fq_eq (a := len) (b := 1) rfl (by omega) (by omega)).mpr c_14
              refine lv_iload hx hb dX4_pass_206 (lv_at hl 0 rfl) ?_
              refine lv_istore (lv' := [(7, .int 0), (6, .int (nI (h + 1))), (8, .int (nI (digN (len - (h + 1)) x % 10))), (0, .ref (ea E 47)), (1, .int row), (2, .int worth), (3, .int (bz back)), (5, .int (nI len))]) hx hb dX4_pass_208 hl (by decide) rfl (fun ls hl => ?_)
              refine lv_goto (tgt := 110) hx hb dX4_pass_210 (by decide) ?_
              have hn2 := hn.2 c_1
              exact ih (h + 1) 0 σ (keepL (digN (len - (h + 1)) x % 10) h 5 0 s_4) H locs ls ⟨(by omega), (fun hz => by first | omega | exact absurd hz (by assumption))⟩ hH (lv_sub hl [3, 4, 5, 6, 7, 1, 0] rfl) (fun hF fF mF H locs ls e h6 hH hl => hk hF fF mF H locs ls (by simpa only [mainL, if_pos c_1, e_5, if_pos c_6, if_pos c_7, if_neg c_10, if_neg c_14] using e) h6 hH hl)
            · have q_16 := (fq_eq (a := len) (b := 1) rfl (by omega) (by omega)).mp c_14
              refine lv_aload_n hx hb dX4_pass_196 rfl (lv_at hl 3 rfl) ?_
              refine lv_iload hx hb dX4_pass_197 (lv_at hl 2 rfl) ?_
              refine lv_iload_n hx hb dX4_pass_199 rfl (lv_at hl 5 rfl) ?_
              refine x_calliM F hH 47 (F.lt (by omega)) (vv4 0) rfl (c_X4_pay l F.ad σ (keepL (digN (len - (h + 1)) x % 10) h 5 0 s_4) (digN (len - (h + 1)) x % 10) worth (by omega)) cw_X4_89 rfl rfl ⟨Nat.le_of_ble_eq_true rfl, Nat.le_of_ble_eq_true rfl⟩ rfl hl.1 rfl (Nat.le_of_ble_eq_true rfl) ⟨Nat.zero_le _, Nat.zero_le _⟩ dX4_pass_200 (fun r_17 s_18 H locs e_19 hH => ?_)
              refine lv_goto (tgt := 208) hx hb dX4_pass_203 (by decide) ?_
              refine lv_istore (lv' := [(7, .int r_17), (6, .int (nI (h + 1))), (8, .int (nI (digN (len - (h + 1)) x % 10))), (0, .ref (ea E 47)), (1, .int row), (2, .int worth), (3, .int (bz back)), (5, .int (nI len))]) hx hb dX4_pass_208 hl (by decide) rfl (fun ls hl => ?_)
              refine lv_goto (tgt := 110) hx hb dX4_pass_210 (by decide) ?_
              have hn2 := hn.2 c_1
              exact ih (h + 1) r_17 σ s_18 H locs ls ⟨(by omega), (fun hz => by first | omega | exact absurd hz (by assumption))⟩ hH (lv_sub hl [3, 4, 5, 6, 7, 1, 0] rfl) (fun hF fF mF H locs ls e h6 hH hl => hk hF fF mF H locs ls (by simpa only [mainL, if_pos c_1, e_5, if_pos c_6, if_pos c_7, if_neg c_10, if_pos c_14, e_19] using e) h6 hH hl)
        · have q_20 := mt (fq_le (a := (h + 1)) (b := 1) rfl (by omega) (by omega)).mpr c_7
          refine lv_aload_n hx hb dX4_pass_162 rfl (lv_at hl 3 rfl) ?_
          refine lv_iload hx hb dX4_pass_163 (lv_at hl 2 rfl) ?_
          refine lv_aload_n hx hb dX4_pass_165 rfl (lv_at hl 3 rfl) ?_
          refine g_X4_paid F hH kw_306 dX4_pass_166 ?_
          refine x_calliM F hH 47 (F.lt (by omega)) (vv4 0) rfl (c_X4_lay l F.ad σ (keepL (digN (len - (h + 1)) x % 10) h 5 0 s_4) (digN (len - (h + 1)) x % 10) 5 (by omega) (by omega)) cw_X4_85 rfl rfl ⟨Nat.le_of_ble_eq_true rfl, Nat.le_of_ble_eq_true rfl⟩ rfl hl.1 rfl (Nat.le_of_ble_eq_true rfl) ⟨Nat.zero_le _, Nat.zero_le _⟩ dX4_pass_169 (fun r_21 s_22 H locs e_23 hH => ?_)
          refine lv_goto (tgt := 176) hx hb dX4_pass_172 (by decide) ?_
          refine lv_istore (lv' := [(7, .int r_21), (6, .int (nI (h + 1))), (8, .int (nI (digN (len - (h + 1)) x % 10))), (0, .ref (ea E 47)), (1, .int row), (2, .int worth), (3, .int (bz back)), (5, .int (nI len))]) hx hb dX4_pass_176 hl (by decide) rfl (fun ls hl => ?_)
          refine lv_iload hx hb dX4_pass_178 (lv_at hl 0 rfl) ?_
          refine lv_if_ne (tgt := 206) hx hb dX4_pass_180 (by decide) (fun c_24 => ?_) (fun c_24 => ?_)
          · refine lv_iload hx hb dX4_pass_206 (lv_at hl 0 rfl) ?_
            refine lv_istore (lv' := [(7, .int r_21), (6, .int (nI (h + 1))), (8, .int (nI (digN (len - (h + 1)) x % 10))), (0, .ref (ea E 47)), (1, .int row), (2, .int worth), (3, .int (bz back)), (5, .int (nI len))]) hx hb dX4_pass_208 hl (by decide) rfl (fun ls hl => ?_)
            refine lv_goto (tgt := 110) hx hb dX4_pass_210 (by decide) ?_
            have hn2 := hn.2 c_1
            exact ih (h + 1) r_21 σ s_22 H locs ls ⟨(by omega), (fun hz => by first | omega | exact absurd hz (by assumption))⟩ hH (lv_sub hl [3, 4, 5, 6, 7, 1, 0] rfl) (fun hF fF mF H locs ls e h6 hH hl => hk hF fF mF H locs ls (by simpa only [mainL, if_pos c_1, e_5, if_pos c_6, if_neg c_7, e_23, if_neg c_24] using e) h6 hH hl)
          · refine lv_iload hx hb dX4_pass_183 (lv_at hl 1 rfl) ?_
            refine lv_iload hx hb dX4_pass_185 (lv_at hl 7 rfl) ?_
            refine lv_icmp_lt (tgt := 196) hx hb dX4_pass_187 (by decide) (fun c_25 => ?_) (fun c_25 => ?_)
            · refine lv_aload_n hx hb dX4_pass_196 rfl (lv_at hl 3 rfl) ?_
              refine lv_iload hx hb dX4_pass_197 (lv_at hl 2 rfl) ?_
              refine lv_iload_n hx hb dX4_pass_199 rfl (lv_at hl 5 rfl) ?_
              refine x_calliM F hH 47 (F.lt (by omega)) (vv4 0) rfl (c_X4_pay l F.ad σ s_22 (digN (len - (h + 1)) x % 10) worth (by omega)) cw_X4_89 rfl rfl ⟨Nat.le_of_ble_eq_true rfl, Nat.le_of_ble_eq_true rfl⟩ rfl hl.1 rfl (Nat.le_of_ble_eq_true rfl) ⟨Nat.zero_le _, Nat.zero_le _⟩ dX4_pass_200 (fun r_26 s_27 H locs e_28 hH => ?_)
              refine lv_goto (tgt := 208) hx hb dX4_pass_203 (by decide) ?_
              refine lv_istore (lv' := [(7, .int r_26), (6, .int (nI (h + 1))), (8, .int (nI (digN (len - (h + 1)) x % 10))), (0, .ref (ea E 47)), (1, .int row), (2, .int worth), (3, .int (bz back)), (5, .int (nI len))]) hx hb dX4_pass_208 hl (by decide) rfl (fun ls hl => ?_)
              refine lv_goto (tgt := 110) hx hb dX4_pass_210 (by decide) ?_
              have hn2 := hn.2 c_1
              exact ih (h + 1) r_26 σ s_27 H locs ls ⟨(by omega), (fun hz => by first | omega | exact absurd hz (by assumption))⟩ hH (lv_sub hl [3, 4, 5, 6, 7, 1, 0] rfl) (fun hF fF mF H locs ls e h6 hH hl => hk hF fF mF H locs ls (by simpa only [mainL, if_pos c_1, e_5, if_pos c_6, if_neg c_7, e_23, if_pos c_24, if_pos c_25, e_28] using e) h6 hH hl)
            · refine lv_iload hx hb dX4_pass_190 (lv_at hl 7 rfl) ?_
              refine lv_iconst (v := 1) hx hb dX4_pass_192 (by decide) ?_
              refine lv_icmp_ne (tgt := 206) hx hb dX4_pass_193 (by decide) (fun c_29 => ?_) (fun c_29 => ?_)
              · have q_30 := mt (fq_eq (a := len) (b := 1) rfl (by omega) (by omega)).mpr c_29
                refine lv_iload hx hb dX4_pass_206 (lv_at hl 0 rfl) ?_
                refine lv_istore (lv' := [(7, .int r_21), (6, .int (nI (h + 1))), (8, .int (nI (digN (len - (h + 1)) x % 10))), (0, .ref (ea E 47)), (1, .int row), (2, .int worth), (3, .int (bz back)), (5, .int (nI len))]) hx hb dX4_pass_208 hl (by decide) rfl (fun ls hl => ?_)
                refine lv_goto (tgt := 110) hx hb dX4_pass_210 (by decide) ?_
                have hn2 := hn.2 c_1
                exact ih (h + 1) r_21 σ s_22 H locs ls ⟨(by omega), (fun hz => by first | omega | exact absurd hz (by assumption))⟩ hH (lv_sub hl [3, 4, 5, 6, 7, 1, 0] rfl) (fun hF fF mF H locs ls e h6 hH hl => hk hF fF mF H locs ls (by simpa only [mainL, if_pos c_1, e_5, if_pos c_6, if_neg c_7, e_23, if_pos c_24, if_neg c_25, if_neg c_29] using e) h6 hH hl)
              · have q_31 := (fq_eq (a := len) (b := 1) rfl (by omega) (by omega)).mp c_29
                refine lv_aload_n hx hb dX4_pass_196 rfl (lv_at hl 3 rfl) ?_
                refine lv_iload hx hb dX4_pass_197 (lv_at hl 2 rfl) ?_
                refine lv_iload_n hx hb dX4_pass_199 rfl (lv_at hl 5 rfl) ?_
                refine x_calliM F hH 47 (F.lt (by omega)) (vv4 0) rfl (c_X4_pay l F.ad σ s_22 (digN (len - (h + 1)) x % 10) worth (by omega)) cw_X4_89 rfl rfl ⟨Nat.le_of_ble_eq_true rfl, Nat.le_of_ble_eq_true rfl⟩ rfl hl.1 rfl (Nat.le_of_ble_eq_true rfl) ⟨Nat.zero_le _, Nat.zero_le _⟩ dX4_pass_200 (fun r_32 s_33 H locs e_34 hH => ?_)
                refine lv_goto (tgt := 208) hx hb dX4_pass_203 (by decide) ?_
                refine lv_istore (lv' := [(7, .int r_32), (6, .int (nI (h + 1))), (8, .int (nI (digN (len - (h + 1)) x % 10))), (0, .ref (ea E 47)), (1, .int row), (2, .int worth), (3, .int (bz back)), (5, .int (nI len))]) hx hb dX4_pass_208 hl (by decide) rfl (fun ls hl => ?_)
                refine lv_goto (tgt := 110) hx hb dX4_pass_210 (by decide) ?_
                have hn2 := hn.2 c_1
                exact ih (h + 1) r_32 σ s_33 H locs ls ⟨(by omega), (fun hz => by first | omega | exact absurd hz (by assumption))⟩ hH (lv_sub hl [3, 4, 5, 6, 7, 1, 0] rfl) (fun hF fF mF H locs ls e h6 hH hl => hk hF fF mF H locs ls (by simpa only [mainL, if_pos c_1, e_5, if_pos c_6, if_neg c_7, e_23, if_pos c_24, if_neg c_25, if_pos c_29, e_34] using e) h6 hH hl)
def unwL (x len : Nat) (back : Int32) : Nat → Int32 → St → Int32 × St
  | 0, f, μ => (f, μ)
  | n + 1, f, μ => match f_X4_leave μ f with
    | (f1, μ1) => if f1 = 0 then unwL x len back n f1 μ1 else if bz back = 0 then unwL x len back n f1 μ1 else unwL x len back n f1 (backL (digN (len - (n + 1)) x % 10) n 5 0 μ1)
set_option maxRecDepth 100000 in
set_option maxHeartbeats 4000000 in
theorem lp_X4_passC {p : Program} {l : Launch} {e : Env} {s : State} {m : MethodId} {args : Array Value} {below : List Frame} {meth : Method} {c : Code} {Q : State → Prop} {E : EV} (F : Fx E p s m args c cX4_pass RX4 9) (row back : Int32) (x len : Nat) (hrow : row = nI x) (hx7 : x < 777778) (hlen : len < 7) (hdig : ∀ k, k < len → digN (len - (k + 1)) x % 10 < 8) : ∀ (n : Nat) (f : Int32) (σ μ : St) (H : Heap) (locs : List Loc) (ls : Array Slot), n ≤ len → HS E s σ μ H locs → lv_has ls 9 [(0, .ref (ea E 47)), (1, .int row), (3, .int (bz back)), (5, .int (nI len)), (7, .int f), (8, .int (nI n + (-1)))] → (∀ (rf : Int32) (sf : St) (H : Heap) (locs : List Loc) (ls : Array Slot), unwL x len back n f μ = (rf, sf) → HS E s σ sf H locs → lv_has ls 9 [(0, .ref (ea E 47)), (1, .int row), (3, .int (bz back)), (5, .int (nI len)), (7, .int rf), (8, .int (nI 0 + (-1)))] → W p l e (rmL 3) s m args below meth c H locs 0 0 Q (F0 m 261 ls [])) → W p l e (rmL 3) s m args below meth c H locs 0 0 Q (F0 m 219 ls []) := by
  have hx := F.hx
  have hb := F.hb
  intro n
  induction n with
  | zero =>
    intro f σ μ H locs ls hn hH hl hk
    refine lv_iload hx hb dX4_pass_219 (lv_at hl 5 rfl) ?_
    refine lv_if_lt (tgt := 261) hx hb dX4_pass_221 (by decide) (fun _ => ?_) (fun c_1 => absurd (by decide) c_1)
    exact hk _ _ H locs ls (by simp only [unwL]) hH (lv_sub hl [0, 1, 2, 3, 4, 5] rfl)
  | succ n ih =>
    intro f σ μ H locs ls hn hH hl hk
    rw [pk_m1] at hl
    refine lv_iload hx hb dX4_pass_219 (lv_at hl 5 rfl) ?_
    refine lv_if_lt (tgt := 261) hx hb dX4_pass_221 (by decide) (fun c_1 => absurd c_1 (nI_pos (by omega))) (fun _ => ?_)
    refine lv_aload_n hx hb dX4_pass_224 rfl (lv_at hl 0 rfl) ?_
    refine lv_iload hx hb dX4_pass_225 (lv_at hl 4 rfl) ?_
    refine x_calliM F hH 47 (F.lt (by omega)) (vv4 0) rfl (c_X4_leave l F.ad σ μ f) cw_X4_82 rfl rfl ⟨Nat.le_of_ble_eq_true rfl, Nat.le_of_ble_eq_true rfl⟩ rfl hl.1 rfl (Nat.le_of_ble_eq_true rfl) ⟨Nat.zero_le _, Nat.zero_le _⟩ dX4_pass_227 (fun r_2 s_3 H locs e_4 hH => ?_)
    refine lv_istore (lv' := [(7, .int r_2), (0, .ref (ea E 47)), (1, .int row), (3, .int (bz back)), (5, .int (nI len)), (8, .int (nI n))]) hx hb dX4_pass_230 hl (by decide) rfl (fun ls hl => ?_)
    refine lv_iload hx hb dX4_pass_232 (lv_at hl 0 rfl) ?_
    refine lv_if_eq (tgt := 255) hx hb dX4_pass_234 (by decide) (fun c_5 => ?_) (fun c_5 => ?_)
    · refine lv_iinc (v := (nI n) + (-1)) (lv' := [(8, .int ((nI n) + (-1))), (7, .int r_2), (0, .ref (ea E 47)), (1, .int row), (3, .int (bz back)), (5, .int (nI len))]) hx hb dX4_pass_255 hl (k := 5) rfl rfl (by decide) rfl (fun ls hl => ?_)
      refine lv_goto (tgt := 219) hx hb dX4_pass_258 (by decide) ?_
      exact ih r_2 σ s_3 H locs ls (by omega) hH (lv_sub hl [2, 3, 4, 5, 1, 0] rfl) (fun rf sf H locs ls e hH hl => hk rf sf H locs ls (by simpa only [unwL, e_4, if_pos c_5] using e) hH hl)
    · refine lv_iload_n hx hb dX4_pass_237 rfl (lv_at hl 3 rfl) ?_
      refine lv_if_eq (tgt := 255) hx hb dX4_pass_238 (by decide) (fun c_6 => ?_) (fun c_6 => ?_)
      · refine lv_iinc (v := (nI n) + (-1)) (lv' := [(8, .int ((nI n) + (-1))), (7, .int r_2), (0, .ref (ea E 47)), (1, .int row), (3, .int (bz back)), (5, .int (nI len))]) hx hb dX4_pass_255 hl (k := 5) rfl rfl (by decide) rfl (fun ls hl => ?_)
        refine lv_goto (tgt := 219) hx hb dX4_pass_258 (by decide) ?_
        exact ih r_2 σ s_3 H locs ls (by omega) hH (lv_sub hl [2, 3, 4, 5, 1, 0] rfl) (fun rf sf H locs ls e hH hl => hk rf sf H locs ls (by simpa only [unwL, e_4, if_neg c_5, if_pos c_6] using e) hH hl)
      · refine lv_aload_n hx hb dX4_pass_241 rfl (lv_at hl 1 rfl) ?_
        refine lv_iload_n hx hb dX4_pass_242 rfl (lv_at hl 2 rfl) ?_
        refine x_top hrow ?_
        refine lv_iload hx hb dX4_pass_243 (lv_at hl 4 rfl) ?_
        refine lv_iload hx hb dX4_pass_245 (lv_at hl 5 rfl) ?_
        refine x_pure hx hb F.hml F.hown F.hts (c_X4_digit l x len n (by omega) (by omega) (by omega) (by omega)) cw_X4_96 rfl rfl ⟨Nat.le_of_ble_eq_true rfl, Nat.le_of_ble_eq_true rfl⟩ rfl hl.1 rfl (Nat.le_of_ble_eq_true rfl) ⟨Nat.zero_le _, Nat.zero_le _⟩ dX4_pass_247 ?_
        have d_7 := hdig n (by omega)
        refine lv_iload hx hb dX4_pass_250 (lv_at hl 5 rfl) ?_
        refine x_callv F hH 47 (F.lt (by omega)) (vv4 0) rfl (c_X4_putBack l F.ad σ s_3 (digN (len - (n + 1)) x % 10) n (by omega) (by omega)) cw_X4_104 rfl rfl ⟨Nat.le_of_ble_eq_true rfl, Nat.le_of_ble_eq_true rfl⟩ rfl hl.1 rfl (Nat.le_of_ble_eq_true rfl) ⟨Nat.zero_le _, Nat.zero_le _⟩ dX4_pass_252 (fun H locs hH => ?_)
        refine lv_iinc (v := (nI n) + (-1)) (lv' := [(8, .int ((nI n) + (-1))), (7, .int r_2), (0, .ref (ea E 47)), (1, .int row), (3, .int (bz back)), (5, .int (nI len))]) hx hb dX4_pass_255 hl (k := 5) rfl rfl (by decide) rfl (fun ls hl => ?_)
        refine lv_goto (tgt := 219) hx hb dX4_pass_258 (by decide) ?_
        exact ih r_2 σ (backL (digN (len - (n + 1)) x % 10) n 5 0 s_3) H locs ls (by omega) hH (lv_sub hl [2, 3, 4, 5, 1, 0] rfl) (fun rf sf H locs ls e hH hl => hk rf sf H locs ls (by simpa only [unwL, e_4, if_neg c_5, if_neg c_6] using e) hH hl)
theorem okL_z (x len : Nat) : ∀ (n k : Nat), okL x len n k 0 = 0 := by
  intro n
  induction n with
  | zero => intro k; rfl
  | succ n ih => intro k; rw [okL, if_pos rfl]; exact ih (k + 1)
theorem okL_spec (x len : Nat) : ∀ (n k : Nat) (g : Int32), ¬ okL x len n k g = 0 → ∀ j, k ≤ j → j < k + n → digN (len - (j + 1)) x % 10 < 8 := by
  intro n
  induction n with
  | zero => intro k g h j h1 h2; omega
  | succ n ih =>
    intro k g h j h1 h2
    rw [okL] at h
    split at h
    · exact absurd (okL_z x len n (k + 1)) h
    · split at h
      · exact absurd (okL_z x len n (k + 1)) h
      · rename_i hc
        by_cases hj : j = k
        · subst hj
          have := mt (fq_ge (a := digN (len - (j + 1)) x % 10) (b := 8) (x := 8) rfl (by omega) (by omega)).mpr hc
          omega
        · exact ih (k + 1) 1 h j (by omega) (by omega)
def f_X4_pass (μ : St) (row : Int32) (worth : Int32) (back : Int32) : Int32 × St :=
  if (f_X4_in row 0 777777) = 0 then
    ((-1), (up μ 0 0 0))
  else
    if (f_X4_in worth 0 10000) = 0 then
      ((-1), (up μ 0 0 0))
    else
      if (okL (tn row) (digsN 5 (tn row) 1) (digsN 5 (tn row) 1) 0 1) = 0 then
        ((-1), (up μ 0 0 0))
      else
        match mainL (tn row) (digsN 5 (tn row) 1) worth (digsN 5 (tn row) 1) 0 0 (keepL 8 6 5 0 (up μ 0 0 0)) with
        | (h_12, f_13, s_14) =>
          match unwL (tn row) (digsN 5 (tn row) 1) back h_12 f_13 s_14 with
          | (r_17, s_18) =>
            if r_17 = 0 then
              (f_X4_told r_17 (nI (digsN 5 (tn row) 1)), s_18)
            else
              if (bz back) = 0 then
                (f_X4_told r_17 (nI (digsN 5 (tn row) 1)), s_18)
              else
                (f_X4_told r_17 (nI (digsN 5 (tn row) 1)), (backL 8 6 5 0 s_18))
set_option maxRecDepth 100000 in
set_option maxHeartbeats 4000000 in
theorem c_X4_pass (l : Launch) {E : EV} (hA : AD E) (σ μ : St) (row : Int32) (worth : Int32) (back : Int32) : Met l yX4_pass (.code yX4_pass cX4_pass 9 (some .int) :: gtbl) (rmL 3) (va_Pc [.ref (ea E 47), .int row, .int worth, .int (bz back)] (PR E σ μ)) (QI E (f_X4_pass μ row worth back).1 σ (f_X4_pass μ row worth back).2) 0 0 (eA E) := by
  refine x_met (own := RX4) (by decide) rfl hA (Nat.le_of_ble_eq_true rfl) ?_
  intro p e s m below meth c ls F hr hlk hH hl
  have hl : lv_has ls 9 [(0, .ref (ea E 47)), (1, .int row), (2, .int worth), (3, .int (bz back))] := hl
  have hx := F.hx
  have hb := F.hb
  refine lv_aload_n hx hb dX4_pass_0 rfl (lv_at hl 0 rfl) ?_
  refine lv_iconst (v := 0) hx hb dX4_pass_1 (by decide) ?_
  refine p_X4_thrown F hH kw_297 dX4_pass_2 (fun H locs hH => ?_)
  refine lv_iload_n hx hb dX4_pass_5 rfl (lv_at hl 1 rfl) ?_
  refine lv_iconst (v := 0) hx hb dX4_pass_6 (by decide) ?_
  refine lv_ldc (v := 777777) hx hb F.hown (F.hts _ kw_407) dX4_pass_7 ?_
  refine x_pure hx hb F.hml F.hown F.hts (c_X4_in l row 0 777777) cw_X4_33 rfl rfl ⟨Nat.le_of_ble_eq_true rfl, Nat.le_of_ble_eq_true rfl⟩ rfl hl.1 rfl (Nat.le_of_ble_eq_true rfl) ⟨Nat.zero_le _, Nat.zero_le _⟩ dX4_pass_9 ?_
  refine lv_if_eq (tgt := 30) hx hb dX4_pass_12 (by decide) (fun c_1 => ?_) (fun c_1 => ?_)
  · refine lv_iconst (v := 0) hx hb dX4_pass_30 (by decide) ?_
    refine lv_istore (lv' := [(4, .int 0), (0, .ref (ea E 47)), (1, .int row), (2, .int worth), (3, .int (bz back))]) hx hb dX4_pass_31 hl (by decide) rfl (fun ls hl => ?_)
    refine lv_iload hx hb dX4_pass_33 (lv_at hl 0 rfl) ?_
    refine lv_if_eq (tgt := 45) hx hb dX4_pass_35 (by decide) (fun _ => ?_) (fun c_2 => absurd (by decide) c_2)
    refine lv_iconst (v := 0) hx hb dX4_pass_45 (by decide) ?_
    refine lv_istore (lv' := [(5, .int 0), (4, .int 0), (0, .ref (ea E 47)), (1, .int row), (2, .int worth), (3, .int (bz back))]) hx hb dX4_pass_46 hl (by decide) rfl (fun ls hl => ?_)
    refine lv_iconst (v := 0) hx hb dX4_pass_48 (by decide) ?_
    refine lv_istore (lv' := [(6, .int 0), (5, .int 0), (4, .int 0), (0, .ref (ea E 47)), (1, .int row), (2, .int worth), (3, .int (bz back))]) hx hb dX4_pass_49 hl (by decide) rfl (fun ls hl => ?_)
    refine lv_iload hx hb dX4_pass_51 (lv_at hl 0 rfl) ?_
    refine lv_iload hx hb dX4_pass_53 (lv_at hl 1 rfl) ?_
    refine lv_icmp_ge (tgt := 89) hx hb dX4_pass_55 (by decide) (fun _ => ?_) (fun c_3 => absurd (by decide) c_3)
    refine lv_iload hx hb dX4_pass_89 (lv_at hl 2 rfl) ?_
    refine lv_if_ne (tgt := 96) hx hb dX4_pass_91 (by decide) (fun c_4 => absurd (by decide) c_4) (fun _ => ?_)
    refine lv_iconst (v := -1) hx hb dX4_pass_94 (by decide) ?_
    exact x_iretM F hr hlk hH (by simp only [f_X4_pass, if_pos c_1]) dX4_pass_95
  · have q_5 := X4_in_n (M := 777777) rfl (by decide) c_1
    have q_5b := q_5.2
    refine lv_iload_n hx hb dX4_pass_15 rfl (lv_at hl 2 rfl) ?_
    refine lv_iconst (v := 0) hx hb dX4_pass_16 (by decide) ?_
    refine lv_sipush (v := 10000) hx hb dX4_pass_17 (by decide) ?_
    refine x_pure hx hb F.hml F.hown F.hts (c_X4_in l worth 0 10000) cw_X4_33 rfl rfl ⟨Nat.le_of_ble_eq_true rfl, Nat.le_of_ble_eq_true rfl⟩ rfl hl.1 rfl (Nat.le_of_ble_eq_true rfl) ⟨Nat.zero_le _, Nat.zero_le _⟩ dX4_pass_20 ?_
    refine lv_if_eq (tgt := 30) hx hb dX4_pass_23 (by decide) (fun c_6 => ?_) (fun c_6 => ?_)
    · refine lv_iconst (v := 0) hx hb dX4_pass_30 (by decide) ?_
      refine lv_istore (lv' := [(4, .int 0), (0, .ref (ea E 47)), (1, .int row), (2, .int worth), (3, .int (bz back))]) hx hb dX4_pass_31 hl (by decide) rfl (fun ls hl => ?_)
      refine lv_iload hx hb dX4_pass_33 (lv_at hl 0 rfl) ?_
      refine lv_if_eq (tgt := 45) hx hb dX4_pass_35 (by decide) (fun _ => ?_) (fun c_7 => absurd (by decide) c_7)
      refine lv_iconst (v := 0) hx hb dX4_pass_45 (by decide) ?_
      refine lv_istore (lv' := [(5, .int 0), (4, .int 0), (0, .ref (ea E 47)), (1, .int row), (2, .int worth), (3, .int (bz back))]) hx hb dX4_pass_46 hl (by decide) rfl (fun ls hl => ?_)
      refine lv_iconst (v := 0) hx hb dX4_pass_48 (by decide) ?_
      refine lv_istore (lv' := [(6, .int 0), (5, .int 0), (4, .int 0), (0, .ref (ea E 47)), (1, .int row), (2, .int worth), (3, .int (bz back))]) hx hb dX4_pass_49 hl (by decide) rfl (fun ls hl => ?_)
      refine lv_iload hx hb dX4_pass_51 (lv_at hl 0 rfl) ?_
      refine lv_iload hx hb dX4_pass_53 (lv_at hl 1 rfl) ?_
      refine lv_icmp_ge (tgt := 89) hx hb dX4_pass_55 (by decide) (fun _ => ?_) (fun c_8 => absurd (by decide) c_8)
      refine lv_iload hx hb dX4_pass_89 (lv_at hl 2 rfl) ?_
      refine lv_if_ne (tgt := 96) hx hb dX4_pass_91 (by decide) (fun c_9 => absurd (by decide) c_9) (fun _ => ?_)
      refine lv_iconst (v := -1) hx hb dX4_pass_94 (by decide) ?_
      exact x_iretM F hr hlk hH (by simp only [f_X4_pass, if_neg c_1, if_pos c_6]) dX4_pass_95
    · refine lv_iconst (v := 1) hx hb dX4_pass_26 (by decide) ?_
      refine lv_goto (tgt := 31) hx hb dX4_pass_27 (by decide) ?_
      refine lv_istore (lv' := [(4, .int 1), (0, .ref (ea E 47)), (1, .int row), (2, .int worth), (3, .int (bz back))]) hx hb dX4_pass_31 hl (by decide) rfl (fun ls hl => ?_)
      refine lv_iload hx hb dX4_pass_33 (lv_at hl 0 rfl) ?_
      refine lv_if_eq (tgt := 45) hx hb dX4_pass_35 (by decide) (fun c_10 => absurd c_10 (by decide)) (fun _ => ?_)
      refine lv_iload_n hx hb dX4_pass_38 rfl (lv_at hl 2 rfl) ?_
      refine x_top q_5.1 ?_
      refine x_pure hx hb F.hml F.hown F.hts (c_X4_digits l (tn row) (by omega)) cw_X4_93 rfl rfl ⟨Nat.le_of_ble_eq_true rfl, Nat.le_of_ble_eq_true rfl⟩ rfl hl.1 rfl (Nat.le_of_ble_eq_true rfl) ⟨Nat.zero_le _, Nat.zero_le _⟩ dX4_pass_39 ?_
      refine lv_goto (tgt := 46) hx hb dX4_pass_42 (by decide) ?_
      refine lv_istore (lv' := [(5, .int (nI (digsN 5 (tn row) 1))), (4, .int 1), (0, .ref (ea E 47)), (1, .int row), (2, .int worth), (3, .int (bz back))]) hx hb dX4_pass_46 hl (by decide) rfl (fun ls hl => ?_)
      refine lv_iconst (v := 0) hx hb dX4_pass_48 (by decide) ?_
      refine lv_istore (lv' := [(6, .int 0), (5, .int (nI (digsN 5 (tn row) 1))), (4, .int 1), (0, .ref (ea E 47)), (1, .int row), (2, .int worth), (3, .int (bz back))]) hx hb dX4_pass_49 hl (by decide) rfl (fun ls hl => ?_)
      have hdl := digsN_le 5 (tn row) 1
      refine lp_X4_passA F row worth back (tn row) (digsN 5 (tn row) 1) q_5.1 (by omega) (by omega) (digsN 5 (tn row) 1) 0 1 σ (up μ 0 0 0) _ _ ls (by omega) hH (lv_sub hl [3, 4, 5, 6, 1, 2, 0] rfl) (fun H locs ls hH hl => ?_)
      refine lv_iload hx hb dX4_pass_89 (lv_at hl 5 rfl) ?_
      refine lv_if_ne (tgt := 96) hx hb dX4_pass_91 (by decide) (fun c_11 => ?_) (fun c_11 => ?_)
      · have hdig : ∀ k, k < (digsN 5 (tn row) 1) → digN ((digsN 5 (tn row) 1) - (k + 1)) (tn row) % 10 < 8 := fun k hk => okL_spec (tn row) (digsN 5 (tn row) 1) (digsN 5 (tn row) 1) 0 1 c_11 k (Nat.zero_le _) (by omega)
        refine lv_aload_n hx hb dX4_pass_96 rfl (lv_at hl 0 rfl) ?_
        refine lv_bipush (v := 8) hx hb dX4_pass_97 (by decide) ?_
        refine lv_bipush (v := 6) hx hb dX4_pass_99 (by decide) ?_
        refine x_callv F hH 47 (F.lt (by omega)) (vv4 0) rfl (c_X4_keep l F.ad σ (up μ 0 0 0) 8 6 (by omega) (by omega)) cw_X4_100 rfl rfl ⟨Nat.le_of_ble_eq_true rfl, Nat.le_of_ble_eq_true rfl⟩ rfl hl.1 rfl (Nat.le_of_ble_eq_true rfl) ⟨Nat.zero_le _, Nat.zero_le _⟩ dX4_pass_101 (fun H locs hH => ?_)
        refine lv_iconst (v := 0) hx hb dX4_pass_104 (by decide) ?_
        refine lv_istore (lv' := [(6, .int 0), (0, .ref (ea E 47)), (1, .int row), (2, .int worth), (3, .int (bz back)), (5, .int (nI (digsN 5 (tn row) 1))), (4, .int (okL (tn row) (digsN 5 (tn row) 1) (digsN 5 (tn row) 1) 0 1))]) hx hb dX4_pass_105 hl (by decide) rfl (fun ls hl => ?_)
        refine lv_iconst (v := 0) hx hb dX4_pass_107 (by decide) ?_
        refine lv_istore (lv' := [(7, .int 0), (6, .int 0), (0, .ref (ea E 47)), (1, .int row), (2, .int worth), (3, .int (bz back)), (5, .int (nI (digsN 5 (tn row) 1))), (4, .int (okL (tn row) (digsN 5 (tn row) 1) (digsN 5 (tn row) 1) 0 1))]) hx hb dX4_pass_108 hl (by decide) rfl (fun ls hl => ?_)
        refine lp_X4_passB F row worth back (tn row) (digsN 5 (tn row) 1) q_5.1 (by omega) (by omega) hdig (digsN 5 (tn row) 1) 0 0 σ (keepL 8 6 5 0 (up μ 0 0 0)) _ _ ls ⟨(by omega), (fun _ => by omega)⟩ hH (lv_sub hl [2, 3, 4, 5, 6, 1, 0] rfl) (fun h_12 f_13 s_14 H locs ls e_15 q_16 hH hl => ?_)
        refine lv_iload hx hb dX4_pass_213 (lv_at hl 5 rfl) ?_
        refine lv_iconst (v := 1) hx hb dX4_pass_215 (by decide) ?_
        refine lv_isub hx hb dX4_pass_216 ?_
        refine x_top (nI_sub1 h_12) ?_
        refine lv_istore (lv' := [(8, .int (nI h_12 + (-1))), (0, .ref (ea E 47)), (1, .int row), (2, .int worth), (3, .int (bz back)), (5, .int (nI (digsN 5 (tn row) 1))), (6, .int (nI h_12)), (7, .int f_13)]) hx hb dX4_pass_217 hl (by decide) rfl (fun ls hl => ?_)
        refine lp_X4_passC F row back (tn row) (digsN 5 (tn row) 1) q_5.1 (by omega) (by omega) hdig h_12 f_13 σ s_14 _ _ ls (by omega) hH (lv_sub hl [1, 2, 4, 5, 7, 0] rfl) (fun r_17 s_18 H locs ls e_19 hH hl => ?_)
        refine lv_iload hx hb dX4_pass_261 (lv_at hl 4 rfl) ?_
        refine lv_if_eq (tgt := 278) hx hb dX4_pass_263 (by decide) (fun c_20 => ?_) (fun c_20 => ?_)
        · refine lv_iload hx hb dX4_pass_278 (lv_at hl 4 rfl) ?_
          refine lv_iload hx hb dX4_pass_280 (lv_at hl 3 rfl) ?_
          refine x_pure hx hb F.hml F.hown F.hts (c_X4_told l r_17 (nI (digsN 5 (tn row) 1))) cw_X4_79 rfl rfl ⟨Nat.le_of_ble_eq_true rfl, Nat.le_of_ble_eq_true rfl⟩ rfl hl.1 rfl (Nat.le_of_ble_eq_true rfl) ⟨Nat.zero_le _, Nat.zero_le _⟩ dX4_pass_282 ?_
          exact x_iretM F hr hlk hH (by simp only [f_X4_pass, if_neg c_1, if_neg c_6, if_neg c_11, e_15, e_19, if_pos c_20]) dX4_pass_285
        · refine lv_iload_n hx hb dX4_pass_266 rfl (lv_at hl 2 rfl) ?_
          refine lv_if_eq (tgt := 278) hx hb dX4_pass_267 (by decide) (fun c_21 => ?_) (fun c_21 => ?_)
          · refine lv_iload hx hb dX4_pass_278 (lv_at hl 4 rfl) ?_
            refine lv_iload hx hb dX4_pass_280 (lv_at hl 3 rfl) ?_
            refine x_pure hx hb F.hml F.hown F.hts (c_X4_told l r_17 (nI (digsN 5 (tn row) 1))) cw_X4_79 rfl rfl ⟨Nat.le_of_ble_eq_true rfl, Nat.le_of_ble_eq_true rfl⟩ rfl hl.1 rfl (Nat.le_of_ble_eq_true rfl) ⟨Nat.zero_le _, Nat.zero_le _⟩ dX4_pass_282 ?_
            exact x_iretM F hr hlk hH (by simp only [f_X4_pass, if_neg c_1, if_neg c_6, if_neg c_11, e_15, e_19, if_neg c_20, if_pos c_21]) dX4_pass_285
          · refine lv_aload_n hx hb dX4_pass_270 rfl (lv_at hl 0 rfl) ?_
            refine lv_bipush (v := 8) hx hb dX4_pass_271 (by decide) ?_
            refine lv_bipush (v := 6) hx hb dX4_pass_273 (by decide) ?_
            refine x_callv F hH 47 (F.lt (by omega)) (vv4 0) rfl (c_X4_putBack l F.ad σ s_18 8 6 (by omega) (by omega)) cw_X4_104 rfl rfl ⟨Nat.le_of_ble_eq_true rfl, Nat.le_of_ble_eq_true rfl⟩ rfl hl.1 rfl (Nat.le_of_ble_eq_true rfl) ⟨Nat.zero_le _, Nat.zero_le _⟩ dX4_pass_275 (fun H locs hH => ?_)
            refine lv_iload hx hb dX4_pass_278 (lv_at hl 4 rfl) ?_
            refine lv_iload hx hb dX4_pass_280 (lv_at hl 3 rfl) ?_
            refine x_pure hx hb F.hml F.hown F.hts (c_X4_told l r_17 (nI (digsN 5 (tn row) 1))) cw_X4_79 rfl rfl ⟨Nat.le_of_ble_eq_true rfl, Nat.le_of_ble_eq_true rfl⟩ rfl hl.1 rfl (Nat.le_of_ble_eq_true rfl) ⟨Nat.zero_le _, Nat.zero_le _⟩ dX4_pass_282 ?_
            exact x_iretM F hr hlk hH (by simp only [f_X4_pass, if_neg c_1, if_neg c_6, if_neg c_11, e_15, e_19, if_neg c_20, if_neg c_21]) dX4_pass_285
      · refine lv_iconst (v := -1) hx hb dX4_pass_94 (by decide) ?_
        exact x_iretM F hr hlk hH (by simp only [f_X4_pass, if_neg c_1, if_neg c_6, if_pos c_11]) dX4_pass_95
