def rowM (μ : St) (r : Nat) : Nat → Int32 := fun k => μ 4 (5 * r + k)
def wsumM (f : Nat → Int32) : Nat → Nat → Int32 → Int32
  | 0, _, acc => acc
  | n + 1, k, acc => wsumM f n (k + 1) (acc + f_X4_worthOf (nI k) * f k)
def goL (fr to w : Nat) : Nat → Nat → St → St
  | 0, _, μ => μ
  | n + 1, k, μ => goL fr to w n (k + 1) (up (up μ 4 (5 * fr + k) (μ 4 (5 * fr + k) - μ w k)) 4 (5 * to + k) ((up μ 4 (5 * fr + k) (μ 4 (5 * fr + k) - μ w k)) 4 (5 * to + k) + (up μ 4 (5 * fr + k) (μ 4 (5 * fr + k) - μ w k)) w k))
def lacksL (t : Nat) : Nat → Int32 → St → Int32 × St
  | 0, rest, μ => (rest, μ)
  | n + 1, rest, μ =>
    if μ 4 (5 * t + n) ≤ rest / f_X4_worthOf (nI n) then
      lacksL t n (rest - (up μ 5 n (μ 4 (5 * t + n))) 5 n * f_X4_worthOf (nI n)) (up μ 5 n (μ 4 (5 * t + n)))
    else
      lacksL t n (rest - (up μ 5 n (rest / f_X4_worthOf (nI n))) 5 n * f_X4_worthOf (nI n)) (up μ 5 n (rest / f_X4_worthOf (nI n)))
def empL (t : Nat) : Nat → Nat → St → St
  | 0, _, μ => μ
  | n + 1, k, μ => empL t n (k + 1) (up μ 4 (5 * t + k) 0)
def keepL (r at9 : Nat) : Nat → Nat → St → St
  | 0, _, μ => μ
  | n + 1, k, μ => keepL r at9 n (k + 1) (up μ 6 (5 * at9 + k) (μ 4 (5 * r + k)))
def backL (r at9 : Nat) : Nat → Nat → St → St
  | 0, _, μ => μ
  | n + 1, k, μ => backL r at9 n (k + 1) (up μ 4 (5 * r + k) (μ 6 (5 * at9 + k)))
def thereM (μ : St) : Nat → Nat → Int32 → Int32
  | 0, _, acc => acc
  | n + 1, k, acc => if bz (μ 1 k) = 0 then thereM μ n (k + 1) (acc + 0) else thereM μ n (k + 1) (acc + 1)
set_option maxRecDepth 100000 in
set_option maxHeartbeats 4000000 in
theorem lp_X4_all {p : Program} {l : Launch} {e : Env} {s : State} {m : MethodId} {args : Array Value} {below : List Frame} {meth : Method} {c : Code} {Q : State → Prop} {E : EV} (F : Fx E p s m args c cX4_all RX4 4) (r : Nat) (hr9 : r < 9) : ∀ (n : Nat) (k : Nat) (acc : Int32) (σ μ : St) (H : Heap) (locs : List Loc) (ls : Array Slot), k + n = 5 → HS E s σ μ H locs → lv_has ls 4 [(0, .ref (ea E 47)), (1, .int (nI r)), (2, .int acc), (3, .int (nI k))] → (∀ (H : Heap) (locs : List Loc) (ls : Array Slot), HS E s σ μ H locs → lv_has ls 4 [(0, .ref (ea E 47)), (1, .int (nI r)), (2, .int (sumL (rowM μ r) n k acc)), (3, .int (nI 5))] → W p l e (rmL 0) s m args below meth c H locs 0 0 Q (F0 m 28 ls [])) → W p l e (rmL 0) s m args below meth c H locs 0 0 Q (F0 m 4 ls []) := by
  have hx := F.hx
  have hb := F.hb
  intro n
  induction n with
  | zero =>
    intro k acc σ μ H locs ls hn hH hl hk
    obtain rfl : k = 5 := by omega
    refine lv_iload_n hx hb dX4_all_4 rfl (lv_at hl 3 rfl) ?_
    refine lv_iconst (v := 5) hx hb dX4_all_5 (by decide) ?_
    refine lv_icmp_ge (tgt := 28) hx hb dX4_all_6 (by decide) (fun _ => ?_) (fun c_1 => absurd (by decide) c_1)
    simp only [sumL, rowM] at hk
    exact hk H locs ls hH (lv_sub hl [0, 1, 2, 3] rfl)
  | succ n ih =>
    intro k acc σ μ H locs ls hn hH hl hk
    refine lv_iload_n hx hb dX4_all_4 rfl (lv_at hl 3 rfl) ?_
    refine lv_iconst (v := 5) hx hb dX4_all_5 (by decide) ?_
    refine lv_icmp_ge (tgt := 28) hx hb dX4_all_6 (by decide) (fun c_1 => absurd c_1 (nI_ge (show k < 5 by omega) (by decide))) (fun _ => ?_)
    refine lv_iload_n hx hb dX4_all_9 rfl (lv_at hl 2 rfl) ?_
    refine lv_aload_n hx hb dX4_all_10 rfl (lv_at hl 0 rfl) ?_
    refine g_X4_coins F hH kw_301 dX4_all_11 ?_
    refine lv_iconst (v := 5) hx hb dX4_all_14 (by decide) ?_
    refine lv_iload_n hx hb dX4_all_15 rfl (lv_at hl 1 rfl) ?_
    refine lv_imul hx hb dX4_all_16 ?_
    refine x_top (pk_mul 5 r) ?_
    refine lv_iload_n hx hb dX4_all_17 rfl (lv_at hl 3 rfl) ?_
    refine lv_iadd hx hb dX4_all_18 ?_
    refine x_top (nI_add (5 * r) k) ?_
    refine a_mco F hH ((5 * r) + k) (by omega) dX4_all_19 ?_
    refine lv_iadd hx hb dX4_all_20 ?_
    refine lv_istore_n (lv' := [(2, .int (acc + (μ 4 ((5 * r) + k)))), (0, .ref (ea E 47)), (1, .int (nI r)), (3, .int (nI k))]) hx hb dX4_all_21 rfl hl (by decide) rfl (fun ls hl => ?_)
    refine lv_iinc (v := nI (k + 1)) (lv' := [(3, .int (nI (k + 1))), (2, .int (acc + (μ 4 ((5 * r) + k)))), (0, .ref (ea E 47)), (1, .int (nI r))]) hx hb dX4_all_22 hl (k := 3) rfl (nI_1 k) (by decide) rfl (fun ls hl => ?_)
    refine lv_goto (tgt := 4) hx hb dX4_all_25 (by decide) ?_
    simp only [sumL, rowM] at hk
    exact ih (k + 1) (acc + (μ 4 ((5 * r) + k))) σ μ H locs ls (by omega) hH (lv_sub hl [2, 3, 1, 0] rfl) hk
set_option maxRecDepth 100000 in
set_option maxHeartbeats 4000000 in
theorem c_X4_all (l : Launch) {E : EV} (hA : AD E) (σ μ : St) (r : Nat) (hr : r < 9) : Met l yX4_all (.code yX4_all cX4_all 4 (some .int) :: gtbl) (rmL 0) (va_Pc [.ref (ea E 47), .int (nI r)] (PR E σ μ)) (QI E (sumL (rowM μ r) 5 0 0) σ μ) 0 0 (eA E) := by
  refine x_met (own := RX4) (by decide) rfl hA (Nat.le_of_ble_eq_true rfl) ?_
  intro p e s m below meth c ls F hr hlk hH hl
  have hl : lv_has ls 4 [(0, .ref (ea E 47)), (1, .int (nI r))] := hl
  have hx := F.hx
  have hb := F.hb
  refine lv_iconst (v := 0) hx hb dX4_all_0 (by decide) ?_
  refine lv_istore_n (lv' := [(2, .int 0), (0, .ref (ea E 47)), (1, .int (nI r))]) hx hb dX4_all_1 rfl hl (by decide) rfl (fun ls hl => ?_)
  refine lv_iconst (v := 0) hx hb dX4_all_2 (by decide) ?_
  refine lv_istore_n (lv' := [(3, .int 0), (2, .int 0), (0, .ref (ea E 47)), (1, .int (nI r))]) hx hb dX4_all_3 rfl hl (by decide) rfl (fun ls hl => ?_)
  refine lp_X4_all F r (by omega) 5 0 0 σ μ _ _ ls (by omega) hH (lv_sub hl [2, 3, 1, 0] rfl) (fun H locs ls hH hl => ?_)
  refine lv_iload_n hx hb dX4_all_28 rfl (lv_at hl 2 rfl) ?_
  exact x_iretR F hr hlk hH rfl dX4_all_29
set_option maxRecDepth 100000 in
set_option maxHeartbeats 4000000 in
theorem lp_X4_worth {p : Program} {l : Launch} {e : Env} {s : State} {m : MethodId} {args : Array Value} {below : List Frame} {meth : Method} {c : Code} {Q : State → Prop} {E : EV} (F : Fx E p s m args c cX4_worth RX4 4) (r : Nat) (hr9 : r < 9) : ∀ (n : Nat) (k : Nat) (acc : Int32) (σ μ : St) (H : Heap) (locs : List Loc) (ls : Array Slot), k + n = 5 → HS E s σ μ H locs → lv_has ls 4 [(0, .ref (ea E 47)), (1, .int (nI r)), (2, .int acc), (3, .int (nI k))] → (∀ (H : Heap) (locs : List Loc) (ls : Array Slot), HS E s σ μ H locs → lv_has ls 4 [(0, .ref (ea E 47)), (1, .int (nI r)), (2, .int (wsumM (rowM μ r) n k acc)), (3, .int (nI 5))] → W p l e (rmL 1) s m args below meth c H locs 0 0 Q (F0 m 33 ls [])) → W p l e (rmL 1) s m args below meth c H locs 0 0 Q (F0 m 4 ls []) := by
  have hx := F.hx
  have hb := F.hb
  intro n
  induction n with
  | zero =>
    intro k acc σ μ H locs ls hn hH hl hk
    obtain rfl : k = 5 := by omega
    refine lv_iload_n hx hb dX4_worth_4 rfl (lv_at hl 3 rfl) ?_
    refine lv_iconst (v := 5) hx hb dX4_worth_5 (by decide) ?_
    refine lv_icmp_ge (tgt := 33) hx hb dX4_worth_6 (by decide) (fun _ => ?_) (fun c_1 => absurd (by decide) c_1)
    simp only [wsumM, rowM] at hk
    exact hk H locs ls hH (lv_sub hl [0, 1, 2, 3] rfl)
  | succ n ih =>
    intro k acc σ μ H locs ls hn hH hl hk
    refine lv_iload_n hx hb dX4_worth_4 rfl (lv_at hl 3 rfl) ?_
    refine lv_iconst (v := 5) hx hb dX4_worth_5 (by decide) ?_
    refine lv_icmp_ge (tgt := 33) hx hb dX4_worth_6 (by decide) (fun c_1 => absurd c_1 (nI_ge (show k < 5 by omega) (by decide))) (fun _ => ?_)
    refine lv_iload_n hx hb dX4_worth_9 rfl (lv_at hl 2 rfl) ?_
    refine lv_iload_n hx hb dX4_worth_10 rfl (lv_at hl 3 rfl) ?_
    refine x_pure hx hb F.hml F.hown F.hts (c_X4_worthOf l (nI k)) cw_X4_37 rfl rfl ⟨Nat.le_of_ble_eq_true rfl, Nat.le_of_ble_eq_true rfl⟩ rfl hl.1 rfl (Nat.le_of_ble_eq_true rfl) ⟨Nat.zero_le _, Nat.zero_le _⟩ dX4_worth_11 ?_
    refine lv_aload_n hx hb dX4_worth_14 rfl (lv_at hl 0 rfl) ?_
    refine g_X4_coins F hH kw_301 dX4_worth_15 ?_
    refine lv_iconst (v := 5) hx hb dX4_worth_18 (by decide) ?_
    refine lv_iload_n hx hb dX4_worth_19 rfl (lv_at hl 1 rfl) ?_
    refine lv_imul hx hb dX4_worth_20 ?_
    refine x_top (pk_mul 5 r) ?_
    refine lv_iload_n hx hb dX4_worth_21 rfl (lv_at hl 3 rfl) ?_
    refine lv_iadd hx hb dX4_worth_22 ?_
    refine x_top (nI_add (5 * r) k) ?_
    refine a_mco F hH ((5 * r) + k) (by omega) dX4_worth_23 ?_
    refine lv_imul hx hb dX4_worth_24 ?_
    refine lv_iadd hx hb dX4_worth_25 ?_
    refine lv_istore_n (lv' := [(2, .int (acc + ((f_X4_worthOf (nI k)) * (μ 4 ((5 * r) + k))))), (0, .ref (ea E 47)), (1, .int (nI r)), (3, .int (nI k))]) hx hb dX4_worth_26 rfl hl (by decide) rfl (fun ls hl => ?_)
    refine lv_iinc (v := nI (k + 1)) (lv' := [(3, .int (nI (k + 1))), (2, .int (acc + ((f_X4_worthOf (nI k)) * (μ 4 ((5 * r) + k))))), (0, .ref (ea E 47)), (1, .int (nI r))]) hx hb dX4_worth_27 hl (k := 3) rfl (nI_1 k) (by decide) rfl (fun ls hl => ?_)
    refine lv_goto (tgt := 4) hx hb dX4_worth_30 (by decide) ?_
    simp only [wsumM, rowM] at hk
    exact ih (k + 1) (acc + ((f_X4_worthOf (nI k)) * (μ 4 ((5 * r) + k)))) σ μ H locs ls (by omega) hH (lv_sub hl [2, 3, 1, 0] rfl) hk
set_option maxRecDepth 100000 in
set_option maxHeartbeats 4000000 in
theorem c_X4_worth (l : Launch) {E : EV} (hA : AD E) (σ μ : St) (r : Nat) (hr : r < 9) : Met l yX4_worth (.code yX4_worth cX4_worth 4 (some .int) :: gtbl) (rmL 1) (va_Pc [.ref (ea E 47), .int (nI r)] (PR E σ μ)) (QI E (wsumM (rowM μ r) 5 0 0) σ μ) 0 0 (eA E) := by
  refine x_met (own := RX4) (by decide) rfl hA (Nat.le_of_ble_eq_true rfl) ?_
  intro p e s m below meth c ls F hr hlk hH hl
  have hl : lv_has ls 4 [(0, .ref (ea E 47)), (1, .int (nI r))] := hl
  have hx := F.hx
  have hb := F.hb
  refine lv_iconst (v := 0) hx hb dX4_worth_0 (by decide) ?_
  refine lv_istore_n (lv' := [(2, .int 0), (0, .ref (ea E 47)), (1, .int (nI r))]) hx hb dX4_worth_1 rfl hl (by decide) rfl (fun ls hl => ?_)
  refine lv_iconst (v := 0) hx hb dX4_worth_2 (by decide) ?_
  refine lv_istore_n (lv' := [(3, .int 0), (2, .int 0), (0, .ref (ea E 47)), (1, .int (nI r))]) hx hb dX4_worth_3 rfl hl (by decide) rfl (fun ls hl => ?_)
  refine lp_X4_worth F r (by omega) 5 0 0 σ μ _ _ ls (by omega) hH (lv_sub hl [2, 3, 1, 0] rfl) (fun H locs ls hH hl => ?_)
  refine lv_iload_n hx hb dX4_worth_33 rfl (lv_at hl 2 rfl) ?_
  exact x_iretR F hr hlk hH rfl dX4_worth_34
set_option maxRecDepth 100000 in
set_option maxHeartbeats 4000000 in
theorem lp_X4_sum {p : Program} {l : Launch} {e : Env} {s : State} {m : MethodId} {args : Array Value} {below : List Frame} {meth : Method} {c : Code} {Q : State → Prop} {E : EV} (F : Fx E p s m args c cX4_sum RX4 3) (w : Nat) (hw : w = 5 ∨ (w = 7 ∧ 54 < en E)) : ∀ (n : Nat) (k : Nat) (acc : Int32) (σ μ : St) (H : Heap) (locs : List Loc) (ls : Array Slot), k + n = 5 → HS E s σ μ H locs → lv_has ls 3 [(0, .ref (ea E (47 + w))), (1, .int acc), (2, .int (nI k))] → (∀ (H : Heap) (locs : List Loc) (ls : Array Slot), HS E s σ μ H locs → lv_has ls 3 [(0, .ref (ea E (47 + w))), (1, .int (sumL (μ w) n k acc)), (2, .int (nI 5))] → W p l e (rmL 0) s m args below meth c H locs 0 0 Q (F0 m 21 ls [])) → W p l e (rmL 0) s m args below meth c H locs 0 0 Q (F0 m 4 ls []) := by
  have hx := F.hx
  have hb := F.hb
  intro n
  induction n with
  | zero =>
    intro k acc σ μ H locs ls hn hH hl hk
    obtain rfl : k = 5 := by omega
    refine lv_iload_n hx hb dX4_sum_4 rfl (lv_at hl 2 rfl) ?_
    refine lv_iconst (v := 5) hx hb dX4_sum_5 (by decide) ?_
    refine lv_icmp_ge (tgt := 21) hx hb dX4_sum_6 (by decide) (fun _ => ?_) (fun c_1 => absurd (by decide) c_1)
    simp only [sumL] at hk
    exact hk H locs ls hH (lv_sub hl [0, 1, 2] rfl)
  | succ n ih =>
    intro k acc σ μ H locs ls hn hH hl hk
    refine lv_iload_n hx hb dX4_sum_4 rfl (lv_at hl 2 rfl) ?_
    refine lv_iconst (v := 5) hx hb dX4_sum_5 (by decide) ?_
    refine lv_icmp_ge (tgt := 21) hx hb dX4_sum_6 (by decide) (fun c_1 => absurd c_1 (nI_ge (show k < 5 by omega) (by decide))) (fun _ => ?_)
    refine lv_iload_n hx hb dX4_sum_9 rfl (lv_at hl 1 rfl) ?_
    refine lv_aload_n hx hb dX4_sum_10 rfl (lv_at hl 0 rfl) ?_
    refine lv_iload_n hx hb dX4_sum_11 rfl (lv_at hl 2 rfl) ?_
    refine a_mA F hH hw k (by omega) dX4_sum_12 ?_
    refine lv_iadd hx hb dX4_sum_13 ?_
    refine lv_istore_n (lv' := [(1, .int (acc + (μ w k))), (0, .ref (ea E (47 + w))), (2, .int (nI k))]) hx hb dX4_sum_14 rfl hl (by decide) rfl (fun ls hl => ?_)
    refine lv_iinc (v := nI (k + 1)) (lv' := [(2, .int (nI (k + 1))), (1, .int (acc + (μ w k))), (0, .ref (ea E (47 + w)))]) hx hb dX4_sum_15 hl (k := 2) rfl (nI_1 k) (by decide) rfl (fun ls hl => ?_)
    refine lv_goto (tgt := 4) hx hb dX4_sum_18 (by decide) ?_
    simp only [sumL] at hk
    exact ih (k + 1) (acc + (μ w k)) σ μ H locs ls (by omega) hH (lv_sub hl [2, 1, 0] rfl) hk
set_option maxRecDepth 100000 in
set_option maxHeartbeats 4000000 in
theorem c_X4_sum (l : Launch) {E : EV} (hA : AD E) (σ μ : St) (w : Nat) (hw : w = 5 ∨ (w = 7 ∧ 54 < en E)) : Met l yX4_sum (.code yX4_sum cX4_sum 3 (some .int) :: gtbl) (rmL 0) (va_Pc [.ref (ea E (47 + w))] (PR E σ μ)) (QI E (sumL (μ w) 5 0 0) σ μ) 0 0 (eA E) := by
  refine x_met (own := RX4) (by decide) rfl hA (Nat.le_of_ble_eq_true rfl) ?_
  intro p e s m below meth c ls F hr hlk hH hl
  have hl : lv_has ls 3 [(0, .ref (ea E (47 + w)))] := hl
  have hx := F.hx
  have hb := F.hb
  refine lv_iconst (v := 0) hx hb dX4_sum_0 (by decide) ?_
  refine lv_istore_n (lv' := [(1, .int 0), (0, .ref (ea E (47 + w)))]) hx hb dX4_sum_1 rfl hl (by decide) rfl (fun ls hl => ?_)
  refine lv_iconst (v := 0) hx hb dX4_sum_2 (by decide) ?_
  refine lv_istore_n (lv' := [(2, .int 0), (1, .int 0), (0, .ref (ea E (47 + w)))]) hx hb dX4_sum_3 rfl hl (by decide) rfl (fun ls hl => ?_)
  refine lp_X4_sum F w hw 5 0 0 σ μ _ _ ls (by omega) hH (lv_sub hl [2, 1, 0] rfl) (fun H locs ls hH hl => ?_)
  refine lv_iload_n hx hb dX4_sum_21 rfl (lv_at hl 1 rfl) ?_
  exact x_iretR F hr hlk hH rfl dX4_sum_22
set_option maxRecDepth 100000 in
set_option maxHeartbeats 4000000 in
theorem lp_X4_go {p : Program} {l : Launch} {e : Env} {s : State} {m : MethodId} {args : Array Value} {below : List Frame} {meth : Method} {c : Code} {Q : State → Prop} {E : EV} (F : Fx E p s m args c cX4_go RX4 5) (fr to w : Nat) (hfr : fr < 9) (hto : to < 9) (hw : w = 5 ∨ (w = 7 ∧ 54 < en E)) : ∀ (n : Nat) (k : Nat) (σ μ : St) (H : Heap) (locs : List Loc) (ls : Array Slot), k + n = 5 → HS E s σ μ H locs → lv_has ls 5 [(0, .ref (ea E 47)), (1, .int (nI fr)), (2, .int (nI to)), (3, .ref (ea E (47 + w))), (4, .int (nI k))] → (∀ (H : Heap) (locs : List Loc) (ls : Array Slot), HS E s σ (goL fr to w n k μ) H locs → lv_has ls 5 [(0, .ref (ea E 47)), (1, .int (nI fr)), (2, .int (nI to)), (3, .ref (ea E (47 + w))), (4, .int (nI 5))] → W p l e (rmL 0) s m args below meth c H locs 0 0 Q (F0 m 51 ls [])) → W p l e (rmL 0) s m args below meth c H locs 0 0 Q (F0 m 3 ls []) := by
  have hx := F.hx
  have hb := F.hb
  intro n
  induction n with
  | zero =>
    intro k σ μ H locs ls hn hH hl hk
    obtain rfl : k = 5 := by omega
    refine lv_iload hx hb dX4_go_3 (lv_at hl 4 rfl) ?_
    refine lv_iconst (v := 5) hx hb dX4_go_5 (by decide) ?_
    refine lv_icmp_ge (tgt := 51) hx hb dX4_go_6 (by decide) (fun _ => ?_) (fun c_1 => absurd (by decide) c_1)
    simp only [goL] at hk
    exact hk H locs ls hH (lv_sub hl [0, 1, 2, 3, 4] rfl)
  | succ n ih =>
    intro k σ μ H locs ls hn hH hl hk
    refine lv_iload hx hb dX4_go_3 (lv_at hl 4 rfl) ?_
    refine lv_iconst (v := 5) hx hb dX4_go_5 (by decide) ?_
    refine lv_icmp_ge (tgt := 51) hx hb dX4_go_6 (by decide) (fun c_1 => absurd c_1 (nI_ge (show k < 5 by omega) (by decide))) (fun _ => ?_)
    refine lv_aload_n hx hb dX4_go_9 rfl (lv_at hl 0 rfl) ?_
    refine g_X4_coins F hH kw_301 dX4_go_10 ?_
    refine lv_iconst (v := 5) hx hb dX4_go_13 (by decide) ?_
    refine lv_iload_n hx hb dX4_go_14 rfl (lv_at hl 1 rfl) ?_
    refine lv_imul hx hb dX4_go_15 ?_
    refine x_top (pk_mul 5 fr) ?_
    refine lv_iload hx hb dX4_go_16 (lv_at hl 4 rfl) ?_
    refine lv_iadd hx hb dX4_go_18 ?_
    refine x_top (nI_add (5 * fr) k) ?_
    refine lv_dup2_11 hx hb dX4_go_19 rfl rfl ?_
    refine a_mco F hH ((5 * fr) + k) (by omega) dX4_go_20 ?_
    refine lv_aload_n hx hb dX4_go_21 rfl (lv_at hl 3 rfl) ?_
    refine lv_iload hx hb dX4_go_22 (lv_at hl 4 rfl) ?_
    refine a_mA F hH hw k (by omega) dX4_go_24 ?_
    refine lv_isub hx hb dX4_go_25 ?_
    refine s_mco F hH ((5 * fr) + k) (by omega) dX4_go_26 (fun H locs hH => ?_)
    refine lv_aload_n hx hb dX4_go_27 rfl (lv_at hl 0 rfl) ?_
    refine g_X4_coins F hH kw_301 dX4_go_28 ?_
    refine lv_iconst (v := 5) hx hb dX4_go_31 (by decide) ?_
    refine lv_iload_n hx hb dX4_go_32 rfl (lv_at hl 2 rfl) ?_
    refine lv_imul hx hb dX4_go_33 ?_
    refine x_top (pk_mul 5 to) ?_
    refine lv_iload hx hb dX4_go_34 (lv_at hl 4 rfl) ?_
    refine lv_iadd hx hb dX4_go_36 ?_
    refine x_top (nI_add (5 * to) k) ?_
    refine lv_dup2_11 hx hb dX4_go_37 rfl rfl ?_
    refine a_mco F hH ((5 * to) + k) (by omega) dX4_go_38 ?_
    refine lv_aload_n hx hb dX4_go_39 rfl (lv_at hl 3 rfl) ?_
    refine lv_iload hx hb dX4_go_40 (lv_at hl 4 rfl) ?_
    refine a_mA F hH hw k (by omega) dX4_go_42 ?_
    refine lv_iadd hx hb dX4_go_43 ?_
    refine s_mco F hH ((5 * to) + k) (by omega) dX4_go_44 (fun H locs hH => ?_)
    refine lv_iinc (v := nI (k + 1)) (lv' := [(4, .int (nI (k + 1))), (0, .ref (ea E 47)), (1, .int (nI fr)), (2, .int (nI to)), (3, .ref (ea E (47 + w)))]) hx hb dX4_go_45 hl (k := 4) rfl (nI_1 k) (by decide) rfl (fun ls hl => ?_)
    refine lv_goto (tgt := 3) hx hb dX4_go_48 (by decide) ?_
    simp only [goL] at hk
    exact ih (k + 1) σ (up (up μ 4 ((5 * fr) + k) ((μ 4 ((5 * fr) + k)) - (μ w k))) 4 ((5 * to) + k) (((up μ 4 ((5 * fr) + k) ((μ 4 ((5 * fr) + k)) - (μ w k))) 4 ((5 * to) + k)) + ((up μ 4 ((5 * fr) + k) ((μ 4 ((5 * fr) + k)) - (μ w k))) w k))) H locs ls (by omega) hH (lv_sub hl [1, 2, 3, 4, 0] rfl) hk
set_option maxRecDepth 100000 in
set_option maxHeartbeats 4000000 in
theorem c_X4_go (l : Launch) {E : EV} (hA : AD E) (σ μ : St) (fr : Nat) (to : Nat) (w : Nat) (hfr : fr < 9) (hto : to < 9) (hw : w = 5 ∨ (w = 7 ∧ 54 < en E)) : Met l yX4_go (.code yX4_go cX4_go 5 none :: gtbl) (rmL 0) (va_Pc [.ref (ea E 47), .int (nI fr), .int (nI to), .ref (ea E (47 + w))] (PR E σ μ)) (QV E σ (goL fr to w 5 0 μ)) 0 0 (eA E) := by
  refine x_met (own := RX4) (by decide) rfl hA (Nat.le_of_ble_eq_true rfl) ?_
  intro p e s m below meth c ls F hr hlk hH hl
  have hl : lv_has ls 5 [(0, .ref (ea E 47)), (1, .int (nI fr)), (2, .int (nI to)), (3, .ref (ea E (47 + w)))] := hl
  have hx := F.hx
  have hb := F.hb
  refine lv_iconst (v := 0) hx hb dX4_go_0 (by decide) ?_
  refine lv_istore (lv' := [(4, .int 0), (0, .ref (ea E 47)), (1, .int (nI fr)), (2, .int (nI to)), (3, .ref (ea E (47 + w)))]) hx hb dX4_go_1 hl (by decide) rfl (fun ls hl => ?_)
  refine lp_X4_go F fr to w hfr hto hw 5 0 σ μ _ _ ls (by omega) hH (lv_sub hl [1, 2, 3, 4, 0] rfl) (fun H locs ls hH hl => ?_)
  exact x_vret F hr hlk hH rfl rfl dX4_go_51
set_option maxRecDepth 100000 in
set_option maxHeartbeats 4000000 in
theorem lp_X4_lacks {p : Program} {l : Launch} {e : Env} {s : State} {m : MethodId} {args : Array Value} {below : List Frame} {meth : Method} {c : Code} {Q : State → Prop} {E : EV} (F : Fx E p s m args c cX4_lacks RX4 6) (t : Nat) (ht : t < 8) : ∀ (n : Nat) (rest : Int32) (σ μ : St) (H : Heap) (locs : List Loc) (ls : Array Slot), n ≤ 5 → HS E s σ μ H locs → lv_has ls 6 [(0, .ref (ea E 47)), (1, .int (nI t)), (3, .int rest), (4, .int (nI n + (-1)))] → (∀ (rf : Int32) (sf : St) (H : Heap) (locs : List Loc) (ls : Array Slot), lacksL t n rest μ = (rf, sf) → HS E s σ sf H locs → lv_has ls 6 [(0, .ref (ea E 47)), (1, .int (nI t)), (3, .int rf), (4, .int (nI 0 + (-1)))] → W p l e (rmL 1) s m args below meth c H locs 0 0 Q (F0 m 80 ls [])) → W p l e (rmL 1) s m args below meth c H locs 0 0 Q (F0 m 5 ls []) := by
  have hx := F.hx
  have hb := F.hb
  intro n
  induction n with
  | zero =>
    intro rest σ μ H locs ls hn hH hl hk
    refine lv_iload hx hb dX4_lacks_5 (lv_at hl 3 rfl) ?_
    refine lv_if_lt (tgt := 80) hx hb dX4_lacks_7 (by decide) (fun _ => ?_) (fun c_1 => absurd (by decide) c_1)
    exact hk _ _ H locs ls (by simp only [lacksL]) hH (lv_sub hl [0, 1, 2, 3] rfl)
  | succ n ih =>
    intro rest σ μ H locs ls hn hH hl hk
    rw [pk_m1] at hl
    refine lv_iload hx hb dX4_lacks_5 (lv_at hl 3 rfl) ?_
    refine lv_if_lt (tgt := 80) hx hb dX4_lacks_7 (by decide) (fun c_1 => absurd c_1 (nI_pos (by omega))) (fun _ => ?_)
    refine lv_iload_n hx hb dX4_lacks_10 rfl (lv_at hl 2 rfl) ?_
    refine lv_iload hx hb dX4_lacks_11 (lv_at hl 3 rfl) ?_
    refine x_pure hx hb F.hml F.hown F.hts (c_X4_worthOf l (nI n)) cw_X4_37 rfl rfl ⟨Nat.le_of_ble_eq_true rfl, Nat.le_of_ble_eq_true rfl⟩ rfl hl.1 rfl (Nat.le_of_ble_eq_true rfl) ⟨Nat.zero_le _, Nat.zero_le _⟩ dX4_lacks_13 ?_
    refine lv_idiv hx hb dX4_lacks_16 (worthOf_ne _) ?_
    refine lv_istore (lv' := [(5, .int (rest / (f_X4_worthOf (nI n)))), (0, .ref (ea E 47)), (1, .int (nI t)), (3, .int rest), (4, .int (nI n))]) hx hb dX4_lacks_17 hl (by decide) rfl (fun ls hl => ?_)
    refine lv_aload_n hx hb dX4_lacks_19 rfl (lv_at hl 1 rfl) ?_
    refine g_X4_paid F hH kw_306 dX4_lacks_20 ?_
    refine lv_iload hx hb dX4_lacks_23 (lv_at hl 4 rfl) ?_
    refine lv_iload hx hb dX4_lacks_25 (lv_at hl 0 rfl) ?_
    refine lv_aload_n hx hb dX4_lacks_27 rfl (lv_at hl 1 rfl) ?_
    refine g_X4_coins F hH kw_301 dX4_lacks_28 ?_
    refine lv_iconst (v := 5) hx hb dX4_lacks_31 (by decide) ?_
    refine lv_iload_n hx hb dX4_lacks_32 rfl (lv_at hl 2 rfl) ?_
    refine lv_imul hx hb dX4_lacks_33 ?_
    refine x_top (pk_mul 5 t) ?_
    refine lv_iload hx hb dX4_lacks_34 (lv_at hl 4 rfl) ?_
    refine lv_iadd hx hb dX4_lacks_36 ?_
    refine x_top (nI_add (5 * t) n) ?_
    refine a_mco F hH ((5 * t) + n) (by omega) dX4_lacks_37 ?_
    refine lv_icmp_ge (tgt := 46) hx hb dX4_lacks_38 (by decide) (fun c_2 => ?_) (fun c_2 => ?_)
    · refine lv_aload_n hx hb dX4_lacks_46 rfl (lv_at hl 1 rfl) ?_
      refine g_X4_coins F hH kw_301 dX4_lacks_47 ?_
      refine lv_iconst (v := 5) hx hb dX4_lacks_50 (by decide) ?_
      refine lv_iload_n hx hb dX4_lacks_51 rfl (lv_at hl 2 rfl) ?_
      refine lv_imul hx hb dX4_lacks_52 ?_
      refine x_top (pk_mul 5 t) ?_
      refine lv_iload hx hb dX4_lacks_53 (lv_at hl 4 rfl) ?_
      refine lv_iadd hx hb dX4_lacks_55 ?_
      refine x_top (nI_add (5 * t) n) ?_
      refine a_mco F hH ((5 * t) + n) (by omega) dX4_lacks_56 ?_
      refine s_mpa F hH n (by omega) dX4_lacks_57 (fun H locs hH => ?_)
      refine lv_iload_n hx hb dX4_lacks_58 rfl (lv_at hl 3 rfl) ?_
      refine lv_aload_n hx hb dX4_lacks_59 rfl (lv_at hl 1 rfl) ?_
      refine g_X4_paid F hH kw_306 dX4_lacks_60 ?_
      refine lv_iload hx hb dX4_lacks_63 (lv_at hl 4 rfl) ?_
      refine a_mpa F hH n (by omega) dX4_lacks_65 ?_
      refine lv_iload hx hb dX4_lacks_66 (lv_at hl 4 rfl) ?_
      refine x_pure hx hb F.hml F.hown F.hts (c_X4_worthOf l (nI n)) cw_X4_37 rfl rfl ⟨Nat.le_of_ble_eq_true rfl, Nat.le_of_ble_eq_true rfl⟩ rfl hl.1 rfl (Nat.le_of_ble_eq_true rfl) ⟨Nat.zero_le _, Nat.zero_le _⟩ dX4_lacks_68 ?_
      refine lv_imul hx hb dX4_lacks_71 ?_
      refine lv_isub hx hb dX4_lacks_72 ?_
      refine lv_istore_n (lv' := [(3, .int (rest - (((up μ 5 n (μ 4 ((5 * t) + n))) 5 n) * (f_X4_worthOf (nI n))))), (5, .int (rest / (f_X4_worthOf (nI n)))), (0, .ref (ea E 47)), (1, .int (nI t)), (4, .int (nI n))]) hx hb dX4_lacks_73 rfl hl (by decide) rfl (fun ls hl => ?_)
      refine lv_iinc (v := (nI n) + (-1)) (lv' := [(4, .int ((nI n) + (-1))), (3, .int (rest - (((up μ 5 n (μ 4 ((5 * t) + n))) 5 n) * (f_X4_worthOf (nI n))))), (5, .int (rest / (f_X4_worthOf (nI n)))), (0, .ref (ea E 47)), (1, .int (nI t))]) hx hb dX4_lacks_74 hl (k := 4) rfl rfl (by decide) rfl (fun ls hl => ?_)
      refine lv_goto (tgt := 5) hx hb dX4_lacks_77 (by decide) ?_
      exact ih (rest - (((up μ 5 n (μ 4 ((5 * t) + n))) 5 n) * (f_X4_worthOf (nI n)))) σ (up μ 5 n (μ 4 ((5 * t) + n))) H locs ls (by omega) hH (lv_sub hl [3, 4, 1, 0] rfl) (fun rf sf H locs ls e hH hl => hk rf sf H locs ls (by simpa only [lacksL, if_pos c_2] using e) hH hl)
    · refine lv_iload hx hb dX4_lacks_41 (lv_at hl 0 rfl) ?_
      refine lv_goto (tgt := 57) hx hb dX4_lacks_43 (by decide) ?_
      refine s_mpa F hH n (by omega) dX4_lacks_57 (fun H locs hH => ?_)
      refine lv_iload_n hx hb dX4_lacks_58 rfl (lv_at hl 3 rfl) ?_
      refine lv_aload_n hx hb dX4_lacks_59 rfl (lv_at hl 1 rfl) ?_
      refine g_X4_paid F hH kw_306 dX4_lacks_60 ?_
      refine lv_iload hx hb dX4_lacks_63 (lv_at hl 4 rfl) ?_
      refine a_mpa F hH n (by omega) dX4_lacks_65 ?_
      refine lv_iload hx hb dX4_lacks_66 (lv_at hl 4 rfl) ?_
      refine x_pure hx hb F.hml F.hown F.hts (c_X4_worthOf l (nI n)) cw_X4_37 rfl rfl ⟨Nat.le_of_ble_eq_true rfl, Nat.le_of_ble_eq_true rfl⟩ rfl hl.1 rfl (Nat.le_of_ble_eq_true rfl) ⟨Nat.zero_le _, Nat.zero_le _⟩ dX4_lacks_68 ?_
      refine lv_imul hx hb dX4_lacks_71 ?_
      refine lv_isub hx hb dX4_lacks_72 ?_
      refine lv_istore_n (lv' := [(3, .int (rest - (((up μ 5 n (rest / (f_X4_worthOf (nI n)))) 5 n) * (f_X4_worthOf (nI n))))), (5, .int (rest / (f_X4_worthOf (nI n)))), (0, .ref (ea E 47)), (1, .int (nI t)), (4, .int (nI n))]) hx hb dX4_lacks_73 rfl hl (by decide) rfl (fun ls hl => ?_)
      refine lv_iinc (v := (nI n) + (-1)) (lv' := [(4, .int ((nI n) + (-1))), (3, .int (rest - (((up μ 5 n (rest / (f_X4_worthOf (nI n)))) 5 n) * (f_X4_worthOf (nI n))))), (5, .int (rest / (f_X4_worthOf (nI n)))), (0, .ref (ea E 47)), (1, .int (nI t))]) hx hb dX4_lacks_74 hl (k := 4) rfl rfl (by decide) rfl (fun ls hl => ?_)
      refine lv_goto (tgt := 5) hx hb dX4_lacks_77 (by decide) ?_
      exact ih (rest - (((up μ 5 n (rest / (f_X4_worthOf (nI n)))) 5 n) * (f_X4_worthOf (nI n)))) σ (up μ 5 n (rest / (f_X4_worthOf (nI n)))) H locs ls (by omega) hH (lv_sub hl [3, 4, 1, 0] rfl) (fun rf sf H locs ls e hH hl => hk rf sf H locs ls (by simpa only [lacksL, if_neg c_2] using e) hH hl)
set_option maxRecDepth 100000 in
set_option maxHeartbeats 4000000 in
theorem c_X4_lacks (l : Launch) {E : EV} (hA : AD E) (σ μ : St) (t : Nat) (w : Int32) (ht : t < 8) : Met l yX4_lacks (.code yX4_lacks cX4_lacks 6 (some .int) :: gtbl) (rmL 1) (va_Pc [.ref (ea E 47), .int (nI t), .int w] (PR E σ μ)) (QI E (lacksL t 5 w μ).1 σ (lacksL t 5 w μ).2) 0 0 (eA E) := by
  refine x_met (own := RX4) (by decide) rfl hA (Nat.le_of_ble_eq_true rfl) ?_
  intro p e s m below meth c ls F hr hlk hH hl
  have hl : lv_has ls 6 [(0, .ref (ea E 47)), (1, .int (nI t)), (2, .int w)] := hl
  have hx := F.hx
  have hb := F.hb
  refine lv_iload_n hx hb dX4_lacks_0 rfl (lv_at hl 2 rfl) ?_
  refine lv_istore_n (lv' := [(3, .int w), (0, .ref (ea E 47)), (1, .int (nI t)), (2, .int w)]) hx hb dX4_lacks_1 rfl hl (by decide) rfl (fun ls hl => ?_)
  refine lv_iconst (v := 4) hx hb dX4_lacks_2 (by decide) ?_
  refine lv_istore (lv' := [(4, .int 4), (3, .int w), (0, .ref (ea E 47)), (1, .int (nI t)), (2, .int w)]) hx hb dX4_lacks_3 hl (by decide) rfl (fun ls hl => ?_)
  refine lp_X4_lacks F t ht 5 w σ μ _ _ ls (by omega) hH (lv_sub hl [2, 3, 1, 0] rfl) (fun r_1 s_2 H locs ls e_3 hH hl => ?_)
  refine lv_iload_n hx hb dX4_lacks_80 rfl (lv_at hl 2 rfl) ?_
  exact x_iretM F hr hlk hH e_3 dX4_lacks_81
set_option maxRecDepth 100000 in
set_option maxHeartbeats 4000000 in
theorem lp_X4_empty {p : Program} {l : Launch} {e : Env} {s : State} {m : MethodId} {args : Array Value} {below : List Frame} {meth : Method} {c : Code} {Q : State → Prop} {E : EV} (F : Fx E p s m args c cX4_empty RX4 3) (t : Nat) (ht : t < 8) : ∀ (n : Nat) (k : Nat) (σ μ : St) (H : Heap) (locs : List Loc) (ls : Array Slot), k + n = 5 → HS E s σ μ H locs → lv_has ls 3 [(0, .ref (ea E 47)), (1, .int (nI t)), (2, .int (nI k))] → (∀ (H : Heap) (locs : List Loc) (ls : Array Slot), HS E s σ (empL t n k μ) H locs → lv_has ls 3 [(0, .ref (ea E 47)), (1, .int (nI t)), (2, .int (nI 5))] → W p l e (rmL 0) s m args below meth c H locs 0 0 Q (F0 m 24 ls [])) → W p l e (rmL 0) s m args below meth c H locs 0 0 Q (F0 m 2 ls []) := by
  have hx := F.hx
  have hb := F.hb
  intro n
  induction n with
  | zero =>
    intro k σ μ H locs ls hn hH hl hk
    obtain rfl : k = 5 := by omega
    refine lv_iload_n hx hb dX4_empty_2 rfl (lv_at hl 2 rfl) ?_
    refine lv_iconst (v := 5) hx hb dX4_empty_3 (by decide) ?_
    refine lv_icmp_ge (tgt := 24) hx hb dX4_empty_4 (by decide) (fun _ => ?_) (fun c_1 => absurd (by decide) c_1)
    simp only [empL] at hk
    exact hk H locs ls hH (lv_sub hl [0, 1, 2] rfl)
  | succ n ih =>
    intro k σ μ H locs ls hn hH hl hk
    refine lv_iload_n hx hb dX4_empty_2 rfl (lv_at hl 2 rfl) ?_
    refine lv_iconst (v := 5) hx hb dX4_empty_3 (by decide) ?_
    refine lv_icmp_ge (tgt := 24) hx hb dX4_empty_4 (by decide) (fun c_1 => absurd c_1 (nI_ge (show k < 5 by omega) (by decide))) (fun _ => ?_)
    refine lv_aload_n hx hb dX4_empty_7 rfl (lv_at hl 0 rfl) ?_
    refine g_X4_coins F hH kw_301 dX4_empty_8 ?_
    refine lv_iconst (v := 5) hx hb dX4_empty_11 (by decide) ?_
    refine lv_iload_n hx hb dX4_empty_12 rfl (lv_at hl 1 rfl) ?_
    refine lv_imul hx hb dX4_empty_13 ?_
    refine x_top (pk_mul 5 t) ?_
    refine lv_iload_n hx hb dX4_empty_14 rfl (lv_at hl 2 rfl) ?_
    refine lv_iadd hx hb dX4_empty_15 ?_
    refine x_top (nI_add (5 * t) k) ?_
    refine lv_iconst (v := 0) hx hb dX4_empty_16 (by decide) ?_
    refine s_mco F hH ((5 * t) + k) (by omega) dX4_empty_17 (fun H locs hH => ?_)
    refine lv_iinc (v := nI (k + 1)) (lv' := [(2, .int (nI (k + 1))), (0, .ref (ea E 47)), (1, .int (nI t))]) hx hb dX4_empty_18 hl (k := 2) rfl (nI_1 k) (by decide) rfl (fun ls hl => ?_)
    refine lv_goto (tgt := 2) hx hb dX4_empty_21 (by decide) ?_
    simp only [empL] at hk
    exact ih (k + 1) σ (up μ 4 ((5 * t) + k) 0) H locs ls (by omega) hH (lv_sub hl [1, 2, 0] rfl) hk
set_option maxRecDepth 100000 in
set_option maxHeartbeats 4000000 in
theorem c_X4_empty (l : Launch) {E : EV} (hA : AD E) (σ μ : St) (t : Nat) (ht : t < 8) : Met l yX4_empty (.code yX4_empty cX4_empty 3 none :: gtbl) (rmL 0) (va_Pc [.ref (ea E 47), .int (nI t)] (PR E σ μ)) (QV E σ (empL t 5 0 μ)) 0 0 (eA E) := by
  refine x_met (own := RX4) (by decide) rfl hA (Nat.le_of_ble_eq_true rfl) ?_
  intro p e s m below meth c ls F hr hlk hH hl
  have hl : lv_has ls 3 [(0, .ref (ea E 47)), (1, .int (nI t))] := hl
  have hx := F.hx
  have hb := F.hb
  refine lv_iconst (v := 0) hx hb dX4_empty_0 (by decide) ?_
  refine lv_istore_n (lv' := [(2, .int 0), (0, .ref (ea E 47)), (1, .int (nI t))]) hx hb dX4_empty_1 rfl hl (by decide) rfl (fun ls hl => ?_)
  refine lp_X4_empty F t ht 5 0 σ μ _ _ ls (by omega) hH (lv_sub hl [1, 2, 0] rfl) (fun H locs ls hH hl => ?_)
  exact x_vret F hr hlk hH rfl rfl dX4_empty_24
set_option maxRecDepth 100000 in
set_option maxHeartbeats 4000000 in
theorem lp_X4_keep {p : Program} {l : Launch} {e : Env} {s : State} {m : MethodId} {args : Array Value} {below : List Frame} {meth : Method} {c : Code} {Q : State → Prop} {E : EV} (F : Fx E p s m args c cX4_keep RX4 4) (r at9 : Nat) (hr9 : r < 9) (hat : at9 < 7) : ∀ (n : Nat) (k : Nat) (σ μ : St) (H : Heap) (locs : List Loc) (ls : Array Slot), k + n = 5 → HS E s σ μ H locs → lv_has ls 4 [(0, .ref (ea E 47)), (1, .int (nI r)), (2, .int (nI at9)), (3, .int (nI k))] → (∀ (H : Heap) (locs : List Loc) (ls : Array Slot), HS E s σ (keepL r at9 n k μ) H locs → lv_has ls 4 [(0, .ref (ea E 47)), (1, .int (nI r)), (2, .int (nI at9)), (3, .int (nI 5))] → W p l e (rmL 0) s m args below meth c H locs 0 0 Q (F0 m 33 ls [])) → W p l e (rmL 0) s m args below meth c H locs 0 0 Q (F0 m 2 ls []) := by
  have hx := F.hx
  have hb := F.hb
  intro n
  induction n with
  | zero =>
    intro k σ μ H locs ls hn hH hl hk
    obtain rfl : k = 5 := by omega
    refine lv_iload_n hx hb dX4_keep_2 rfl (lv_at hl 3 rfl) ?_
    refine lv_iconst (v := 5) hx hb dX4_keep_3 (by decide) ?_
    refine lv_icmp_ge (tgt := 33) hx hb dX4_keep_4 (by decide) (fun _ => ?_) (fun c_1 => absurd (by decide) c_1)
    simp only [keepL] at hk
    exact hk H locs ls hH (lv_sub hl [0, 1, 2, 3] rfl)
  | succ n ih =>
    intro k σ μ H locs ls hn hH hl hk
    refine lv_iload_n hx hb dX4_keep_2 rfl (lv_at hl 3 rfl) ?_
    refine lv_iconst (v := 5) hx hb dX4_keep_3 (by decide) ?_
    refine lv_icmp_ge (tgt := 33) hx hb dX4_keep_4 (by decide) (fun c_1 => absurd c_1 (nI_ge (show k < 5 by omega) (by decide))) (fun _ => ?_)
    refine lv_aload_n hx hb dX4_keep_7 rfl (lv_at hl 0 rfl) ?_
    refine g_X4_kept F hH kw_307 dX4_keep_8 ?_
    refine lv_iconst (v := 5) hx hb dX4_keep_11 (by decide) ?_
    refine lv_iload_n hx hb dX4_keep_12 rfl (lv_at hl 2 rfl) ?_
    refine lv_imul hx hb dX4_keep_13 ?_
    refine x_top (pk_mul 5 at9) ?_
    refine lv_iload_n hx hb dX4_keep_14 rfl (lv_at hl 3 rfl) ?_
    refine lv_iadd hx hb dX4_keep_15 ?_
    refine x_top (nI_add (5 * at9) k) ?_
    refine lv_aload_n hx hb dX4_keep_16 rfl (lv_at hl 0 rfl) ?_
    refine g_X4_coins F hH kw_301 dX4_keep_17 ?_
    refine lv_iconst (v := 5) hx hb dX4_keep_20 (by decide) ?_
    refine lv_iload_n hx hb dX4_keep_21 rfl (lv_at hl 1 rfl) ?_
    refine lv_imul hx hb dX4_keep_22 ?_
    refine x_top (pk_mul 5 r) ?_
    refine lv_iload_n hx hb dX4_keep_23 rfl (lv_at hl 3 rfl) ?_
    refine lv_iadd hx hb dX4_keep_24 ?_
    refine x_top (nI_add (5 * r) k) ?_
    refine a_mco F hH ((5 * r) + k) (by omega) dX4_keep_25 ?_
    refine s_mke F hH ((5 * at9) + k) (by omega) dX4_keep_26 (fun H locs hH => ?_)
    refine lv_iinc (v := nI (k + 1)) (lv' := [(3, .int (nI (k + 1))), (0, .ref (ea E 47)), (1, .int (nI r)), (2, .int (nI at9))]) hx hb dX4_keep_27 hl (k := 3) rfl (nI_1 k) (by decide) rfl (fun ls hl => ?_)
    refine lv_goto (tgt := 2) hx hb dX4_keep_30 (by decide) ?_
    simp only [keepL] at hk
    exact ih (k + 1) σ (up μ 6 ((5 * at9) + k) (μ 4 ((5 * r) + k))) H locs ls (by omega) hH (lv_sub hl [1, 2, 3, 0] rfl) hk
set_option maxRecDepth 100000 in
set_option maxHeartbeats 4000000 in
theorem c_X4_keep (l : Launch) {E : EV} (hA : AD E) (σ μ : St) (r : Nat) (at9 : Nat) (hr : r < 9) (hat9 : at9 < 7) : Met l yX4_keep (.code yX4_keep cX4_keep 4 none :: gtbl) (rmL 0) (va_Pc [.ref (ea E 47), .int (nI r), .int (nI at9)] (PR E σ μ)) (QV E σ (keepL r at9 5 0 μ)) 0 0 (eA E) := by
  refine x_met (own := RX4) (by decide) rfl hA (Nat.le_of_ble_eq_true rfl) ?_
  intro p e s m below meth c ls F hr hlk hH hl
  have hl : lv_has ls 4 [(0, .ref (ea E 47)), (1, .int (nI r)), (2, .int (nI at9))] := hl
  have hx := F.hx
  have hb := F.hb
  refine lv_iconst (v := 0) hx hb dX4_keep_0 (by decide) ?_
  refine lv_istore_n (lv' := [(3, .int 0), (0, .ref (ea E 47)), (1, .int (nI r)), (2, .int (nI at9))]) hx hb dX4_keep_1 rfl hl (by decide) rfl (fun ls hl => ?_)
  refine lp_X4_keep F r at9 (by omega) (by omega) 5 0 σ μ _ _ ls (by omega) hH (lv_sub hl [1, 2, 3, 0] rfl) (fun H locs ls hH hl => ?_)
  exact x_vret F hr hlk hH rfl rfl dX4_keep_33
set_option maxRecDepth 100000 in
set_option maxHeartbeats 4000000 in
theorem lp_X4_putBack {p : Program} {l : Launch} {e : Env} {s : State} {m : MethodId} {args : Array Value} {below : List Frame} {meth : Method} {c : Code} {Q : State → Prop} {E : EV} (F : Fx E p s m args c cX4_putBack RX4 4) (r at9 : Nat) (hr9 : r < 9) (hat : at9 < 7) : ∀ (n : Nat) (k : Nat) (σ μ : St) (H : Heap) (locs : List Loc) (ls : Array Slot), k + n = 5 → HS E s σ μ H locs → lv_has ls 4 [(0, .ref (ea E 47)), (1, .int (nI r)), (2, .int (nI at9)), (3, .int (nI k))] → (∀ (H : Heap) (locs : List Loc) (ls : Array Slot), HS E s σ (backL r at9 n k μ) H locs → lv_has ls 4 [(0, .ref (ea E 47)), (1, .int (nI r)), (2, .int (nI at9)), (3, .int (nI 5))] → W p l e (rmL 0) s m args below meth c H locs 0 0 Q (F0 m 33 ls [])) → W p l e (rmL 0) s m args below meth c H locs 0 0 Q (F0 m 2 ls []) := by
  have hx := F.hx
  have hb := F.hb
  intro n
  induction n with
  | zero =>
    intro k σ μ H locs ls hn hH hl hk
    obtain rfl : k = 5 := by omega
    refine lv_iload_n hx hb dX4_putBack_2 rfl (lv_at hl 3 rfl) ?_
    refine lv_iconst (v := 5) hx hb dX4_putBack_3 (by decide) ?_
    refine lv_icmp_ge (tgt := 33) hx hb dX4_putBack_4 (by decide) (fun _ => ?_) (fun c_1 => absurd (by decide) c_1)
    simp only [backL] at hk
    exact hk H locs ls hH (lv_sub hl [0, 1, 2, 3] rfl)
  | succ n ih =>
    intro k σ μ H locs ls hn hH hl hk
    refine lv_iload_n hx hb dX4_putBack_2 rfl (lv_at hl 3 rfl) ?_
    refine lv_iconst (v := 5) hx hb dX4_putBack_3 (by decide) ?_
    refine lv_icmp_ge (tgt := 33) hx hb dX4_putBack_4 (by decide) (fun c_1 => absurd c_1 (nI_ge (show k < 5 by omega) (by decide))) (fun _ => ?_)
    refine lv_aload_n hx hb dX4_putBack_7 rfl (lv_at hl 0 rfl) ?_
    refine g_X4_coins F hH kw_301 dX4_putBack_8 ?_
    refine lv_iconst (v := 5) hx hb dX4_putBack_11 (by decide) ?_
    refine lv_iload_n hx hb dX4_putBack_12 rfl (lv_at hl 1 rfl) ?_
    refine lv_imul hx hb dX4_putBack_13 ?_
    refine x_top (pk_mul 5 r) ?_
    refine lv_iload_n hx hb dX4_putBack_14 rfl (lv_at hl 3 rfl) ?_
    refine lv_iadd hx hb dX4_putBack_15 ?_
    refine x_top (nI_add (5 * r) k) ?_
    refine lv_aload_n hx hb dX4_putBack_16 rfl (lv_at hl 0 rfl) ?_
    refine g_X4_kept F hH kw_307 dX4_putBack_17 ?_
    refine lv_iconst (v := 5) hx hb dX4_putBack_20 (by decide) ?_
    refine lv_iload_n hx hb dX4_putBack_21 rfl (lv_at hl 2 rfl) ?_
    refine lv_imul hx hb dX4_putBack_22 ?_
    refine x_top (pk_mul 5 at9) ?_
    refine lv_iload_n hx hb dX4_putBack_23 rfl (lv_at hl 3 rfl) ?_
    refine lv_iadd hx hb dX4_putBack_24 ?_
    refine x_top (nI_add (5 * at9) k) ?_
    refine a_mke F hH ((5 * at9) + k) (by omega) dX4_putBack_25 ?_
    refine s_mco F hH ((5 * r) + k) (by omega) dX4_putBack_26 (fun H locs hH => ?_)
    refine lv_iinc (v := nI (k + 1)) (lv' := [(3, .int (nI (k + 1))), (0, .ref (ea E 47)), (1, .int (nI r)), (2, .int (nI at9))]) hx hb dX4_putBack_27 hl (k := 3) rfl (nI_1 k) (by decide) rfl (fun ls hl => ?_)
    refine lv_goto (tgt := 2) hx hb dX4_putBack_30 (by decide) ?_
    simp only [backL] at hk
    exact ih (k + 1) σ (up μ 4 ((5 * r) + k) (μ 6 ((5 * at9) + k))) H locs ls (by omega) hH (lv_sub hl [1, 2, 3, 0] rfl) hk
set_option maxRecDepth 100000 in
set_option maxHeartbeats 4000000 in
theorem c_X4_putBack (l : Launch) {E : EV} (hA : AD E) (σ μ : St) (r : Nat) (at9 : Nat) (hr : r < 9) (hat9 : at9 < 7) : Met l yX4_putBack (.code yX4_putBack cX4_putBack 4 none :: gtbl) (rmL 0) (va_Pc [.ref (ea E 47), .int (nI r), .int (nI at9)] (PR E σ μ)) (QV E σ (backL r at9 5 0 μ)) 0 0 (eA E) := by
  refine x_met (own := RX4) (by decide) rfl hA (Nat.le_of_ble_eq_true rfl) ?_
  intro p e s m below meth c ls F hr hlk hH hl
  have hl : lv_has ls 4 [(0, .ref (ea E 47)), (1, .int (nI r)), (2, .int (nI at9))] := hl
  have hx := F.hx
  have hb := F.hb
  refine lv_iconst (v := 0) hx hb dX4_putBack_0 (by decide) ?_
  refine lv_istore_n (lv' := [(3, .int 0), (0, .ref (ea E 47)), (1, .int (nI r)), (2, .int (nI at9))]) hx hb dX4_putBack_1 rfl hl (by decide) rfl (fun ls hl => ?_)
  refine lp_X4_putBack F r at9 (by omega) (by omega) 5 0 σ μ _ _ ls (by omega) hH (lv_sub hl [1, 2, 3, 0] rfl) (fun H locs ls hH hl => ?_)
  exact x_vret F hr hlk hH rfl rfl dX4_putBack_33
def f_X4_hold (μ : St) (t : Nat) : Int32 × St :=
  if (bz (μ 1 t)) = 0 then
    (1, μ)
  else
    if ((up (up μ 0 1 ((μ 0 1) + 1)) 0 3 (((up μ 0 1 ((μ 0 1) + 1)) 0 3) + 1)) 0 3) ≤ ((up (up μ 0 1 ((μ 0 1) + 1)) 0 3 (((up μ 0 1 ((μ 0 1) + 1)) 0 3) + 1)) 0 4) then
      (0, (up (up (up μ 0 1 ((μ 0 1) + 1)) 0 3 (((up μ 0 1 ((μ 0 1) + 1)) 0 3) + 1)) 0 4 ((up (up μ 0 1 ((μ 0 1) + 1)) 0 3 (((up μ 0 1 ((μ 0 1) + 1)) 0 3) + 1)) 0 4)))
    else
      (0, (up (up (up μ 0 1 ((μ 0 1) + 1)) 0 3 (((up μ 0 1 ((μ 0 1) + 1)) 0 3) + 1)) 0 4 ((up (up μ 0 1 ((μ 0 1) + 1)) 0 3 (((up μ 0 1 ((μ 0 1) + 1)) 0 3) + 1)) 0 3)))
set_option maxRecDepth 100000 in
set_option maxHeartbeats 4000000 in
theorem c_X4_hold (l : Launch) {E : EV} (hA : AD E) (σ μ : St) (t : Nat) (ht : t < 8) : Met l yX4_hold (.code yX4_hold cX4_hold 2 (some .int) :: gtbl) (rmL 0) (va_Pc [.ref (ea E 47), .int (nI t)] (PR E σ μ)) (QI E (f_X4_hold μ t).1 σ (f_X4_hold μ t).2) 0 0 (eA E) := by
  refine x_met (own := RX4) (by decide) rfl hA (Nat.le_of_ble_eq_true rfl) ?_
  intro p e s m below meth c ls F hr hlk hH hl
  have hl : lv_has ls 2 [(0, .ref (ea E 47)), (1, .int (nI t))] := hl
  have hx := F.hx
  have hb := F.hb
  refine lv_aload_n hx hb dX4_hold_0 rfl (lv_at hl 0 rfl) ?_
  refine g_X4_isThere F hH kw_298 dX4_hold_1 ?_
  refine lv_iload_n hx hb dX4_hold_4 rfl (lv_at hl 1 rfl) ?_
  refine a_mth F hH t (by omega) dX4_hold_5 ?_
  refine lv_if_ne (tgt := 11) hx hb dX4_hold_6 (by decide) (fun c_1 => ?_) (fun c_1 => ?_)
  · refine lv_aload_n hx hb dX4_hold_11 rfl (lv_at hl 0 rfl) ?_
    refine lv_dup hx hb dX4_hold_12 rfl ?_
    refine g_X4_holds F hH kw_302 dX4_hold_13 ?_
    refine lv_iconst (v := 1) hx hb dX4_hold_16 (by decide) ?_
    refine lv_iadd hx hb dX4_hold_17 ?_
    refine p_X4_holds F hH kw_302 dX4_hold_18 (fun H locs hH => ?_)
    refine lv_aload_n hx hb dX4_hold_21 rfl (lv_at hl 0 rfl) ?_
    refine lv_dup hx hb dX4_hold_22 rfl ?_
    refine g_X4_depth F hH kw_304 dX4_hold_23 ?_
    refine lv_iconst (v := 1) hx hb dX4_hold_26 (by decide) ?_
    refine lv_iadd hx hb dX4_hold_27 ?_
    refine p_X4_depth F hH kw_304 dX4_hold_28 (fun H locs hH => ?_)
    refine lv_aload_n hx hb dX4_hold_31 rfl (lv_at hl 0 rfl) ?_
    refine lv_aload_n hx hb dX4_hold_32 rfl (lv_at hl 0 rfl) ?_
    refine g_X4_depth F hH kw_304 dX4_hold_33 ?_
    refine lv_aload_n hx hb dX4_hold_36 rfl (lv_at hl 0 rfl) ?_
    refine g_X4_deepest F hH kw_305 dX4_hold_37 ?_
    refine lv_icmp_le (tgt := 50) hx hb dX4_hold_40 (by decide) (fun c_2 => ?_) (fun c_2 => ?_)
    · refine lv_aload_n hx hb dX4_hold_50 rfl (lv_at hl 0 rfl) ?_
      refine g_X4_deepest F hH kw_305 dX4_hold_51 ?_
      refine p_X4_deepest F hH kw_305 dX4_hold_54 (fun H locs hH => ?_)
      refine lv_iconst (v := 0) hx hb dX4_hold_57 (by decide) ?_
      exact x_iretM F hr hlk hH (by simp only [f_X4_hold, if_neg c_1, if_pos c_2]) dX4_hold_58
    · refine lv_aload_n hx hb dX4_hold_43 rfl (lv_at hl 0 rfl) ?_
      refine g_X4_depth F hH kw_304 dX4_hold_44 ?_
      refine lv_goto (tgt := 54) hx hb dX4_hold_47 (by decide) ?_
      refine p_X4_deepest F hH kw_305 dX4_hold_54 (fun H locs hH => ?_)
      refine lv_iconst (v := 0) hx hb dX4_hold_57 (by decide) ?_
      exact x_iretM F hr hlk hH (by simp only [f_X4_hold, if_neg c_1, if_neg c_2]) dX4_hold_58
  · refine lv_iconst (v := 1) hx hb dX4_hold_9 (by decide) ?_
    exact x_iretM F hr hlk hH (by simp only [f_X4_hold, if_pos c_1]) dX4_hold_10
def f_X4_leave (μ : St) (f : Int32) : Int32 × St :=
  if f = 0 then
    (f, (up (up μ 0 3 ((μ 0 3) - 1)) 0 2 (((up μ 0 3 ((μ 0 3) - 1)) 0 2) + 0)))
  else
    (f, (up (up μ 0 3 ((μ 0 3) - 1)) 0 2 (((up μ 0 3 ((μ 0 3) - 1)) 0 2) + 1)))
set_option maxRecDepth 100000 in
set_option maxHeartbeats 4000000 in
theorem c_X4_leave (l : Launch) {E : EV} (hA : AD E) (σ μ : St) (f : Int32) : Met l yX4_leave (.code yX4_leave cX4_leave 2 (some .int) :: gtbl) (rmL 0) (va_Pc [.ref (ea E 47), .int f] (PR E σ μ)) (QI E (f_X4_leave μ f).1 σ (f_X4_leave μ f).2) 0 0 (eA E) := by
  refine x_met (own := RX4) (by decide) rfl hA (Nat.le_of_ble_eq_true rfl) ?_
  intro p e s m below meth c ls F hr hlk hH hl
  have hl : lv_has ls 2 [(0, .ref (ea E 47)), (1, .int f)] := hl
  have hx := F.hx
  have hb := F.hb
  refine lv_aload_n hx hb dX4_leave_0 rfl (lv_at hl 0 rfl) ?_
  refine lv_dup hx hb dX4_leave_1 rfl ?_
  refine g_X4_depth F hH kw_304 dX4_leave_2 ?_
  refine lv_iconst (v := 1) hx hb dX4_leave_5 (by decide) ?_
  refine lv_isub hx hb dX4_leave_6 ?_
  refine p_X4_depth F hH kw_304 dX4_leave_7 (fun H locs hH => ?_)
  refine lv_aload_n hx hb dX4_leave_10 rfl (lv_at hl 0 rfl) ?_
  refine lv_dup hx hb dX4_leave_11 rfl ?_
  refine g_X4_left F hH kw_303 dX4_leave_12 ?_
  refine lv_iload_n hx hb dX4_leave_15 rfl (lv_at hl 1 rfl) ?_
  refine lv_if_ne (tgt := 23) hx hb dX4_leave_16 (by decide) (fun c_1 => ?_) (fun c_1 => ?_)
  · refine lv_iconst (v := 1) hx hb dX4_leave_23 (by decide) ?_
    refine lv_iadd hx hb dX4_leave_24 ?_
    refine p_X4_left F hH kw_303 dX4_leave_25 (fun H locs hH => ?_)
    refine lv_iload_n hx hb dX4_leave_28 rfl (lv_at hl 1 rfl) ?_
    exact x_iretM F hr hlk hH (by simp only [f_X4_leave, if_neg c_1]) dX4_leave_29
  · refine lv_iconst (v := 0) hx hb dX4_leave_19 (by decide) ?_
    refine lv_goto (tgt := 24) hx hb dX4_leave_20 (by decide) ?_
    refine lv_iadd hx hb dX4_leave_24 ?_
    refine p_X4_left F hH kw_303 dX4_leave_25 (fun H locs hH => ?_)
    refine lv_iload_n hx hb dX4_leave_28 rfl (lv_at hl 1 rfl) ?_
    exact x_iretM F hr hlk hH (by simp only [f_X4_leave, if_pos c_1]) dX4_leave_29
def f_X4_pay (μ : St) (t : Nat) (w : Int32) : Int32 × St :=
  if (bz (μ 2 t)) = 0 then
    match lacksL t 5 w μ with
    | (r_2, s_3) =>
      if r_2 ≤ 0 then
        (0, (goL t 8 5 5 0 s_3))
      else
        (3, s_3)
  else
    (2, μ)
set_option maxRecDepth 100000 in
set_option maxHeartbeats 4000000 in
theorem c_X4_pay (l : Launch) {E : EV} (hA : AD E) (σ μ : St) (t : Nat) (w : Int32) (ht : t < 8) : Met l yX4_pay (.code yX4_pay cX4_pay 3 (some .int) :: gtbl) (rmL 2) (va_Pc [.ref (ea E 47), .int (nI t), .int w] (PR E σ μ)) (QI E (f_X4_pay μ t w).1 σ (f_X4_pay μ t w).2) 0 0 (eA E) := by
  refine x_met (own := RX4) (by decide) rfl hA (Nat.le_of_ble_eq_true rfl) ?_
  intro p e s m below meth c ls F hr hlk hH hl
  have hl : lv_has ls 3 [(0, .ref (ea E 47)), (1, .int (nI t)), (2, .int w)] := hl
  have hx := F.hx
  have hb := F.hb
  refine lv_aload_n hx hb dX4_pay_0 rfl (lv_at hl 0 rfl) ?_
  refine g_X4_isShut F hH kw_299 dX4_pay_1 ?_
  refine lv_iload_n hx hb dX4_pay_4 rfl (lv_at hl 1 rfl) ?_
  refine a_msh F hH t (by omega) dX4_pay_5 ?_
  refine lv_if_eq (tgt := 11) hx hb dX4_pay_6 (by decide) (fun c_1 => ?_) (fun c_1 => ?_)
  · refine lv_aload_n hx hb dX4_pay_11 rfl (lv_at hl 0 rfl) ?_
    refine lv_iload_n hx hb dX4_pay_12 rfl (lv_at hl 1 rfl) ?_
    refine lv_iload_n hx hb dX4_pay_13 rfl (lv_at hl 2 rfl) ?_
    refine x_calliM F hH 47 (F.lt (by omega)) (vv4 0) rfl (c_X4_lacks l F.ad σ μ t w (by omega)) cw_X4_53 rfl rfl ⟨Nat.le_of_ble_eq_true rfl, Nat.le_of_ble_eq_true rfl⟩ rfl hl.1 rfl (Nat.le_of_ble_eq_true rfl) ⟨Nat.zero_le _, Nat.zero_le _⟩ dX4_pay_14 (fun r_2 s_3 H locs e_4 hH => ?_)
    refine lv_if_le (tgt := 22) hx hb dX4_pay_17 (by decide) (fun c_5 => ?_) (fun c_5 => ?_)
    · refine lv_aload_n hx hb dX4_pay_22 rfl (lv_at hl 0 rfl) ?_
      refine lv_iload_n hx hb dX4_pay_23 rfl (lv_at hl 1 rfl) ?_
      refine lv_bipush (v := 8) hx hb dX4_pay_24 (by decide) ?_
      refine lv_aload_n hx hb dX4_pay_26 rfl (lv_at hl 0 rfl) ?_
      refine g_X4_paid F hH kw_306 dX4_pay_27 ?_
      refine x_callv F hH 47 (F.lt (by omega)) (vv4 0) rfl (c_X4_go l F.ad σ s_3 t 8 5 (by omega) (by omega) (by omega)) cw_X4_57 rfl rfl ⟨Nat.le_of_ble_eq_true rfl, Nat.le_of_ble_eq_true rfl⟩ rfl hl.1 rfl (Nat.le_of_ble_eq_true rfl) ⟨Nat.zero_le _, Nat.zero_le _⟩ dX4_pay_30 (fun H locs hH => ?_)
      refine lv_iconst (v := 0) hx hb dX4_pay_33 (by decide) ?_
      exact x_iretM F hr hlk hH (by simp only [f_X4_pay, if_pos c_1, e_4, if_pos c_5]) dX4_pay_34
    · refine lv_iconst (v := 3) hx hb dX4_pay_20 (by decide) ?_
      exact x_iretM F hr hlk hH (by simp only [f_X4_pay, if_pos c_1, e_4, if_neg c_5]) dX4_pay_21
  · refine lv_iconst (v := 2) hx hb dX4_pay_9 (by decide) ?_
    exact x_iretM F hr hlk hH (by simp only [f_X4_pay, if_neg c_1]) dX4_pay_10
def f_X4_lay (μ : St) (t : Nat) (w : Nat) : Int32 × St :=
  if (bz (μ 2 t)) = 0 then
    if ((sumL (rowM μ t) 5 0 0) + (sumL (μ w) 5 0 0)) ≤ (μ 3 t) then
      (0, (goL 8 t w 5 0 μ))
    else
      (4, μ)
  else
    (2, μ)
set_option maxRecDepth 100000 in
set_option maxHeartbeats 4000000 in
theorem c_X4_lay (l : Launch) {E : EV} (hA : AD E) (σ μ : St) (t : Nat) (w : Nat) (ht : t < 8) (hw : w = 5 ∨ (w = 7 ∧ 54 < en E)) : Met l yX4_lay (.code yX4_lay cX4_lay 3 (some .int) :: gtbl) (rmL 1) (va_Pc [.ref (ea E 47), .int (nI t), .ref (ea E (47 + w))] (PR E σ μ)) (QI E (f_X4_lay μ t w).1 σ (f_X4_lay μ t w).2) 0 0 (eA E) := by
  refine x_met (own := RX4) (by decide) rfl hA (Nat.le_of_ble_eq_true rfl) ?_
  intro p e s m below meth c ls F hr hlk hH hl
  have hl : lv_has ls 3 [(0, .ref (ea E 47)), (1, .int (nI t)), (2, .ref (ea E (47 + w)))] := hl
  have hx := F.hx
  have hb := F.hb
  refine lv_aload_n hx hb dX4_lay_0 rfl (lv_at hl 0 rfl) ?_
  refine g_X4_isShut F hH kw_299 dX4_lay_1 ?_
  refine lv_iload_n hx hb dX4_lay_4 rfl (lv_at hl 1 rfl) ?_
  refine a_msh F hH t (by omega) dX4_lay_5 ?_
  refine lv_if_eq (tgt := 11) hx hb dX4_lay_6 (by decide) (fun c_1 => ?_) (fun c_1 => ?_)
  · refine lv_aload_n hx hb dX4_lay_11 rfl (lv_at hl 0 rfl) ?_
    refine lv_iload_n hx hb dX4_lay_12 rfl (lv_at hl 1 rfl) ?_
    refine x_calliR F hH 47 (F.lt (by omega)) (vv4 0) rfl (c_X4_all l F.ad σ μ t (by omega)) cw_X4_61 rfl rfl ⟨Nat.le_of_ble_eq_true rfl, Nat.le_of_ble_eq_true rfl⟩ rfl hl.1 rfl (Nat.le_of_ble_eq_true rfl) ⟨Nat.zero_le _, Nat.zero_le _⟩ dX4_lay_13 (fun H locs hH => ?_)
    refine lv_aload_n hx hb dX4_lay_16 rfl (lv_at hl 2 rfl) ?_
    refine x_callsR F hH (c_X4_sum l F.ad σ μ w (by omega)) cw_X4_64 rfl rfl ⟨Nat.le_of_ble_eq_true rfl, Nat.le_of_ble_eq_true rfl⟩ rfl hl.1 rfl (Nat.le_of_ble_eq_true rfl) ⟨Nat.zero_le _, Nat.zero_le _⟩ dX4_lay_17 (fun H locs hH => ?_)
    refine lv_iadd hx hb dX4_lay_20 ?_
    refine lv_aload_n hx hb dX4_lay_21 rfl (lv_at hl 0 rfl) ?_
    refine g_X4_limit F hH kw_300 dX4_lay_22 ?_
    refine lv_iload_n hx hb dX4_lay_25 rfl (lv_at hl 1 rfl) ?_
    refine a_mli F hH t (by omega) dX4_lay_26 ?_
    refine lv_icmp_le (tgt := 32) hx hb dX4_lay_27 (by decide) (fun c_2 => ?_) (fun c_2 => ?_)
    · refine lv_aload_n hx hb dX4_lay_32 rfl (lv_at hl 0 rfl) ?_
      refine lv_bipush (v := 8) hx hb dX4_lay_33 (by decide) ?_
      refine lv_iload_n hx hb dX4_lay_35 rfl (lv_at hl 1 rfl) ?_
      refine lv_aload_n hx hb dX4_lay_36 rfl (lv_at hl 2 rfl) ?_
      refine x_callv F hH 47 (F.lt (by omega)) (vv4 0) rfl (c_X4_go l F.ad σ μ 8 t w (by omega) (by omega) (by omega)) cw_X4_57 rfl rfl ⟨Nat.le_of_ble_eq_true rfl, Nat.le_of_ble_eq_true rfl⟩ rfl hl.1 rfl (Nat.le_of_ble_eq_true rfl) ⟨Nat.zero_le _, Nat.zero_le _⟩ dX4_lay_37 (fun H locs hH => ?_)
      refine lv_iconst (v := 0) hx hb dX4_lay_40 (by decide) ?_
      exact x_iretM F hr hlk hH (by simp only [f_X4_lay, if_pos c_1, if_pos c_2]) dX4_lay_41
    · refine lv_iconst (v := 4) hx hb dX4_lay_30 (by decide) ?_
      exact x_iretM F hr hlk hH (by simp only [f_X4_lay, if_pos c_1, if_neg c_2]) dX4_lay_31
  · refine lv_iconst (v := 2) hx hb dX4_lay_9 (by decide) ?_
    exact x_iretM F hr hlk hH (by simp only [f_X4_lay, if_neg c_1]) dX4_lay_10
def f_X4_told_ (μ : St) (r : Nat) (wh : Nat) (most : Int32) : Int32 :=
  if 5 ≤ (nI wh) then
    if (nI wh) = 5 then
      sumL (rowM μ r) 5 0 0
    else
      if (nI wh) = 6 then
        wsumM (rowM μ r) 5 0 0
      else
        if (nI wh) = 7 then
          μ 3 r
        else
          if (bz (μ 2 r)) = 0 then
            0
          else
            1
  else
    μ 4 ((5 * r) + wh)
set_option maxRecDepth 100000 in
set_option maxHeartbeats 4000000 in
theorem c_X4_told_ (l : Launch) {E : EV} (hA : AD E) (σ μ : St) (r : Nat) (wh : Nat) (most : Int32) (hr : r < 9) (hwh : wh < 9) (hrw : r < 8 ∨ wh < 7) : Met l yX4_told_ (.code yX4_told_ cX4_told_ 4 (some .int) :: gtbl) (rmL 2) (va_Pc [.ref (ea E 47), .int (nI r), .int (nI wh), .int most] (PR E σ μ)) (QI E (f_X4_told_ μ r wh most) σ μ) 0 0 (eA E) := by
  refine x_met (own := RX4) (by decide) rfl hA (Nat.le_of_ble_eq_true rfl) ?_
  intro p e s m below meth c ls F hr hlk hH hl
  have hl : lv_has ls 4 [(0, .ref (ea E 47)), (1, .int (nI r)), (2, .int (nI wh)), (3, .int most)] := hl
  have hx := F.hx
  have hb := F.hb
  refine lv_iload_n hx hb dX4_told__0 rfl (lv_at hl 2 rfl) ?_
  refine lv_iconst (v := 5) hx hb dX4_told__1 (by decide) ?_
  refine lv_icmp_ge (tgt := 18) hx hb dX4_told__2 (by decide) (fun c_1 => ?_) (fun c_1 => ?_)
  · have q_2 := (fq_ge (a := wh) (b := 5) rfl (by omega) (by omega)).mp c_1
    refine lv_iload_n hx hb dX4_told__18 rfl (lv_at hl 2 rfl) ?_
    refine lv_iconst (v := 5) hx hb dX4_told__19 (by decide) ?_
    refine lv_icmp_ne (tgt := 31) hx hb dX4_told__20 (by decide) (fun c_3 => ?_) (fun c_3 => ?_)
    · have q_4 := mt (fq_eq (a := wh) (b := 5) rfl (by omega) (by omega)).mpr c_3
      refine lv_iload_n hx hb dX4_told__31 rfl (lv_at hl 2 rfl) ?_
      refine lv_bipush (v := 6) hx hb dX4_told__32 (by decide) ?_
      refine lv_icmp_ne (tgt := 45) hx hb dX4_told__34 (by decide) (fun c_5 => ?_) (fun c_5 => ?_)
      · have q_6 := mt (fq_eq (a := wh) (b := 6) rfl (by omega) (by omega)).mpr c_5
        refine lv_iload_n hx hb dX4_told__45 rfl (lv_at hl 2 rfl) ?_
        refine lv_bipush (v := 7) hx hb dX4_told__46 (by decide) ?_
        refine lv_icmp_ne (tgt := 60) hx hb dX4_told__48 (by decide) (fun c_7 => ?_) (fun c_7 => ?_)
        · have q_8 := mt (fq_eq (a := wh) (b := 7) rfl (by omega) (by omega)).mpr c_7
          refine lv_aload_n hx hb dX4_told__60 rfl (lv_at hl 0 rfl) ?_
          refine g_X4_isShut F hH kw_299 dX4_told__61 ?_
          refine lv_iload_n hx hb dX4_told__64 rfl (lv_at hl 1 rfl) ?_
          refine a_msh F hH r (by omega) dX4_told__65 ?_
          refine lv_if_eq (tgt := 73) hx hb dX4_told__66 (by decide) (fun c_9 => ?_) (fun c_9 => ?_)
          · refine lv_iconst (v := 0) hx hb dX4_told__73 (by decide) ?_
            exact x_iretR F hr hlk hH (by simp only [f_X4_told_, if_pos c_1, if_neg c_3, if_neg c_5, if_neg c_7, if_pos c_9]) dX4_told__74
          · refine lv_iconst (v := 1) hx hb dX4_told__69 (by decide) ?_
            refine lv_goto (tgt := 74) hx hb dX4_told__70 (by decide) ?_
            exact x_iretR F hr hlk hH (by simp only [f_X4_told_, if_pos c_1, if_neg c_3, if_neg c_5, if_neg c_7, if_neg c_9]) dX4_told__74
        · have q_10 := (fq_eq (a := wh) (b := 7) rfl (by omega) (by omega)).mp c_7
          refine lv_aload_n hx hb dX4_told__51 rfl (lv_at hl 0 rfl) ?_
          refine g_X4_limit F hH kw_300 dX4_told__52 ?_
          refine lv_iload_n hx hb dX4_told__55 rfl (lv_at hl 1 rfl) ?_
          refine a_mli F hH r (by omega) dX4_told__56 ?_
          refine lv_goto (tgt := 74) hx hb dX4_told__57 (by decide) ?_
          exact x_iretR F hr hlk hH (by simp only [f_X4_told_, if_pos c_1, if_neg c_3, if_neg c_5, if_pos c_7]) dX4_told__74
      · have q_11 := (fq_eq (a := wh) (b := 6) rfl (by omega) (by omega)).mp c_5
        refine lv_aload_n hx hb dX4_told__37 rfl (lv_at hl 0 rfl) ?_
        refine lv_iload_n hx hb dX4_told__38 rfl (lv_at hl 1 rfl) ?_
        refine x_calliR F hH 47 (F.lt (by omega)) (vv4 0) rfl (c_X4_worth l F.ad σ μ r (by omega)) cw_X4_107 rfl rfl ⟨Nat.le_of_ble_eq_true rfl, Nat.le_of_ble_eq_true rfl⟩ rfl hl.1 rfl (Nat.le_of_ble_eq_true rfl) ⟨Nat.zero_le _, Nat.zero_le _⟩ dX4_told__39 (fun H locs hH => ?_)
        refine lv_goto (tgt := 74) hx hb dX4_told__42 (by decide) ?_
        exact x_iretR F hr hlk hH (by simp only [f_X4_told_, if_pos c_1, if_neg c_3, if_pos c_5]) dX4_told__74
    · have q_12 := (fq_eq (a := wh) (b := 5) rfl (by omega) (by omega)).mp c_3
      refine lv_aload_n hx hb dX4_told__23 rfl (lv_at hl 0 rfl) ?_
      refine lv_iload_n hx hb dX4_told__24 rfl (lv_at hl 1 rfl) ?_
      refine x_calliR F hH 47 (F.lt (by omega)) (vv4 0) rfl (c_X4_all l F.ad σ μ r (by omega)) cw_X4_61 rfl rfl ⟨Nat.le_of_ble_eq_true rfl, Nat.le_of_ble_eq_true rfl⟩ rfl hl.1 rfl (Nat.le_of_ble_eq_true rfl) ⟨Nat.zero_le _, Nat.zero_le _⟩ dX4_told__25 (fun H locs hH => ?_)
      refine lv_goto (tgt := 74) hx hb dX4_told__28 (by decide) ?_
      exact x_iretR F hr hlk hH (by simp only [f_X4_told_, if_pos c_1, if_pos c_3]) dX4_told__74
  · have q_13 := mt (fq_ge (a := wh) (b := 5) rfl (by omega) (by omega)).mpr c_1
    refine lv_aload_n hx hb dX4_told__5 rfl (lv_at hl 0 rfl) ?_
    refine g_X4_coins F hH kw_301 dX4_told__6 ?_
    refine lv_iconst (v := 5) hx hb dX4_told__9 (by decide) ?_
    refine lv_iload_n hx hb dX4_told__10 rfl (lv_at hl 1 rfl) ?_
    refine lv_imul hx hb dX4_told__11 ?_
    refine x_top (pk_mul 5 r) ?_
    refine lv_iload_n hx hb dX4_told__12 rfl (lv_at hl 2 rfl) ?_
    refine lv_iadd hx hb dX4_told__13 ?_
    refine x_top (nI_add (5 * r) wh) ?_
    refine a_mco F hH ((5 * r) + wh) (by omega) dX4_told__14 ?_
    refine lv_goto (tgt := 74) hx hb dX4_told__15 (by decide) ?_
    exact x_iretR F hr hlk hH (by simp only [f_X4_told_, if_neg c_1]) dX4_told__74
