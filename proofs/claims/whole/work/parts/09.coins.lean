def sumL (f : Nat → Int32) : Nat → Nat → Int32 → Int32
  | 0, _, acc => acc
  | n + 1, k, acc => sumL f n (k + 1) (acc + f k)
def wsumL (f : Nat → Int32) : Nat → Nat → Int32 → Int32
  | 0, _, acc => acc
  | n + 1, k, acc => wsumL f n (k + 1) (acc + f k * wof k)
def clrL (j : Nat) : Nat → Nat → St → St
  | 0, _, σ => σ
  | n + 1, k, σ => clrL j n (k + 1) (up σ j k 0)
def becL (j i : Nat) : Nat → Nat → St → St
  | 0, _, σ => σ
  | n + 1, k, σ => becL j i n (k + 1) (up σ j k (σ i k))
def addL (j i : Nat) : Nat → Nat → St → St
  | 0, _, σ => σ
  | n + 1, k, σ => addL j i n (k + 1) (up σ j k (σ j k + σ i k))
def remL (j i : Nat) : Nat → Nat → St → St
  | 0, _, σ => σ
  | n + 1, k, σ => remL j i n (k + 1) (up σ j k (σ j k - σ i k))
set_option maxRecDepth 100000 in
set_option maxHeartbeats 4000000 in
theorem lp_X0_number {p : Program} {l : Launch} {e : Env} {s : State} {m : MethodId} {args : Array Value} {below : List Frame} {meth : Method} {c : Code} {Q : State → Prop} {E : EV} (F : Fx E p s m args c cX0_number RX0 3) (j : Nat) (hj : j < 17) : ∀ (n : Nat) (k : Nat) (acc : Int32) (σ μ : St) (H : Heap) (locs : List Loc) (ls : Array Slot), k + n = 5 → HS E s σ μ H locs → lv_has ls 3 [(0, .ref (ea E (13 + j))), (1, .int acc), (2, .int (nI k))] → (∀ (H : Heap) (locs : List Loc) (ls : Array Slot), HS E s σ μ H locs → lv_has ls 3 [(0, .ref (ea E (13 + j))), (1, .int (sumL (σ j) n k acc)), (2, .int (nI 5))] → W p l e (rmL 0) s m args below meth c H locs 0 0 Q (F0 m 24 ls [])) → W p l e (rmL 0) s m args below meth c H locs 0 0 Q (F0 m 4 ls []) := by
  have hx := F.hx
  have hb := F.hb
  intro n
  induction n with
  | zero =>
    intro k acc σ μ H locs ls hn hH hl hk
    obtain rfl : k = 5 := by omega
    refine lv_iload_n hx hb dX0_number_4 rfl (lv_at hl 2 rfl) ?_
    refine lv_iconst (v := 5) hx hb dX0_number_5 (by decide) ?_
    refine lv_icmp_ge (tgt := 24) hx hb dX0_number_6 (by decide) (fun _ => ?_) (fun c_1 => absurd (by decide) c_1)
    simp only [sumL] at hk
    exact hk H locs ls hH (lv_sub hl [0, 1, 2] rfl)
  | succ n ih =>
    intro k acc σ μ H locs ls hn hH hl hk
    refine lv_iload_n hx hb dX0_number_4 rfl (lv_at hl 2 rfl) ?_
    refine lv_iconst (v := 5) hx hb dX0_number_5 (by decide) ?_
    refine lv_icmp_ge (tgt := 24) hx hb dX0_number_6 (by decide) (fun c_1 => absurd c_1 (nI_ge (show k < 5 by omega) (by decide))) (fun _ => ?_)
    refine lv_iload_n hx hb dX0_number_9 rfl (lv_at hl 1 rfl) ?_
    refine lv_aload_n hx hb dX0_number_10 rfl (lv_at hl 0 rfl) ?_
    refine g_X0_of F hH (j := j) (by omega) kw_51 dX0_number_11 ?_
    refine lv_iload_n hx hb dX0_number_14 rfl (lv_at hl 2 rfl) ?_
    refine a_of F hH (j := j) (by omega) k (by omega) dX0_number_15 ?_
    refine lv_iadd hx hb dX0_number_16 ?_
    refine lv_istore_n (lv' := [(1, .int (acc + (σ j k))), (0, .ref (ea E (13 + j))), (2, .int (nI k))]) hx hb dX0_number_17 rfl hl (by decide) rfl (fun ls hl => ?_)
    refine lv_iinc (v := nI (k + 1)) (lv' := [(2, .int (nI (k + 1))), (1, .int (acc + (σ j k))), (0, .ref (ea E (13 + j)))]) hx hb dX0_number_18 hl (k := 2) rfl (nI_1 k) (by decide) rfl (fun ls hl => ?_)
    refine lv_goto (tgt := 4) hx hb dX0_number_21 (by decide) ?_
    simp only [sumL] at hk
    exact ih (k + 1) (acc + (σ j k)) σ μ H locs ls (by omega) hH (lv_sub hl [2, 1, 0] rfl) hk
set_option maxRecDepth 100000 in
set_option maxHeartbeats 4000000 in
theorem c_X0_number (l : Launch) {E : EV} (hA : AD E) (σ μ : St) (j : Nat) (hj : j < 17) : Met l yX0_number (.code yX0_number cX0_number 3 (some .int) :: gtbl) (rmL 0) (va_Pc [.ref (ea E (13 + j))] (PR E σ μ)) (QI E (sumL (σ j) 5 0 0) σ μ) 0 0 (eA E) := by
  refine x_met (own := RX0) (by decide) rfl hA (Nat.le_of_ble_eq_true rfl) ?_
  intro p e s m below meth c ls F hr hlk hH hl
  have hl : lv_has ls 3 [(0, .ref (ea E (13 + j)))] := hl
  have hx := F.hx
  have hb := F.hb
  refine lv_iconst (v := 0) hx hb dX0_number_0 (by decide) ?_
  refine lv_istore_n (lv' := [(1, .int 0), (0, .ref (ea E (13 + j)))]) hx hb dX0_number_1 rfl hl (by decide) rfl (fun ls hl => ?_)
  refine lv_iconst (v := 0) hx hb dX0_number_2 (by decide) ?_
  refine lv_istore_n (lv' := [(2, .int 0), (1, .int 0), (0, .ref (ea E (13 + j)))]) hx hb dX0_number_3 rfl hl (by decide) rfl (fun ls hl => ?_)
  refine lp_X0_number F j hj 5 0 0 σ μ _ _ ls (by omega) hH (lv_sub hl [2, 1, 0] rfl) (fun H locs ls hH hl => ?_)
  refine lv_iload_n hx hb dX0_number_24 rfl (lv_at hl 1 rfl) ?_
  exact x_iretR F hr hlk hH rfl dX0_number_25
set_option maxRecDepth 100000 in
set_option maxHeartbeats 4000000 in
theorem lp_X0_worth {p : Program} {l : Launch} {e : Env} {s : State} {m : MethodId} {args : Array Value} {below : List Frame} {meth : Method} {c : Code} {Q : State → Prop} {E : EV} (F : Fx E p s m args c cX0_worth RX0 3) (j : Nat) (hj : j < 17) : ∀ (n : Nat) (k : Nat) (acc : Int32) (σ μ : St) (H : Heap) (locs : List Loc) (ls : Array Slot), k + n = 5 → HS E s σ μ H locs → lv_has ls 3 [(0, .ref (ea E (13 + j))), (1, .int acc), (2, .int (nI k))] → (∀ (H : Heap) (locs : List Loc) (ls : Array Slot), HS E s σ μ H locs → lv_has ls 3 [(0, .ref (ea E (13 + j))), (1, .int (wsumL (σ j) n k acc)), (2, .int (nI 5))] → W p l e (rmL 0) s m args below meth c H locs 0 0 Q (F0 m 30 ls [])) → W p l e (rmL 0) s m args below meth c H locs 0 0 Q (F0 m 4 ls []) := by
  have hx := F.hx
  have hb := F.hb
  intro n
  induction n with
  | zero =>
    intro k acc σ μ H locs ls hn hH hl hk
    obtain rfl : k = 5 := by omega
    refine lv_iload_n hx hb dX0_worth_4 rfl (lv_at hl 2 rfl) ?_
    refine lv_iconst (v := 5) hx hb dX0_worth_5 (by decide) ?_
    refine lv_icmp_ge (tgt := 30) hx hb dX0_worth_6 (by decide) (fun _ => ?_) (fun c_1 => absurd (by decide) c_1)
    simp only [wsumL] at hk
    exact hk H locs ls hH (lv_sub hl [0, 1, 2] rfl)
  | succ n ih =>
    intro k acc σ μ H locs ls hn hH hl hk
    refine lv_iload_n hx hb dX0_worth_4 rfl (lv_at hl 2 rfl) ?_
    refine lv_iconst (v := 5) hx hb dX0_worth_5 (by decide) ?_
    refine lv_icmp_ge (tgt := 30) hx hb dX0_worth_6 (by decide) (fun c_1 => absurd c_1 (nI_ge (show k < 5 by omega) (by decide))) (fun _ => ?_)
    refine lv_iload_n hx hb dX0_worth_9 rfl (lv_at hl 1 rfl) ?_
    refine lv_aload_n hx hb dX0_worth_10 rfl (lv_at hl 0 rfl) ?_
    refine g_X0_of F hH (j := j) (by omega) kw_51 dX0_worth_11 ?_
    refine lv_iload_n hx hb dX0_worth_14 rfl (lv_at hl 2 rfl) ?_
    refine a_of F hH (j := j) (by omega) k (by omega) dX0_worth_15 ?_
    refine x_wgetN F hH dX0_worth_16 ?_
    refine lv_iload_n hx hb dX0_worth_19 rfl (lv_at hl 2 rfl) ?_
    refine x_wld F hH k (by omega) dX0_worth_20 ?_
    refine lv_imul hx hb dX0_worth_21 ?_
    refine lv_iadd hx hb dX0_worth_22 ?_
    refine lv_istore_n (lv' := [(1, .int (acc + ((σ j k) * (wof k)))), (0, .ref (ea E (13 + j))), (2, .int (nI k))]) hx hb dX0_worth_23 rfl hl (by decide) rfl (fun ls hl => ?_)
    refine lv_iinc (v := nI (k + 1)) (lv' := [(2, .int (nI (k + 1))), (1, .int (acc + ((σ j k) * (wof k)))), (0, .ref (ea E (13 + j)))]) hx hb dX0_worth_24 hl (k := 2) rfl (nI_1 k) (by decide) rfl (fun ls hl => ?_)
    refine lv_goto (tgt := 4) hx hb dX0_worth_27 (by decide) ?_
    simp only [wsumL] at hk
    exact ih (k + 1) (acc + ((σ j k) * (wof k))) σ μ H locs ls (by omega) hH (lv_sub hl [2, 1, 0] rfl) hk
set_option maxRecDepth 100000 in
set_option maxHeartbeats 4000000 in
theorem c_X0_worth (l : Launch) {E : EV} (hA : AD E) (σ μ : St) (j : Nat) (hj : j < 17) : Met l yX0_worth (.code yX0_worth cX0_worth 3 (some .int) :: gtbl) (rmL 0) (va_Pc [.ref (ea E (13 + j))] (PR E σ μ)) (QI E (wsumL (σ j) 5 0 0) σ μ) 0 0 (eA E) := by
  refine x_met (own := RX0) (by decide) rfl hA (Nat.le_of_ble_eq_true rfl) ?_
  intro p e s m below meth c ls F hr hlk hH hl
  have hl : lv_has ls 3 [(0, .ref (ea E (13 + j)))] := hl
  have hx := F.hx
  have hb := F.hb
  refine lv_iconst (v := 0) hx hb dX0_worth_0 (by decide) ?_
  refine lv_istore_n (lv' := [(1, .int 0), (0, .ref (ea E (13 + j)))]) hx hb dX0_worth_1 rfl hl (by decide) rfl (fun ls hl => ?_)
  refine lv_iconst (v := 0) hx hb dX0_worth_2 (by decide) ?_
  refine lv_istore_n (lv' := [(2, .int 0), (1, .int 0), (0, .ref (ea E (13 + j)))]) hx hb dX0_worth_3 rfl hl (by decide) rfl (fun ls hl => ?_)
  refine lp_X0_worth F j hj 5 0 0 σ μ _ _ ls (by omega) hH (lv_sub hl [2, 1, 0] rfl) (fun H locs ls hH hl => ?_)
  refine lv_iload_n hx hb dX0_worth_30 rfl (lv_at hl 1 rfl) ?_
  exact x_iretR F hr hlk hH rfl dX0_worth_31
set_option maxRecDepth 100000 in
set_option maxHeartbeats 4000000 in
theorem lp_X0_clear {p : Program} {l : Launch} {e : Env} {s : State} {m : MethodId} {args : Array Value} {below : List Frame} {meth : Method} {c : Code} {Q : State → Prop} {E : EV} (F : Fx E p s m args c cX0_clear RX0 2) (j : Nat) (hj : j < 17) : ∀ (n : Nat) (k : Nat) (σ μ : St) (H : Heap) (locs : List Loc) (ls : Array Slot), k + n = 5 → HS E s σ μ H locs → lv_has ls 2 [(0, .ref (ea E (13 + j))), (1, .int (nI k))] → (∀ (H : Heap) (locs : List Loc) (ls : Array Slot), HS E s (clrL j n k σ) μ H locs → lv_has ls 2 [(0, .ref (ea E (13 + j))), (1, .int (nI 5))] → W p l e (rmL 0) s m args below meth c H locs 0 0 Q (F0 m 20 ls [])) → W p l e (rmL 0) s m args below meth c H locs 0 0 Q (F0 m 2 ls []) := by
  have hx := F.hx
  have hb := F.hb
  intro n
  induction n with
  | zero =>
    intro k σ μ H locs ls hn hH hl hk
    obtain rfl : k = 5 := by omega
    refine lv_iload_n hx hb dX0_clear_2 rfl (lv_at hl 1 rfl) ?_
    refine lv_iconst (v := 5) hx hb dX0_clear_3 (by decide) ?_
    refine lv_icmp_ge (tgt := 20) hx hb dX0_clear_4 (by decide) (fun _ => ?_) (fun c_1 => absurd (by decide) c_1)
    simp only [clrL] at hk
    exact hk H locs ls hH (lv_sub hl [0, 1] rfl)
  | succ n ih =>
    intro k σ μ H locs ls hn hH hl hk
    refine lv_iload_n hx hb dX0_clear_2 rfl (lv_at hl 1 rfl) ?_
    refine lv_iconst (v := 5) hx hb dX0_clear_3 (by decide) ?_
    refine lv_icmp_ge (tgt := 20) hx hb dX0_clear_4 (by decide) (fun c_1 => absurd c_1 (nI_ge (show k < 5 by omega) (by decide))) (fun _ => ?_)
    refine lv_aload_n hx hb dX0_clear_7 rfl (lv_at hl 0 rfl) ?_
    refine g_X0_of F hH (j := j) (by omega) kw_51 dX0_clear_8 ?_
    refine lv_iload_n hx hb dX0_clear_11 rfl (lv_at hl 1 rfl) ?_
    refine lv_iconst (v := 0) hx hb dX0_clear_12 (by decide) ?_
    refine s_of F hH (j := j) (by omega) k (by omega) dX0_clear_13 (fun H locs hH => ?_)
    refine lv_iinc (v := nI (k + 1)) (lv' := [(1, .int (nI (k + 1))), (0, .ref (ea E (13 + j)))]) hx hb dX0_clear_14 hl (k := 1) rfl (nI_1 k) (by decide) rfl (fun ls hl => ?_)
    refine lv_goto (tgt := 2) hx hb dX0_clear_17 (by decide) ?_
    simp only [clrL] at hk
    exact ih (k + 1) (up σ j k 0) μ H locs ls (by omega) hH (lv_sub hl [1, 0] rfl) hk
set_option maxRecDepth 100000 in
set_option maxHeartbeats 4000000 in
theorem c_X0_clear (l : Launch) {E : EV} (hA : AD E) (σ μ : St) (j : Nat) (hj : j < 17) : Met l yX0_clear (.code yX0_clear cX0_clear 2 none :: gtbl) (rmL 0) (va_Pc [.ref (ea E (13 + j))] (PR E σ μ)) (QV E (clrL j 5 0 σ) μ) 0 0 (eA E) := by
  refine x_met (own := RX0) (by decide) rfl hA (Nat.le_of_ble_eq_true rfl) ?_
  intro p e s m below meth c ls F hr hlk hH hl
  have hl : lv_has ls 2 [(0, .ref (ea E (13 + j)))] := hl
  have hx := F.hx
  have hb := F.hb
  refine lv_iconst (v := 0) hx hb dX0_clear_0 (by decide) ?_
  refine lv_istore_n (lv' := [(1, .int 0), (0, .ref (ea E (13 + j)))]) hx hb dX0_clear_1 rfl hl (by decide) rfl (fun ls hl => ?_)
  refine lp_X0_clear F j hj 5 0 σ μ _ _ ls (by omega) hH (lv_sub hl [1, 0] rfl) (fun H locs ls hH hl => ?_)
  exact x_vret F hr hlk hH rfl rfl dX0_clear_20
set_option maxRecDepth 100000 in
set_option maxHeartbeats 4000000 in
theorem lp_X0_become {p : Program} {l : Launch} {e : Env} {s : State} {m : MethodId} {args : Array Value} {below : List Frame} {meth : Method} {c : Code} {Q : State → Prop} {E : EV} (F : Fx E p s m args c cX0_become RX0 3) (j i : Nat) (hj : j < 17) (hi : i < 17) : ∀ (n : Nat) (k : Nat) (σ μ : St) (H : Heap) (locs : List Loc) (ls : Array Slot), k + n = 5 → HS E s σ μ H locs → lv_has ls 3 [(0, .ref (ea E (13 + j))), (1, .ref (ea E (13 + i))), (2, .int (nI k))] → (∀ (H : Heap) (locs : List Loc) (ls : Array Slot), HS E s (becL j i n k σ) μ H locs → lv_has ls 3 [(0, .ref (ea E (13 + j))), (1, .ref (ea E (13 + i))), (2, .int (nI 5))] → W p l e (rmL 0) s m args below meth c H locs 0 0 Q (F0 m 25 ls [])) → W p l e (rmL 0) s m args below meth c H locs 0 0 Q (F0 m 2 ls []) := by
  have hx := F.hx
  have hb := F.hb
  intro n
  induction n with
  | zero =>
    intro k σ μ H locs ls hn hH hl hk
    obtain rfl : k = 5 := by omega
    refine lv_iload_n hx hb dX0_become_2 rfl (lv_at hl 2 rfl) ?_
    refine lv_iconst (v := 5) hx hb dX0_become_3 (by decide) ?_
    refine lv_icmp_ge (tgt := 25) hx hb dX0_become_4 (by decide) (fun _ => ?_) (fun c_1 => absurd (by decide) c_1)
    simp only [becL] at hk
    exact hk H locs ls hH (lv_sub hl [0, 1, 2] rfl)
  | succ n ih =>
    intro k σ μ H locs ls hn hH hl hk
    refine lv_iload_n hx hb dX0_become_2 rfl (lv_at hl 2 rfl) ?_
    refine lv_iconst (v := 5) hx hb dX0_become_3 (by decide) ?_
    refine lv_icmp_ge (tgt := 25) hx hb dX0_become_4 (by decide) (fun c_1 => absurd c_1 (nI_ge (show k < 5 by omega) (by decide))) (fun _ => ?_)
    refine lv_aload_n hx hb dX0_become_7 rfl (lv_at hl 0 rfl) ?_
    refine g_X0_of F hH (j := j) (by omega) kw_51 dX0_become_8 ?_
    refine lv_iload_n hx hb dX0_become_11 rfl (lv_at hl 2 rfl) ?_
    refine lv_aload_n hx hb dX0_become_12 rfl (lv_at hl 1 rfl) ?_
    refine g_X0_of F hH (j := i) (by omega) kw_51 dX0_become_13 ?_
    refine lv_iload_n hx hb dX0_become_16 rfl (lv_at hl 2 rfl) ?_
    refine a_of F hH (j := i) (by omega) k (by omega) dX0_become_17 ?_
    refine s_of F hH (j := j) (by omega) k (by omega) dX0_become_18 (fun H locs hH => ?_)
    refine lv_iinc (v := nI (k + 1)) (lv' := [(2, .int (nI (k + 1))), (0, .ref (ea E (13 + j))), (1, .ref (ea E (13 + i)))]) hx hb dX0_become_19 hl (k := 2) rfl (nI_1 k) (by decide) rfl (fun ls hl => ?_)
    refine lv_goto (tgt := 2) hx hb dX0_become_22 (by decide) ?_
    simp only [becL] at hk
    exact ih (k + 1) (up σ j k (σ i k)) μ H locs ls (by omega) hH (lv_sub hl [1, 2, 0] rfl) hk
set_option maxRecDepth 100000 in
set_option maxHeartbeats 4000000 in
theorem c_X0_become (l : Launch) {E : EV} (hA : AD E) (σ μ : St) (j : Nat) (i : Nat) (hj : j < 17) (hi : i < 17) : Met l yX0_become (.code yX0_become cX0_become 3 none :: gtbl) (rmL 0) (va_Pc [.ref (ea E (13 + j)), .ref (ea E (13 + i))] (PR E σ μ)) (QV E (becL j i 5 0 σ) μ) 0 0 (eA E) := by
  refine x_met (own := RX0) (by decide) rfl hA (Nat.le_of_ble_eq_true rfl) ?_
  intro p e s m below meth c ls F hr hlk hH hl
  have hl : lv_has ls 3 [(0, .ref (ea E (13 + j))), (1, .ref (ea E (13 + i)))] := hl
  have hx := F.hx
  have hb := F.hb
  refine lv_iconst (v := 0) hx hb dX0_become_0 (by decide) ?_
  refine lv_istore_n (lv' := [(2, .int 0), (0, .ref (ea E (13 + j))), (1, .ref (ea E (13 + i)))]) hx hb dX0_become_1 rfl hl (by decide) rfl (fun ls hl => ?_)
  refine lp_X0_become F j i hj hi 5 0 σ μ _ _ ls (by omega) hH (lv_sub hl [1, 2, 0] rfl) (fun H locs ls hH hl => ?_)
  exact x_vret F hr hlk hH rfl rfl dX0_become_25
set_option maxRecDepth 100000 in
set_option maxHeartbeats 4000000 in
theorem lp_X0_add {p : Program} {l : Launch} {e : Env} {s : State} {m : MethodId} {args : Array Value} {below : List Frame} {meth : Method} {c : Code} {Q : State → Prop} {E : EV} (F : Fx E p s m args c cX0_add RX0 3) (j i : Nat) (hj : j < 17) (hi : i < 17) : ∀ (n : Nat) (k : Nat) (σ μ : St) (H : Heap) (locs : List Loc) (ls : Array Slot), k + n = 5 → HS E s σ μ H locs → lv_has ls 3 [(0, .ref (ea E (13 + j))), (1, .ref (ea E (13 + i))), (2, .int (nI k))] → (∀ (H : Heap) (locs : List Loc) (ls : Array Slot), HS E s (addL j i n k σ) μ H locs → lv_has ls 3 [(0, .ref (ea E (13 + j))), (1, .ref (ea E (13 + i))), (2, .int (nI 5))] → W p l e (rmL 0) s m args below meth c H locs 0 0 Q (F0 m 28 ls [])) → W p l e (rmL 0) s m args below meth c H locs 0 0 Q (F0 m 2 ls []) := by
  have hx := F.hx
  have hb := F.hb
  intro n
  induction n with
  | zero =>
    intro k σ μ H locs ls hn hH hl hk
    obtain rfl : k = 5 := by omega
    refine lv_iload_n hx hb dX0_add_2 rfl (lv_at hl 2 rfl) ?_
    refine lv_iconst (v := 5) hx hb dX0_add_3 (by decide) ?_
    refine lv_icmp_ge (tgt := 28) hx hb dX0_add_4 (by decide) (fun _ => ?_) (fun c_1 => absurd (by decide) c_1)
    simp only [addL] at hk
    exact hk H locs ls hH (lv_sub hl [0, 1, 2] rfl)
  | succ n ih =>
    intro k σ μ H locs ls hn hH hl hk
    refine lv_iload_n hx hb dX0_add_2 rfl (lv_at hl 2 rfl) ?_
    refine lv_iconst (v := 5) hx hb dX0_add_3 (by decide) ?_
    refine lv_icmp_ge (tgt := 28) hx hb dX0_add_4 (by decide) (fun c_1 => absurd c_1 (nI_ge (show k < 5 by omega) (by decide))) (fun _ => ?_)
    refine lv_aload_n hx hb dX0_add_7 rfl (lv_at hl 0 rfl) ?_
    refine g_X0_of F hH (j := j) (by omega) kw_51 dX0_add_8 ?_
    refine lv_iload_n hx hb dX0_add_11 rfl (lv_at hl 2 rfl) ?_
    refine lv_dup2_11 hx hb dX0_add_12 rfl rfl ?_
    refine a_of F hH (j := j) (by omega) k (by omega) dX0_add_13 ?_
    refine lv_aload_n hx hb dX0_add_14 rfl (lv_at hl 1 rfl) ?_
    refine g_X0_of F hH (j := i) (by omega) kw_51 dX0_add_15 ?_
    refine lv_iload_n hx hb dX0_add_18 rfl (lv_at hl 2 rfl) ?_
    refine a_of F hH (j := i) (by omega) k (by omega) dX0_add_19 ?_
    refine lv_iadd hx hb dX0_add_20 ?_
    refine s_of F hH (j := j) (by omega) k (by omega) dX0_add_21 (fun H locs hH => ?_)
    refine lv_iinc (v := nI (k + 1)) (lv' := [(2, .int (nI (k + 1))), (0, .ref (ea E (13 + j))), (1, .ref (ea E (13 + i)))]) hx hb dX0_add_22 hl (k := 2) rfl (nI_1 k) (by decide) rfl (fun ls hl => ?_)
    refine lv_goto (tgt := 2) hx hb dX0_add_25 (by decide) ?_
    simp only [addL] at hk
    exact ih (k + 1) (up σ j k ((σ j k) + (σ i k))) μ H locs ls (by omega) hH (lv_sub hl [1, 2, 0] rfl) hk
set_option maxRecDepth 100000 in
set_option maxHeartbeats 4000000 in
theorem c_X0_add (l : Launch) {E : EV} (hA : AD E) (σ μ : St) (j : Nat) (i : Nat) (hj : j < 17) (hi : i < 17) : Met l yX0_add (.code yX0_add cX0_add 3 none :: gtbl) (rmL 0) (va_Pc [.ref (ea E (13 + j)), .ref (ea E (13 + i))] (PR E σ μ)) (QV E (addL j i 5 0 σ) μ) 0 0 (eA E) := by
  refine x_met (own := RX0) (by decide) rfl hA (Nat.le_of_ble_eq_true rfl) ?_
  intro p e s m below meth c ls F hr hlk hH hl
  have hl : lv_has ls 3 [(0, .ref (ea E (13 + j))), (1, .ref (ea E (13 + i)))] := hl
  have hx := F.hx
  have hb := F.hb
  refine lv_iconst (v := 0) hx hb dX0_add_0 (by decide) ?_
  refine lv_istore_n (lv' := [(2, .int 0), (0, .ref (ea E (13 + j))), (1, .ref (ea E (13 + i)))]) hx hb dX0_add_1 rfl hl (by decide) rfl (fun ls hl => ?_)
  refine lp_X0_add F j i hj hi 5 0 σ μ _ _ ls (by omega) hH (lv_sub hl [1, 2, 0] rfl) (fun H locs ls hH hl => ?_)
  exact x_vret F hr hlk hH rfl rfl dX0_add_28
set_option maxRecDepth 100000 in
set_option maxHeartbeats 4000000 in
theorem lp_X0_remove {p : Program} {l : Launch} {e : Env} {s : State} {m : MethodId} {args : Array Value} {below : List Frame} {meth : Method} {c : Code} {Q : State → Prop} {E : EV} (F : Fx E p s m args c cX0_remove RX0 3) (j i : Nat) (hj : j < 17) (hi : i < 17) : ∀ (n : Nat) (k : Nat) (σ μ : St) (H : Heap) (locs : List Loc) (ls : Array Slot), k + n = 5 → HS E s σ μ H locs → lv_has ls 3 [(0, .ref (ea E (13 + j))), (1, .ref (ea E (13 + i))), (2, .int (nI k))] → (∀ (H : Heap) (locs : List Loc) (ls : Array Slot), HS E s (remL j i n k σ) μ H locs → lv_has ls 3 [(0, .ref (ea E (13 + j))), (1, .ref (ea E (13 + i))), (2, .int (nI 5))] → W p l e (rmL 0) s m args below meth c H locs 0 0 Q (F0 m 28 ls [])) → W p l e (rmL 0) s m args below meth c H locs 0 0 Q (F0 m 2 ls []) := by
  have hx := F.hx
  have hb := F.hb
  intro n
  induction n with
  | zero =>
    intro k σ μ H locs ls hn hH hl hk
    obtain rfl : k = 5 := by omega
    refine lv_iload_n hx hb dX0_remove_2 rfl (lv_at hl 2 rfl) ?_
    refine lv_iconst (v := 5) hx hb dX0_remove_3 (by decide) ?_
    refine lv_icmp_ge (tgt := 28) hx hb dX0_remove_4 (by decide) (fun _ => ?_) (fun c_1 => absurd (by decide) c_1)
    simp only [remL] at hk
    exact hk H locs ls hH (lv_sub hl [0, 1, 2] rfl)
  | succ n ih =>
    intro k σ μ H locs ls hn hH hl hk
    refine lv_iload_n hx hb dX0_remove_2 rfl (lv_at hl 2 rfl) ?_
    refine lv_iconst (v := 5) hx hb dX0_remove_3 (by decide) ?_
    refine lv_icmp_ge (tgt := 28) hx hb dX0_remove_4 (by decide) (fun c_1 => absurd c_1 (nI_ge (show k < 5 by omega) (by decide))) (fun _ => ?_)
    refine lv_aload_n hx hb dX0_remove_7 rfl (lv_at hl 0 rfl) ?_
    refine g_X0_of F hH (j := j) (by omega) kw_51 dX0_remove_8 ?_
    refine lv_iload_n hx hb dX0_remove_11 rfl (lv_at hl 2 rfl) ?_
    refine lv_dup2_11 hx hb dX0_remove_12 rfl rfl ?_
    refine a_of F hH (j := j) (by omega) k (by omega) dX0_remove_13 ?_
    refine lv_aload_n hx hb dX0_remove_14 rfl (lv_at hl 1 rfl) ?_
    refine g_X0_of F hH (j := i) (by omega) kw_51 dX0_remove_15 ?_
    refine lv_iload_n hx hb dX0_remove_18 rfl (lv_at hl 2 rfl) ?_
    refine a_of F hH (j := i) (by omega) k (by omega) dX0_remove_19 ?_
    refine lv_isub hx hb dX0_remove_20 ?_
    refine s_of F hH (j := j) (by omega) k (by omega) dX0_remove_21 (fun H locs hH => ?_)
    refine lv_iinc (v := nI (k + 1)) (lv' := [(2, .int (nI (k + 1))), (0, .ref (ea E (13 + j))), (1, .ref (ea E (13 + i)))]) hx hb dX0_remove_22 hl (k := 2) rfl (nI_1 k) (by decide) rfl (fun ls hl => ?_)
    refine lv_goto (tgt := 2) hx hb dX0_remove_25 (by decide) ?_
    simp only [remL] at hk
    exact ih (k + 1) (up σ j k ((σ j k) - (σ i k))) μ H locs ls (by omega) hH (lv_sub hl [1, 2, 0] rfl) hk
set_option maxRecDepth 100000 in
set_option maxHeartbeats 4000000 in
theorem c_X0_remove (l : Launch) {E : EV} (hA : AD E) (σ μ : St) (j : Nat) (i : Nat) (hj : j < 17) (hi : i < 17) : Met l yX0_remove (.code yX0_remove cX0_remove 3 none :: gtbl) (rmL 0) (va_Pc [.ref (ea E (13 + j)), .ref (ea E (13 + i))] (PR E σ μ)) (QV E (remL j i 5 0 σ) μ) 0 0 (eA E) := by
  refine x_met (own := RX0) (by decide) rfl hA (Nat.le_of_ble_eq_true rfl) ?_
  intro p e s m below meth c ls F hr hlk hH hl
  have hl : lv_has ls 3 [(0, .ref (ea E (13 + j))), (1, .ref (ea E (13 + i)))] := hl
  have hx := F.hx
  have hb := F.hb
  refine lv_iconst (v := 0) hx hb dX0_remove_0 (by decide) ?_
  refine lv_istore_n (lv' := [(2, .int 0), (0, .ref (ea E (13 + j))), (1, .ref (ea E (13 + i)))]) hx hb dX0_remove_1 rfl hl (by decide) rfl (fun ls hl => ?_)
  refine lp_X0_remove F j i hj hi 5 0 σ μ _ _ ls (by omega) hH (lv_sub hl [1, 2, 0] rfl) (fun H locs ls hH hl => ?_)
  exact x_vret F hr hlk hH rfl rfl dX0_remove_28
def f_X0_tell (σ : St) (j : Nat) (what : Int32) : Int32 :=
  if (f_X3_isKind what) = 0 then
    if what = 5 then
      sumL (σ j) 5 0 0
    else
      wsumL (σ j) 5 0 0
  else
    σ j (tn what)
set_option maxRecDepth 100000 in
set_option maxHeartbeats 4000000 in
theorem c_X0_tell (l : Launch) {E : EV} (hA : AD E) (σ μ : St) (j : Nat) (what : Int32) (hj : j < 17) : Met l yX0_tell (.code yX0_tell cX0_tell 2 (some .int) :: gtbl) (rmL 1) (va_Pc [.ref (ea E (13 + j)), .int what] (PR E σ μ)) (QI E (f_X0_tell σ j what) σ μ) 0 0 (eA E) := by
  refine x_met (own := RX0) (by decide) rfl hA (Nat.le_of_ble_eq_true rfl) ?_
  intro p e s m below meth c ls F hr hlk hH hl
  have hl : lv_has ls 2 [(0, .ref (ea E (13 + j))), (1, .int what)] := hl
  have hx := F.hx
  have hb := F.hb
  refine lv_iload_n hx hb dX0_tell_0 rfl (lv_at hl 1 rfl) ?_
  refine x_pureN F (c_X3_isKind l what) kw_167 kw_166 kw_24 rfl rfl ⟨Nat.le_of_ble_eq_true rfl, Nat.le_of_ble_eq_true rfl⟩ rfl hl.1 rfl (Nat.le_of_ble_eq_true rfl) ⟨Nat.zero_le _, Nat.zero_le _⟩ dX0_tell_1 ?_
  refine lv_if_eq (tgt := 14) hx hb dX0_tell_4 (by decide) (fun c_1 => ?_) (fun c_1 => ?_)
  · refine lv_iload_n hx hb dX0_tell_14 rfl (lv_at hl 1 rfl) ?_
    refine lv_iconst (v := 5) hx hb dX0_tell_15 (by decide) ?_
    refine lv_icmp_ne (tgt := 26) hx hb dX0_tell_16 (by decide) (fun c_2 => ?_) (fun c_2 => ?_)
    · refine lv_aload_n hx hb dX0_tell_26 rfl (lv_at hl 0 rfl) ?_
      refine x_calliR F hH (13 + j) (F.lt (by omega)) (vv2 (by omega)) rfl (c_X0_worth l F.ad σ μ j (by omega)) cw_X0_26 rfl rfl ⟨Nat.le_of_ble_eq_true rfl, Nat.le_of_ble_eq_true rfl⟩ rfl hl.1 rfl (Nat.le_of_ble_eq_true rfl) ⟨Nat.zero_le _, Nat.zero_le _⟩ dX0_tell_27 (fun H locs hH => ?_)
      exact x_iretR F hr hlk hH (by simp only [f_X0_tell, if_pos c_1, if_neg c_2]) dX0_tell_30
    · refine lv_aload_n hx hb dX0_tell_19 rfl (lv_at hl 0 rfl) ?_
      refine x_calliR F hH (13 + j) (F.lt (by omega)) (vv2 (by omega)) rfl (c_X0_number l F.ad σ μ j (by omega)) cw_X0_22 rfl rfl ⟨Nat.le_of_ble_eq_true rfl, Nat.le_of_ble_eq_true rfl⟩ rfl hl.1 rfl (Nat.le_of_ble_eq_true rfl) ⟨Nat.zero_le _, Nat.zero_le _⟩ dX0_tell_20 (fun H locs hH => ?_)
      refine lv_goto (tgt := 30) hx hb dX0_tell_23 (by decide) ?_
      exact x_iretR F hr hlk hH (by simp only [f_X0_tell, if_pos c_1, if_pos c_2]) dX0_tell_30
  · have q_3 := X3_isKind_n c_1
    have q_3b := q_3.2
    refine lv_aload_n hx hb dX0_tell_7 rfl (lv_at hl 0 rfl) ?_
    refine g_X0_of F hH (j := j) (by omega) kw_51 dX0_tell_8 ?_
    refine lv_iload_n hx hb dX0_tell_11 rfl (lv_at hl 1 rfl) ?_
    refine x_top q_3.1 ?_
    refine a_of F hH (j := j) (by omega) (tn what) (by omega) dX0_tell_12 ?_
    exact x_iretR F hr hlk hH (by simp only [f_X0_tell, if_neg c_1]) dX0_tell_13
def f_X2_hasRoomFor (σ : St) (t : Nat) (more : Int32) : Int32 :=
  if (σ 19 t) < ((sumL (σ t) 5 0 0) + more) then
    0
  else
    1
set_option maxRecDepth 100000 in
set_option maxHeartbeats 4000000 in
theorem c_X2_hasRoomFor (l : Launch) {E : EV} (hA : AD E) (σ μ : St) (t : Nat) (more : Int32) (ht : t < 8) : Met l yX2_hasRoomFor (.code yX2_hasRoomFor cX2_hasRoomFor 2 (some .boolean) :: gtbl) (rmL 1) (va_Pc [.ref (ea E (5 + t)), .int more] (PR E σ μ)) (QI E (f_X2_hasRoomFor σ t more) σ μ) 0 0 (eA E) := by
  refine x_met (own := RX2) (by decide) rfl hA (Nat.le_of_ble_eq_true rfl) ?_
  intro p e s m below meth c ls F hr hlk hH hl
  have hl : lv_has ls 2 [(0, .ref (ea E (5 + t))), (1, .int more)] := hl
  have hx := F.hx
  have hb := F.hb
  refine lv_aload_n hx hb dX2_hasRoomFor_0 rfl (lv_at hl 0 rfl) ?_
  refine g_X2_coins F hH (t := t) (by omega) kw_57 dX2_hasRoomFor_1 ?_
  refine x_calliR F hH (13 + t) (F.lt (by omega)) (vv2 (by omega)) rfl (c_X0_number l F.ad σ μ t (by omega)) cw_X2_18 rfl rfl ⟨Nat.le_of_ble_eq_true rfl, Nat.le_of_ble_eq_true rfl⟩ rfl hl.1 rfl (Nat.le_of_ble_eq_true rfl) ⟨Nat.zero_le _, Nat.zero_le _⟩ dX2_hasRoomFor_4 (fun H locs hH => ?_)
  refine lv_iload_n hx hb dX2_hasRoomFor_7 rfl (lv_at hl 1 rfl) ?_
  refine lv_iadd hx hb dX2_hasRoomFor_8 ?_
  refine lv_aload_n hx hb dX2_hasRoomFor_9 rfl (lv_at hl 0 rfl) ?_
  refine g_X2_limit F hH (t := t) (by omega) kw_62 dX2_hasRoomFor_10 ?_
  refine lv_icmp_gt (tgt := 20) hx hb dX2_hasRoomFor_13 (by decide) (fun c_1 => ?_) (fun c_1 => ?_)
  · refine lv_iconst (v := 0) hx hb dX2_hasRoomFor_20 (by decide) ?_
    exact x_zretR F hr hlk hH rfl (by simp only [f_X2_hasRoomFor, if_pos c_1]) dX2_hasRoomFor_21
  · refine lv_iconst (v := 1) hx hb dX2_hasRoomFor_16 (by decide) ?_
    refine lv_goto (tgt := 21) hx hb dX2_hasRoomFor_17 (by decide) ?_
    exact x_zretR F hr hlk hH rfl (by simp only [f_X2_hasRoomFor, if_neg c_1]) dX2_hasRoomFor_21
def f_X2_tell (σ : St) (t : Nat) (what : Int32) : Int32 :=
  if what = 7 then
    σ 19 t
  else
    if what = 8 then
      if (bz (σ 18 t)) = 0 then
        0
      else
        1
    else
      f_X0_tell σ t what
set_option maxRecDepth 100000 in
set_option maxHeartbeats 4000000 in
theorem c_X2_tell (l : Launch) {E : EV} (hA : AD E) (σ μ : St) (t : Nat) (what : Int32) (ht : t < 8) : Met l yX2_tell (.code yX2_tell cX2_tell 2 (some .int) :: gtbl) (rmL 2) (va_Pc [.ref (ea E (5 + t)), .int what] (PR E σ μ)) (QI E (f_X2_tell σ t what) σ μ) 0 0 (eA E) := by
  refine x_met (own := RX2) (by decide) rfl hA (Nat.le_of_ble_eq_true rfl) ?_
  intro p e s m below meth c ls F hr hlk hH hl
  have hl : lv_has ls 2 [(0, .ref (ea E (5 + t))), (1, .int what)] := hl
  have hx := F.hx
  have hb := F.hb
  refine lv_iload_n hx hb dX2_tell_0 rfl (lv_at hl 1 rfl) ?_
  refine lv_bipush (v := 7) hx hb dX2_tell_1 (by decide) ?_
  refine lv_icmp_ne (tgt := 11) hx hb dX2_tell_3 (by decide) (fun c_1 => ?_) (fun c_1 => ?_)
  · refine lv_iload_n hx hb dX2_tell_11 rfl (lv_at hl 1 rfl) ?_
    refine lv_bipush (v := 8) hx hb dX2_tell_12 (by decide) ?_
    refine lv_icmp_ne (tgt := 30) hx hb dX2_tell_14 (by decide) (fun c_2 => ?_) (fun c_2 => ?_)
    · refine lv_aload_n hx hb dX2_tell_30 rfl (lv_at hl 0 rfl) ?_
      refine g_X2_coins F hH (t := t) (by omega) kw_57 dX2_tell_31 ?_
      refine lv_iload_n hx hb dX2_tell_34 rfl (lv_at hl 1 rfl) ?_
      refine x_calliR F hH (13 + t) (F.lt (by omega)) (vv2 (by omega)) rfl (c_X0_tell l F.ad σ μ t what (by omega)) cw_X2_30 rfl rfl ⟨Nat.le_of_ble_eq_true rfl, Nat.le_of_ble_eq_true rfl⟩ rfl hl.1 rfl (Nat.le_of_ble_eq_true rfl) ⟨Nat.zero_le _, Nat.zero_le _⟩ dX2_tell_35 (fun H locs hH => ?_)
      exact x_iretR F hr hlk hH (by simp only [f_X2_tell, if_neg c_1, if_neg c_2]) dX2_tell_38
    · refine lv_aload_n hx hb dX2_tell_17 rfl (lv_at hl 0 rfl) ?_
      refine g_X2_isShut F hH (t := t) (by omega) kw_61 dX2_tell_18 ?_
      refine lv_if_eq (tgt := 28) hx hb dX2_tell_21 (by decide) (fun c_3 => ?_) (fun c_3 => ?_)
      · refine lv_iconst (v := 0) hx hb dX2_tell_28 (by decide) ?_
        exact x_iretR F hr hlk hH (by simp only [f_X2_tell, if_neg c_1, if_pos c_2, if_pos c_3]) dX2_tell_29
      · refine lv_iconst (v := 1) hx hb dX2_tell_24 (by decide) ?_
        refine lv_goto (tgt := 29) hx hb dX2_tell_25 (by decide) ?_
        exact x_iretR F hr hlk hH (by simp only [f_X2_tell, if_neg c_1, if_pos c_2, if_neg c_3]) dX2_tell_29
  · refine lv_aload_n hx hb dX2_tell_6 rfl (lv_at hl 0 rfl) ?_
    refine g_X2_limit F hH (t := t) (by omega) kw_62 dX2_tell_7 ?_
    exact x_iretR F hr hlk hH (by simp only [f_X2_tell, if_pos c_1]) dX2_tell_10
