theorem rel_zero : Rel zst zst :=
  ⟨fun t _ => ⟨rfl, rfl, rfl⟩, fun t _ h => absurd bz_0 h, fun k _ => rfl, rfl, rfl, rfl, rfl⟩
def EL (D : va_G) (a b : Nat → Nat) (k k2 : Nat → ClassId) (A : Nat → Prop) (z : Nat) : EV := (D, (fun i => if i < 47 then a i else b (i - 47)), (fun i => if i = 1 then k2 1 else k i), 54, A, z)
theorem EL_a1 {D : va_G} {a b : Nat → Nat} {k k2 : Nat → ClassId} {A : Nat → Prop} {z i : Nat} (h : i < 47) : ea (EL D a b k k2 A z) i = a i := if_pos h
theorem EL_a2 {D : va_G} {a b : Nat → Nat} {k k2 : Nat → ClassId} {A : Nat → Prop} {z r : Nat} : ea (EL D a b k k2 A z) (47 + r) = b r := by
  show (if 47 + r < 47 then a (47 + r) else b (47 + r - 47)) = b r
  rw [if_neg (by omega), Nat.add_sub_cancel_left]
theorem EL_v1 {D : va_G} {a b : Nat → Nat} {k k2 : Nat → ClassId} {A : Nat → Prop} {z i : Nat} (hi : i < 47) : vv (EL D a b k k2 A z) zst zst i = vv (E0 D a k) zst zst i := by
  by_cases h : i < 5
  · rw [vv0 h, vv0 h]
    match i, h with
    | 0, _ => rfl
    | 1, _ =>
      have : (fun t => if t < 8 then some (ea (EL D a b k k2 A z) (5 + t)) else none) = (fun t => if t < 8 then some (a (5 + t)) else none) := by
        funext t
        by_cases ht : t < 8
        · rw [if_pos ht, if_pos ht, EL_a1 (by omega)]
        · rw [if_neg ht, if_neg ht]
      show (Sum.inl (k 2, 8, .inr (.inr (.inr (.inr (fun t => if t < 8 then some (ea (EL D a b k k2 A z) (5 + t)) else none))))) : va_E) = _
      rw [this]
      rfl
    | 2, _ => rfl
    | 3, _ =>
      have : (fun t => if t < 6 then some (ea (EL D a b k k2 A z) (24 + t)) else none) = (fun t => if t < 6 then some (a (24 + t)) else none) := by
        funext t
        by_cases ht : t < 6
        · rw [if_pos ht, if_pos ht, EL_a1 (by omega)]
        · rw [if_neg ht, if_neg ht]
      show (Sum.inl (k 3, 6, .inr (.inr (.inr (.inr (fun t => if t < 6 then some (ea (EL D a b k k2 A z) (24 + t)) else none))))) : va_E) = _
      rw [this]
      rfl
    | 4, _ => rfl
  · by_cases hb : i < 13
    · obtain ⟨t, rfl⟩ : ∃ t, i = 5 + t := ⟨i - 5, by omega⟩
      rw [vv1 (by omega), vv1 (by omega), v1, v1, EL_a1 (by omega)]
      rfl
    · by_cases hc : i < 30
      · obtain ⟨t, rfl⟩ : ∃ t, i = 13 + t := ⟨i - 13, by omega⟩
        rw [vv2 (by omega), vv2 (by omega), v2, v2, EL_a1 (by omega)]
        rfl
      · obtain ⟨t, rfl⟩ : ∃ t, i = 30 + t := ⟨i - 30, by omega⟩
        rw [vv3 (by omega), vv3 (by omega)]
        rfl
theorem EL_v2 {D : va_G} {a b : Nat → Nat} {k k2 : Nat → ClassId} (hk : k 0 = k2 0) {A : Nat → Prop} {z r : Nat} (hr : r < 7) : vv (EL D a b k k2 A z) zst zst (47 + r) = v4 (E0 D (fun i => b (i - 47)) k2) zst r := by
  have h0 : ek (EL D a b k k2 A z) 0 = k2 0 := hk
  have h1 : ek (EL D a b k k2 A z) 1 = k2 1 := rfl
  rw [vv4]
  match r, hr with
  | 0, _ => rfl
  | 1, _ => rfl
  | 2, _ => rfl
  | 3, _ => simp only [v4, h0]; rfl
  | 4, _ => simp only [v4, h0]; rfl
  | 5, _ => simp only [v4, h0]; rfl
  | 6, _ => simp only [v4, h0]; rfl
theorem EL_cells {D : va_G} {a b : Nat → Nat} {k k2 : Nat → ClassId} (hk : k 0 = k2 0) {A : Nat → Prop} {z : Nat} : cells (EL D a b k k2 A z) zst zst = xw D a k ++ mw D b k2 := by
  apply List.ext_getElem?
  intro i
  have hl1 : (xw D a k).length = 47 := by simp [xw]
  have hl2 : (mw D b k2).length = 7 := by simp [mw]
  by_cases h1 : i < 47
  · rw [List.getElem?_append_left (by omega), cells_at (show i < 54 by omega) rfl, EL_a1 h1, EL_v1 h1]
    simp [xw, h1]
  · by_cases h2 : i < 54
    · rw [List.getElem?_append_right (by omega), hl1]
      obtain ⟨r, rfl⟩ : ∃ r, i = 47 + r := ⟨i - 47, by omega⟩
      rw [cells_at (show 47 + r < 54 by omega) rfl, EL_a2, EL_v2 hk (by omega), Nat.add_sub_cancel_left]
      have : r < 7 := by omega
      simp [mw, this]
    · rw [List.getElem?_eq_none (by simp [cells]; show 54 ≤ i; omega), List.getElem?_eq_none (by rw [List.length_append]; omega)]
theorem cwi_9 : CWd RL 9 yX3_init cX3_init 2 none 0 := ⟨kw_32, kw_24, kw_34, by decide +kernel, by decide +kernel, by decide +kernel⟩
theorem cwi_12 : CWd RL 12 yX4_init cX4_init 1 none 0 := ⟨kw_293, kw_28, kw_295, by decide +kernel, by decide +kernel, by decide +kernel⟩
set_option maxRecDepth 100000 in
set_option maxHeartbeats 8000000 in
theorem whole_start {p : Program} {e : Env} {s : State} {m : MethodId} {below : List Frame} {meth : Method} {c : Code} (l : Launch) {b L : Nat} {xs : Nat → Int32} (hL : L ≤ 2560) (C0 : lw_At p s m meth c b L xs) : W p l e room_1 s m #[Value.ref b] below meth c s.heap [] 0 0 (lw_Z below #[Value.ref b] s) (entryFrame m ([Value.ref b] : List Value).toArray 4) := by
  obtain ⟨hx, hb, hr, hml, hown, hts, hX, hbl, hlocks, hgv⟩ := id C0
  have htsg : ∀ w ∈ gtbl, w.before #[Value.ref b] s = true := fun w hw => hts w (List.mem_filter.mp hw).1
  have hA : ∀ q : Nat, s.heap.size ≤ q → (fun q : Nat => s.heap.size ≤ q) q := fun _ h => h
  obtain ⟨c0, iS0, hKn0⟩ := u_known (C := RX0) (T := TX0) (N := 1) (n := 1) htsg gX0 (htsg _ kw_46)
  obtain ⟨c1, iS1, hKn1⟩ := u_known (C := RX1) (T := TX1) (N := 4) (n := 4) htsg gX1 (htsg _ kw_76)
  obtain ⟨c2, iS2, hKn2⟩ := u_known (C := RX2) (T := TX2) (N := 4) (n := 4) htsg gX2 (htsg _ kw_40)
  obtain ⟨c3, iS3, hKn3⟩ := u_known (C := RX3) (T := TX3) (N := 7) (n := 7) htsg gX3 (htsg _ kw_31)
  obtain ⟨c4, iS4, hKn4⟩ := u_known (C := RX4) (T := TX4) (N := 11) (n := 11) htsg gX4 (htsg _ kw_292)
  obtain ⟨D, hKc⟩ : ∃ (D : va_G), ∀ (k : Nat) (q : vw_C), vwCl[k]? = some q → u_Kn s q.1 q.2.1 q.2.2 (D.1 k) (D.2 k) := by
    refine ⟨((fun k => if k = 0 then c0 else if k = 1 then c1 else if k = 2 then c2 else if k = 3 then c3 else c4), (fun k => if k = 0 then iS0 else if k = 1 then iS1 else if k = 2 then iS2 else if k = 3 then iS3 else iS4)), ?_⟩
    intro k q hq
    match k, hq with
    | 0, hq => cases hq; exact hKn0
    | 1, hq => cases hq; exact hKn1
    | 2, hq => cases hq; exact hKn2
    | 3, hq => cases hq; exact hKn3
    | 4, hq => cases hq; exact hKn4
    | k + 5, hq => simp [vwCl] at hq
  have hS : va_S (fun q : Nat => s.heap.size ≤ q) s.heap s.heap [] := va_S.rf
  have hK : va_K D vwCl [] s := ⟨hKc, fun k q h => by simp at h⟩
  have hP : va_P D vwCl [] s.heap := fun k q h => by simp at h
  have hD : va_D (fun q : Nat => s.heap.size ≤ q) [] := ⟨fun i j p q h => by simp at h, fun k q h => by simp at h⟩
  have hNW : NW s := ⟨va_Nw.of rfl (hts _ (List.mem_of_getElem? (i := 41) (by decide +kernel))), va_Nw.of rfl (hts _ (List.mem_of_getElem? (i := 47) (by decide +kernel))), va_Nw.of rfl (hts _ (List.mem_of_getElem? (i := 74) (by decide +kernel))), va_Nw.of rfl (hts _ (List.mem_of_getElem? (i := 77) (by decide +kernel))), va_AO.of (hts _ (List.mem_of_getElem? (i := 39) (by decide +kernel))), va_AO.of (hts _ (List.mem_of_getElem? (i := 97) (by decide +kernel)))⟩
  have hflat := flat_of_before _ hgv
  obtain ⟨wz, hwz, hwT⟩ : ∃ z : Nat, (Term.static "TillHolds" "WORTHS" "[I").eval #[Value.ref b] s none [] s = some (.ref z) ∧ va_T .int z 5 (fun k => .int (wof k)) (fun q : Nat => s.heap.size ≤ q) s s.heap := by
    refine va_Tof (N := 5) (by decide) (hflat (Cond.arrayOf (Term.static "TillHolds" "WORTHS" "[I") FieldType.int) (by decide +kernel)) (va_eqt (hflat (Cond.eq (Term.length (Term.static "TillHolds" "WORTHS" "[I")) (Term.int 5)) (by decide +kernel))) ?_ (fun a ha h => absurd ha (Nat.not_lt.mpr h))
    intro j hj
    match j, hj with
    | 0, _ => exact va_eqt (hflat (Cond.eq (Term.elem (Term.static "TillHolds" "WORTHS" "[I") (Term.int 0)) (Term.int 1)) (by decide +kernel))
    | 1, _ => exact va_eqt (hflat (Cond.eq (Term.elem (Term.static "TillHolds" "WORTHS" "[I") (Term.int 1)) (Term.int 2)) (by decide +kernel))
    | 2, _ => exact va_eqt (hflat (Cond.eq (Term.elem (Term.static "TillHolds" "WORTHS" "[I") (Term.int 2)) (Term.int 5)) (by decide +kernel))
    | 3, _ => exact va_eqt (hflat (Cond.eq (Term.elem (Term.static "TillHolds" "WORTHS" "[I") (Term.int 3)) (Term.int 10)) (by decide +kernel))
    | 4, _ => exact va_eqt (hflat (Cond.eq (Term.elem (Term.static "TillHolds" "WORTHS" "[I") (Term.int 4)) (Term.int 20)) (by decide +kernel))
  have hwZ : va_Z "TillHolds" "WORTHS" "[I" (.ref wz) (fun q : Nat => s.heap.size ≤ q) s s.heap := va_Zof (hts _ (List.mem_of_getElem? (i := 202) (by decide +kernel))) (htsg _ kw_24) hwz (fun a ha h => absurd ha (Nat.not_lt.mpr h))
  have hl := lv_entry ([.ref b]) (n := 4) (Nat.le_of_ble_eq_true rfl)
  rw [lg_entry_eq]
  generalize (lg_sl ([.ref b]) ++ List.replicate (4 - (lg_sl ([.ref b])).length) Slot.unset).toArray = ls at hl ⊢
  have hl : lv_has ls 4 [(0, .ref b)] := hl
  refine va_new (ci := 3) (fs := [.null, .null, .null, .null, .null, .null, .null]) (C := RX3) (T := TX3) (N := 7) hx hb htsg gX3 tyX3 tyX3_ok hown (htsg _ kw_30) (htsg _ kw_31) (htsg _ kw_24) hK hP hD hS hA rfl (fun j hj => by rcases (show j = 0 ∨ j = 1 ∨ j = 2 ∨ j = 3 ∨ j = 4 ∨ j = 5 ∨ j = 6 by omega) with rfl | rfl | rfl | rfl | rfl | rfl | rfl <;> rfl) (Nat.le_of_ble_eq_true rfl) (Nat.le_of_ble_eq_true rfl) dL_law_0 (fun q0 H hP hD hS => ?_)
  refine W.widen (k := 1) (n := 7) (by omega) (by omega) ?_
  have hP : va_P D vwCl [(q0, .inr (3, [.null, .null, .null, .null, .null, .null, .null]))] H := hP
  have hD : va_D (fun q : Nat => s.heap.size ≤ q) [(q0, .inr (3, [.null, .null, .null, .null, .null, .null, .null]))] := hD
  refine lv_dup hx hb dL_law_3 rfl ?_
  have hFc := va_free (wc := [(q0, .inr (3, [.null, .null, .null, .null, .null, .null, .null]))]) hD hS hA [0] rfl
  refine va_callv (va_runI (As := []) (rest := [.ref q0]) ⟨hx, hb, hml, hown, htsg⟩ (c_X3_init l D q0 H.size) ⟨cwi_9.cb htsg rfl rfl ⟨Nat.le_of_ble_eq_true rfl, Nat.le_of_ble_eq_true rfl⟩, rfl, htsg _ kw_33⟩ ⟨PI.blind, fun U hU hW => ⟨rfl, by rw [hU], by rw [hU]; exact hP, va_K.moved hW.alike hK, hD.weaken (fun _ _ _ _ => trivial), hNW.warm hW⟩⟩ rfl rfl hl.1 rfl (lv_room (Nat.le_of_ble_eq_true rfl)) dL_law_4 ⟨Nat.le_of_ble_eq_true rfl, Nat.le_of_ble_eq_true rfl⟩) hS (fun q _ h => hFc q h) hFc (fun u t H1 locs ht hvm hw hB hz1 hk1 hS => ?_)
  obtain ⟨a, kc, ha0, hP1, hK1, hD1⟩ := hB
  rw [ht] at hP1
  have hKx := va_K.moved hvm.symm hK1
  have hP := hP1
  have hD : va_D (fun q : Nat => s.heap.size ≤ q) (xw D a kc) := hD1.weaken (fun k q _ h => hFc q.1 h)
  generalize H1 = H at hP hS ⊢
  refine W.widen (k := 47) (n := 165) (by omega) (by omega) ?_
  refine lv_astore_n (lv' := [(1, .ref q0), (0, .ref b)]) hx hb dL_law_7 rfl hl (by decide) rfl (fun ls hl => ?_)
  refine va_new (ci := 4) (fs := [.int 0, .null, .null, .null, .null, .int 0, .int 0, .int 0, .int 0, .null, .null]) (C := RX4) (T := TX4) (N := 11) hx hb htsg gX4 tyX4 tyX4_ok hown (htsg _ kw_291) (htsg _ kw_292) (htsg _ kw_28) hK hP hD hS hA rfl (fun j hj => by rcases (show j = 0 ∨ j = 1 ∨ j = 2 ∨ j = 3 ∨ j = 4 ∨ j = 5 ∨ j = 6 ∨ j = 7 ∨ j = 8 ∨ j = 9 ∨ j = 10 by omega) with rfl | rfl | rfl | rfl | rfl | rfl | rfl | rfl | rfl | rfl | rfl <;> rfl) (Nat.le_of_ble_eq_true rfl) (Nat.le_of_ble_eq_true rfl) dL_law_8 (fun q1 H hP hD hS => ?_)
  refine W.widen (k := 48) (n := 176) (by omega) (by omega) ?_
  refine lv_dup hx hb dL_law_11 rfl ?_
  have hxl : (xw D a kc).length = 47 := by simp [xw]
  have h47 : (xw D a kc ++ [((q1, .inr (4, [.int 0, .null, .null, .null, .null, .int 0, .int 0, .int 0, .int 0, .null, .null])) : Nat × va_E)])[47]? = some (q1, .inr (4, [.int 0, .null, .null, .null, .null, .int 0, .int 0, .int 0, .int 0, .null, .null])) := by rw [List.getElem?_append_right (by omega), hxl]; rfl
  have hPc := hP.sub (ws' := [(q1, .inr (4, [.int 0, .null, .null, .null, .null, .int 0, .int 0, .int 0, .int 0, .null, .null]))]) [47] (by simp only [List.filterMap_cons, List.filterMap_nil, h47])
  have hDc := hD.sub (ws' := [(q1, .inr (4, [.int 0, .null, .null, .null, .null, .int 0, .int 0, .int 0, .int 0, .null, .null]))]) [47] (by decide) (by simp only [List.map_cons, List.map_nil, h47])
  have hFc := va_free (wc := [(q1, .inr (4, [.int 0, .null, .null, .null, .null, .int 0, .int 0, .int 0, .int 0, .null, .null]))]) hD hS hA [47] (by simp only [List.map_cons, List.map_nil, h47])
  refine va_callv (va_runI (As := []) (rest := [.ref q1]) ⟨hx, hb, hml, hown, htsg⟩ (c_X4_init l D q1 H.size) ⟨cwi_12.cb htsg rfl rfl ⟨Nat.le_of_ble_eq_true rfl, Nat.le_of_ble_eq_true rfl⟩, rfl, htsg _ kw_294⟩ ⟨PI.blind, fun U hU hW => ⟨rfl, by rw [hU], by rw [hU]; exact hPc, va_K.moved hW.alike hK, hDc.weaken (fun _ _ _ _ => trivial), hNW.warm hW⟩⟩ rfl rfl hl.1 rfl (lv_room (Nat.le_of_ble_eq_true rfl)) dL_law_12 ⟨Nat.le_of_ble_eq_true rfl, Nat.le_of_ble_eq_true rfl⟩) hS (fun q _ h => hFc q h) hFc (fun u t H1 locs ht hvm hw hB hz1 hk1 hS => ?_)
  obtain ⟨b1, k2, hb0, hP1, hK1, hD1⟩ := hB
  rw [ht] at hP1
  have hKm := va_K.moved hvm.symm hK1
  have hRr : (List.range 47).map (fun i => (xw D a kc ++ [((q1, .inr (4, [.int 0, .null, .null, .null, .null, .int 0, .int 0, .int 0, .int 0, .null, .null])) : Nat × va_E)])[i]?) = (xw D a kc).map some := by
    apply List.ext_getElem?
    intro i
    by_cases hi : i < 47
    · rw [List.getElem?_map, List.getElem?_range hi, List.getElem?_map]
      show some ((xw D a kc ++ _)[i]?) = _
      rw [List.getElem?_append_left (by omega), List.getElem?_eq_getElem (by omega)]
      rfl
    · rw [List.getElem?_eq_none (by simp; omega), List.getElem?_eq_none (by simp [hxl]; omega)]
  obtain ⟨hP, hD⟩ := va_join (wr := xw D a kc) (w1 := mw D b1 k2) hP hD [47] (List.range 47) (by simp only [List.map_cons, List.map_nil, h47]) hRr (by decide +kernel) (by intro i hi; have := List.mem_range.mp hi; simp; omega) hk1 hFc hP1 hD1
  have hkk : kc 0 = k2 0 := tys_eq hKx hKm 0 0 rfl rfl
  generalize H1 = H at hP hS ⊢
  rw [← EL_cells hkk (A := fun q : Nat => s.heap.size ≤ q) (z := wz)] at hP hD
  refine W.widen (k := 54) (n := 285) (by omega) (by omega) ?_
  refine lv_astore_n (lv' := [(2, .ref q1), (1, .ref q0), (0, .ref b)]) hx hb dL_law_15 rfl hl (by decide) rfl (fun ls hl => ?_)
  refine lv_iconst (v := 0) hx hb dL_law_16 (by decide) ?_
  refine lv_istore_n (lv' := [(3, .int 0), (2, .ref q1), (1, .ref q0), (0, .ref b)]) hx hb dL_law_17 rfl hl (by decide) rfl (fun ls hl => ?_)
  obtain ⟨E, hE⟩ : ∃ E : EV, E = EL D a b1 kc k2 (fun q : Nat => s.heap.size ≤ q) wz := ⟨_, rfl⟩
  rw [← hE] at hP hD
  have hen : en E = 54 := by rw [hE]; rfl
  have heA : eA E = fun q : Nat => s.heap.size ≤ q := by rw [hE]; rfl
  have heD : eD E = D := by rw [hE]; rfl
  have he0 : ea E 0 = q0 := by rw [hE]; exact ha0
  have he47 : ea E 47 = q1 := by rw [hE]; exact hb0
  have hKS : va_K (eD E) vwCl (etys E) s := by
    rw [heD, hE]
    exact (hKx.app hKm).sub [0, 4, 1, 2] rfl
  have hAD : AD E := by
    refine ⟨fun i j hi hj e => hD.1 i j _ _ (cells_at hi rfl) (cells_at hj rfl) e, fun i hi => ?_, by rw [hen]; decide⟩
    rw [heA]
    exact hD.2 i _ (cells_at hi rfl)
  have hKSf : KS E s := ⟨hKS, va_Nw.of rfl (hts _ (List.mem_of_getElem? (i := 271) (by decide +kernel))), va_Nw.of rfl (hts _ (List.mem_of_getElem? (i := 277) (by decide +kernel)))⟩
  have hSZ : SZ E s s.heap := by
    refine ⟨?_, ?_⟩
    · rw [heA, show ez E = wz by rw [hE]; rfl]; exact hwZ
    · rw [heA, show ez E = wz by rw [hE]; rfl]; exact hwT
  have F : Fx E p s m #[Value.ref b] c code RL 4 := ⟨hx, hb, hml, hown, htsg, hKSf, hSZ, hAD, fun q h => by rw [heA]; exact h⟩
  have hH : HS E s zst zst H _ := ⟨by unfold WD; rw [heD]; exact hP, by rw [heA]; exact hS⟩
  rw [← he0, ← he47] at hl
  exact law_loop hL C0 F hen heA 513 0 zst zst _ _ ls (by omega) (by omega) rel_zero hH (lv_sub hl [3, 2, 1, 0] rfl)
