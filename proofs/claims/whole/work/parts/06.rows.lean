set_option maxRecDepth 20000 in
theorem gX0 : ∀ w ∈ u_ws RX0 TX0 1, w ∈ gtbl := by decide +kernel
set_option maxRecDepth 20000 in
theorem gX1 : ∀ w ∈ u_ws RX1 TX1 4, w ∈ gtbl := by decide +kernel
set_option maxRecDepth 20000 in
theorem gX2 : ∀ w ∈ u_ws RX2 TX2 4, w ∈ gtbl := by decide +kernel
set_option maxRecDepth 20000 in
theorem gX3 : ∀ w ∈ u_ws RX3 TX3 7, w ∈ gtbl := by decide +kernel
set_option maxRecDepth 20000 in
theorem gX4 : ∀ w ∈ u_ws RX4 TX4 11, w ∈ gtbl := by decide +kernel
theorem up_row {σ : St} {r k r' : Nat} {v : Int32} (h : r' ≠ r) : up σ r k v r' = σ r' := by
  funext q; simp [up, h]
theorem up_at {σ : St} {r k k' : Nat} {v : Int32} (h : k' ≠ k) : up σ r k v r k' = σ r k' := by simp [up, h]
theorem up_same {σ : St} {r k : Nat} {v : Int32} : up σ r k v r k = v := by simp [up]
theorem up_upd {σ : St} {r k : Nat} {v : Int32} : up σ r k v r = upd (σ r) k v := by
  funext q; simp [up, upd]
theorem vv_ne {E : EV} {σ σ' μ μ' : St} {i : Nat} (h2 : i = 2 → σ' 20 = σ 20) (h4 : i = 4 → σ' 21 = σ 21) (h1 : ∀ t, t < 8 → i = 5 + t → σ' 17 t = σ 17 t ∧ σ' 18 t = σ 18 t ∧ σ' 19 t = σ 19 t) (h3 : ∀ j, j < 17 → i = 30 + j → σ' j = σ j) (hm : ∀ r, i = 47 + r → v4 E μ' r = v4 E μ r) : vv E σ' μ' i = vv E σ μ i := by
  by_cases h : i < 5
  · rw [vv0 h, vv0 h]
    match i, h with
    | 0, _ => rfl
    | 1, _ => rfl
    | 2, _ => simp only [v0, h2 rfl]
    | 3, _ => rfl
    | 4, _ => simp only [v0, h4 rfl]
  · by_cases hb : i < 13
    · obtain ⟨t, rfl⟩ : ∃ t, i = 5 + t := ⟨i - 5, by omega⟩
      have ht : t < 8 := by omega
      obtain ⟨a1, a2, a3⟩ := h1 t ht rfl
      rw [vv1 ht, vv1 ht, v1, v1, a1, a2, a3]
    · by_cases hc : i < 30
      · obtain ⟨t, rfl⟩ : ∃ t, i = 13 + t := ⟨i - 13, by omega⟩
        rw [vv2 (by omega), vv2 (by omega)]
      · by_cases hd : i < 47
        · obtain ⟨t, rfl⟩ : ∃ t, i = 30 + t := ⟨i - 30, by omega⟩
          rw [vv3 (by omega), vv3 (by omega), v3, v3, h3 t (by omega) rfl]
        · obtain ⟨t, rfl⟩ : ∃ t, i = 47 + t := ⟨i - 47, by omega⟩
          rw [vv4, vv4, hm t rfl]
theorem v4_ne {E : EV} {μ : St} {r k r' : Nat} {x : Int32} (h : r' ≠ r) : v4 E (up μ r k x) r' = v4 E μ r' := by
  match r', h with
  | 0, h => simp only [v4, up_row h]
  | 1, h => simp only [v4, up_row h]
  | 2, h => simp only [v4, up_row h]
  | 3, h => simp only [v4, up_row h]
  | 4, h => simp only [v4, up_row h]
  | 5, h => simp only [v4, up_row h]
  | 6, h => simp only [v4, up_row h]
  | 7, h => simp only [v4, up_row h]
  | _ + 8, _ => rfl
theorem vo_arr {E : EV} {σ μ : St} {j k : Nat} {x : Int32} (hj : j < 17) : ∀ i, i ≠ 30 + j → vv E (up σ j k x) μ i = vv E σ μ i := fun i hi =>
  vv_ne (fun _ => up_row (by omega)) (fun _ => up_row (by omega)) (fun t _ _ => ⟨by rw [up_row (by omega)], by rw [up_row (by omega)], by rw [up_row (by omega)]⟩) (fun j' _ e => up_row (by omega)) (fun _ _ => rfl)
theorem vo_till {E : EV} {σ μ : St} {r t : Nat} {x : Int32} (hr : r = 17 ∨ r = 18 ∨ r = 19) : ∀ i, i ≠ 5 + t → vv E (up σ r t x) μ i = vv E σ μ i := fun i hi =>
  vv_ne (fun _ => up_row (by omega)) (fun _ => up_row (by omega)) (fun t' _ e => by
    have hne : t' ≠ t := by omega
    rcases hr with rfl | rfl | rfl <;> simp [up, hne]) (fun j' _ e => up_row (by omega)) (fun _ _ => rfl)
theorem vo_holds {E : EV} {σ μ : St} {k : Nat} {x : Int32} : ∀ i, i ≠ 2 → vv E (up σ 20 k x) μ i = vv E σ μ i := fun i hi =>
  vv_ne (fun e => absurd e hi) (fun _ => up_row (by omega)) (fun t _ _ => ⟨by rw [up_row (by omega)], by rw [up_row (by omega)], by rw [up_row (by omega)]⟩) (fun j' _ e => up_row (by omega)) (fun _ _ => rfl)
theorem vo_places {E : EV} {σ μ : St} {k : Nat} {x : Int32} : ∀ i, i ≠ 4 → vv E (up σ 21 k x) μ i = vv E σ μ i := fun i hi =>
  vv_ne (fun _ => up_row (by omega)) (fun e => absurd e hi) (fun t _ _ => ⟨by rw [up_row (by omega)], by rw [up_row (by omega)], by rw [up_row (by omega)]⟩) (fun j' _ e => up_row (by omega)) (fun _ _ => rfl)
theorem vo_model {E : EV} {σ μ : St} {r k : Nat} {x : Int32} : ∀ i, i ≠ 47 + r → vv E σ (up μ r k x) i = vv E σ μ i := fun i hi =>
  vv_ne (fun _ => rfl) (fun _ => rfl) (fun _ _ _ => ⟨rfl, rfl, rfl⟩) (fun _ _ _ => rfl) (fun r' e => v4_ne (by omega))
theorem bz_upd {μ : St} {r k : Nat} {x : Int32} : upd (fun t => bz (μ r t)) k (vp_nar .boolean (bz x)) = fun t => bz (up μ r k x r t) := by
  funext q
  by_cases h : q = k
  · simp [upd, up, h, bz_vp]
  · simp [upd, up, h]
section XF
variable {p : Program} {l : Launch} {e : Env} {R : Room} {s : State} {m : MethodId} {args : Array Value} {below : List Frame} {meth : Method} {c : Code} {H : Heap} {locs : List Loc} {cells slots : Nat} {Q : State → Prop}
variable {cc : ByteArray} {pc : Nat} {ls : Array Slot} {rest : List Value} {E : EV} {own : String} {nL : Nat} {σ μ : St}
theorem g_X3_tills (F : Fx E p s m args c cc own nL) (hH : HS E s σ μ H locs) {idx : Nat} (hl : Cond.fieldLink own idx "TillHolds" "tills" "[LTillHolds$Till;" ∈ gtbl) (hdg : decode cc pc = .ok (.getfield idx, 3))
    (kk : W p l e R s m args below meth c H locs cells slots Q (F0 m (pc + 3) ls (.ref (ea E 1) :: rest))) : W p l e R s m args below meth c H locs cells slots Q (F0 m pc ls (.ref (ea E (0)) :: rest)) :=
  x_get F hH (0) (F.lt (by omega)) (vv0 (by decide)) rfl gX3 0 (by decide) hl rfl hdg kk
theorem g_X3_inHand (F : Fx E p s m args c cc own nL) (hH : HS E s σ μ H locs) {idx : Nat} (hl : Cond.fieldLink own idx "TillHolds" "inHand" "LTillHolds$Coins;" ∈ gtbl) (hdg : decode cc pc = .ok (.getfield idx, 3))
    (kk : W p l e R s m args below meth c H locs cells slots Q (F0 m (pc + 3) ls (.ref (ea E (13 + 8)) :: rest))) : W p l e R s m args below meth c H locs cells slots Q (F0 m pc ls (.ref (ea E (0)) :: rest)) :=
  x_get F hH (0) (F.lt (by omega)) (vv0 (by decide)) rfl gX3 1 (by decide) hl rfl hdg kk
theorem g_X3_holds (F : Fx E p s m args c cc own nL) (hH : HS E s σ μ H locs) {idx : Nat} (hl : Cond.fieldLink own idx "TillHolds" "holds" "LTillHolds$Holds;" ∈ gtbl) (hdg : decode cc pc = .ok (.getfield idx, 3))
    (kk : W p l e R s m args below meth c H locs cells slots Q (F0 m (pc + 3) ls (.ref (ea E 2) :: rest))) : W p l e R s m args below meth c H locs cells slots Q (F0 m pc ls (.ref (ea E (0)) :: rest)) :=
  x_get F hH (0) (F.lt (by omega)) (vv0 (by decide)) rfl gX3 2 (by decide) hl rfl hdg kk
theorem g_X3_picked (F : Fx E p s m args c cc own nL) (hH : HS E s σ μ H locs) {idx : Nat} (hl : Cond.fieldLink own idx "TillHolds" "picked" "LTillHolds$Coins;" ∈ gtbl) (hdg : decode cc pc = .ok (.getfield idx, 3))
    (kk : W p l e R s m args below meth c H locs cells slots Q (F0 m (pc + 3) ls (.ref (ea E (13 + 9)) :: rest))) : W p l e R s m args below meth c H locs cells slots Q (F0 m pc ls (.ref (ea E (0)) :: rest)) :=
  x_get F hH (0) (F.lt (by omega)) (vv0 (by decide)) rfl gX3 3 (by decide) hl rfl hdg kk
theorem g_X3_handBefore (F : Fx E p s m args c cc own nL) (hH : HS E s σ μ H locs) {idx : Nat} (hl : Cond.fieldLink own idx "TillHolds" "handBefore" "LTillHolds$Coins;" ∈ gtbl) (hdg : decode cc pc = .ok (.getfield idx, 3))
    (kk : W p l e R s m args below meth c H locs cells slots Q (F0 m (pc + 3) ls (.ref (ea E (13 + 10)) :: rest))) : W p l e R s m args below meth c H locs cells slots Q (F0 m pc ls (.ref (ea E (0)) :: rest)) :=
  x_get F hH (0) (F.lt (by omega)) (vv0 (by decide)) rfl gX3 4 (by decide) hl rfl hdg kk
theorem g_X3_coinsBefore (F : Fx E p s m args c cc own nL) (hH : HS E s σ μ H locs) {idx : Nat} (hl : Cond.fieldLink own idx "TillHolds" "coinsBefore" "[LTillHolds$Coins;" ∈ gtbl) (hdg : decode cc pc = .ok (.getfield idx, 3))
    (kk : W p l e R s m args below meth c H locs cells slots Q (F0 m (pc + 3) ls (.ref (ea E 3) :: rest))) : W p l e R s m args below meth c H locs cells slots Q (F0 m pc ls (.ref (ea E (0)) :: rest)) :=
  x_get F hH (0) (F.lt (by omega)) (vv0 (by decide)) rfl gX3 5 (by decide) hl rfl hdg kk
theorem g_X3_places (F : Fx E p s m args c cc own nL) (hH : HS E s σ μ H locs) {idx : Nat} (hl : Cond.fieldLink own idx "TillHolds" "places" "[I" ∈ gtbl) (hdg : decode cc pc = .ok (.getfield idx, 3))
    (kk : W p l e R s m args below meth c H locs cells slots Q (F0 m (pc + 3) ls (.ref (ea E 4) :: rest))) : W p l e R s m args below meth c H locs cells slots Q (F0 m pc ls (.ref (ea E (0)) :: rest)) :=
  x_get F hH (0) (F.lt (by omega)) (vv0 (by decide)) rfl gX3 6 (by decide) hl rfl hdg kk
theorem g_X0_of (F : Fx E p s m args c cc own nL) (hH : HS E s σ μ H locs) {j : Nat} (hj : j < 17) {idx : Nat} (hl : Cond.fieldLink own idx "TillHolds$Coins" "of" "[I" ∈ gtbl) (hdg : decode cc pc = .ok (.getfield idx, 3))
    (kk : W p l e R s m args below meth c H locs cells slots Q (F0 m (pc + 3) ls (.ref (ea E (30 + j)) :: rest))) : W p l e R s m args below meth c H locs cells slots Q (F0 m pc ls (.ref (ea E (13 + j)) :: rest)) :=
  x_get F hH (13 + j) (F.lt (by omega)) (vv2 hj) rfl gX0 0 (by decide) hl rfl hdg kk
theorem g_X2_coins (F : Fx E p s m args c cc own nL) (hH : HS E s σ μ H locs) {t : Nat} (ht : t < 8) {idx : Nat} (hl : Cond.fieldLink own idx "TillHolds$Till" "coins" "LTillHolds$Coins;" ∈ gtbl) (hdg : decode cc pc = .ok (.getfield idx, 3))
    (kk : W p l e R s m args below meth c H locs cells slots Q (F0 m (pc + 3) ls (.ref (ea E (13 + t)) :: rest))) : W p l e R s m args below meth c H locs cells slots Q (F0 m pc ls (.ref (ea E (5 + t)) :: rest)) :=
  x_get F hH (5 + t) (F.lt (by omega)) (vv1 ht) rfl gX2 0 (by decide) hl rfl hdg kk
theorem g_X2_isThere (F : Fx E p s m args c cc own nL) (hH : HS E s σ μ H locs) {t : Nat} (ht : t < 8) {idx : Nat} (hl : Cond.fieldLink own idx "TillHolds$Till" "isThere" "Z" ∈ gtbl) (hdg : decode cc pc = .ok (.getfield idx, 3))
    (kk : W p l e R s m args below meth c H locs cells slots Q (F0 m (pc + 3) ls (.int (bz (σ 17 t)) :: rest))) : W p l e R s m args below meth c H locs cells slots Q (F0 m pc ls (.ref (ea E (5 + t)) :: rest)) :=
  x_get F hH (5 + t) (F.lt (by omega)) (vv1 ht) rfl gX2 1 (by decide) hl rfl hdg kk
theorem g_X2_isShut (F : Fx E p s m args c cc own nL) (hH : HS E s σ μ H locs) {t : Nat} (ht : t < 8) {idx : Nat} (hl : Cond.fieldLink own idx "TillHolds$Till" "isShut" "Z" ∈ gtbl) (hdg : decode cc pc = .ok (.getfield idx, 3))
    (kk : W p l e R s m args below meth c H locs cells slots Q (F0 m (pc + 3) ls (.int (bz (σ 18 t)) :: rest))) : W p l e R s m args below meth c H locs cells slots Q (F0 m pc ls (.ref (ea E (5 + t)) :: rest)) :=
  x_get F hH (5 + t) (F.lt (by omega)) (vv1 ht) rfl gX2 2 (by decide) hl rfl hdg kk
theorem g_X2_limit (F : Fx E p s m args c cc own nL) (hH : HS E s σ μ H locs) {t : Nat} (ht : t < 8) {idx : Nat} (hl : Cond.fieldLink own idx "TillHolds$Till" "limit" "I" ∈ gtbl) (hdg : decode cc pc = .ok (.getfield idx, 3))
    (kk : W p l e R s m args below meth c H locs cells slots Q (F0 m (pc + 3) ls (.int (σ 19 t) :: rest))) : W p l e R s m args below meth c H locs cells slots Q (F0 m pc ls (.ref (ea E (5 + t)) :: rest)) :=
  x_get F hH (5 + t) (F.lt (by omega)) (vv1 ht) rfl gX2 3 (by decide) hl rfl hdg kk
theorem g_X1_begun (F : Fx E p s m args c cc own nL) (hH : HS E s σ μ H locs) {idx : Nat} (hl : Cond.fieldLink own idx "TillHolds$Holds" "begun" "I" ∈ gtbl) (hdg : decode cc pc = .ok (.getfield idx, 3))
    (kk : W p l e R s m args below meth c H locs cells slots Q (F0 m (pc + 3) ls (.int (σ 20 0) :: rest))) : W p l e R s m args below meth c H locs cells slots Q (F0 m pc ls (.ref (ea E (2)) :: rest)) :=
  x_get F hH (2) (F.lt (by omega)) (vv0 (by decide)) rfl gX1 0 (by decide) hl rfl hdg kk
theorem g_X1_left (F : Fx E p s m args c cc own nL) (hH : HS E s σ μ H locs) {idx : Nat} (hl : Cond.fieldLink own idx "TillHolds$Holds" "left" "I" ∈ gtbl) (hdg : decode cc pc = .ok (.getfield idx, 3))
    (kk : W p l e R s m args below meth c H locs cells slots Q (F0 m (pc + 3) ls (.int (σ 20 1) :: rest))) : W p l e R s m args below meth c H locs cells slots Q (F0 m pc ls (.ref (ea E (2)) :: rest)) :=
  x_get F hH (2) (F.lt (by omega)) (vv0 (by decide)) rfl gX1 1 (by decide) hl rfl hdg kk
theorem g_X1_depth (F : Fx E p s m args c cc own nL) (hH : HS E s σ μ H locs) {idx : Nat} (hl : Cond.fieldLink own idx "TillHolds$Holds" "depth" "I" ∈ gtbl) (hdg : decode cc pc = .ok (.getfield idx, 3))
    (kk : W p l e R s m args below meth c H locs cells slots Q (F0 m (pc + 3) ls (.int (σ 20 2) :: rest))) : W p l e R s m args below meth c H locs cells slots Q (F0 m pc ls (.ref (ea E (2)) :: rest)) :=
  x_get F hH (2) (F.lt (by omega)) (vv0 (by decide)) rfl gX1 2 (by decide) hl rfl hdg kk
theorem g_X1_deepest (F : Fx E p s m args c cc own nL) (hH : HS E s σ μ H locs) {idx : Nat} (hl : Cond.fieldLink own idx "TillHolds$Holds" "deepest" "I" ∈ gtbl) (hdg : decode cc pc = .ok (.getfield idx, 3))
    (kk : W p l e R s m args below meth c H locs cells slots Q (F0 m (pc + 3) ls (.int (σ 20 3) :: rest))) : W p l e R s m args below meth c H locs cells slots Q (F0 m pc ls (.ref (ea E (2)) :: rest)) :=
  x_get F hH (2) (F.lt (by omega)) (vv0 (by decide)) rfl gX1 3 (by decide) hl rfl hdg kk
theorem g_X4_thrown (F : Fx E p s m args c cc own nL) (hH : HS E s σ μ H locs) {idx : Nat} (hl : Cond.fieldLink own idx "TillHoldsModel" "thrown" "I" ∈ gtbl) (hdg : decode cc pc = .ok (.getfield idx, 3))
    (kk : W p l e R s m args below meth c H locs cells slots Q (F0 m (pc + 3) ls (.int (μ 0 0) :: rest))) : W p l e R s m args below meth c H locs cells slots Q (F0 m pc ls (.ref (ea E (47)) :: rest)) :=
  x_get F hH (47) (F.lt (by omega)) (vv4 0) rfl gX4 0 (by decide) hl rfl hdg kk
theorem g_X4_isThere (F : Fx E p s m args c cc own nL) (hH : HS E s σ μ H locs) {idx : Nat} (hl : Cond.fieldLink own idx "TillHoldsModel" "isThere" "[Z" ∈ gtbl) (hdg : decode cc pc = .ok (.getfield idx, 3))
    (kk : W p l e R s m args below meth c H locs cells slots Q (F0 m (pc + 3) ls (.ref (ea E (47 + 1)) :: rest))) : W p l e R s m args below meth c H locs cells slots Q (F0 m pc ls (.ref (ea E (47)) :: rest)) :=
  x_get F hH (47) (F.lt (by omega)) (vv4 0) rfl gX4 1 (by decide) hl rfl hdg kk
theorem g_X4_isShut (F : Fx E p s m args c cc own nL) (hH : HS E s σ μ H locs) {idx : Nat} (hl : Cond.fieldLink own idx "TillHoldsModel" "isShut" "[Z" ∈ gtbl) (hdg : decode cc pc = .ok (.getfield idx, 3))
    (kk : W p l e R s m args below meth c H locs cells slots Q (F0 m (pc + 3) ls (.ref (ea E (47 + 2)) :: rest))) : W p l e R s m args below meth c H locs cells slots Q (F0 m pc ls (.ref (ea E (47)) :: rest)) :=
  x_get F hH (47) (F.lt (by omega)) (vv4 0) rfl gX4 2 (by decide) hl rfl hdg kk
theorem g_X4_limit (F : Fx E p s m args c cc own nL) (hH : HS E s σ μ H locs) {idx : Nat} (hl : Cond.fieldLink own idx "TillHoldsModel" "limit" "[I" ∈ gtbl) (hdg : decode cc pc = .ok (.getfield idx, 3))
    (kk : W p l e R s m args below meth c H locs cells slots Q (F0 m (pc + 3) ls (.ref (ea E (47 + 3)) :: rest))) : W p l e R s m args below meth c H locs cells slots Q (F0 m pc ls (.ref (ea E (47)) :: rest)) :=
  x_get F hH (47) (F.lt (by omega)) (vv4 0) rfl gX4 3 (by decide) hl rfl hdg kk
theorem g_X4_coins (F : Fx E p s m args c cc own nL) (hH : HS E s σ μ H locs) {idx : Nat} (hl : Cond.fieldLink own idx "TillHoldsModel" "coins" "[I" ∈ gtbl) (hdg : decode cc pc = .ok (.getfield idx, 3))
    (kk : W p l e R s m args below meth c H locs cells slots Q (F0 m (pc + 3) ls (.ref (ea E (47 + 4)) :: rest))) : W p l e R s m args below meth c H locs cells slots Q (F0 m pc ls (.ref (ea E (47)) :: rest)) :=
  x_get F hH (47) (F.lt (by omega)) (vv4 0) rfl gX4 4 (by decide) hl rfl hdg kk
theorem g_X4_holds (F : Fx E p s m args c cc own nL) (hH : HS E s σ μ H locs) {idx : Nat} (hl : Cond.fieldLink own idx "TillHoldsModel" "holds" "I" ∈ gtbl) (hdg : decode cc pc = .ok (.getfield idx, 3))
    (kk : W p l e R s m args below meth c H locs cells slots Q (F0 m (pc + 3) ls (.int (μ 0 1) :: rest))) : W p l e R s m args below meth c H locs cells slots Q (F0 m pc ls (.ref (ea E (47)) :: rest)) :=
  x_get F hH (47) (F.lt (by omega)) (vv4 0) rfl gX4 5 (by decide) hl rfl hdg kk
theorem g_X4_left (F : Fx E p s m args c cc own nL) (hH : HS E s σ μ H locs) {idx : Nat} (hl : Cond.fieldLink own idx "TillHoldsModel" "left" "I" ∈ gtbl) (hdg : decode cc pc = .ok (.getfield idx, 3))
    (kk : W p l e R s m args below meth c H locs cells slots Q (F0 m (pc + 3) ls (.int (μ 0 2) :: rest))) : W p l e R s m args below meth c H locs cells slots Q (F0 m pc ls (.ref (ea E (47)) :: rest)) :=
  x_get F hH (47) (F.lt (by omega)) (vv4 0) rfl gX4 6 (by decide) hl rfl hdg kk
theorem g_X4_depth (F : Fx E p s m args c cc own nL) (hH : HS E s σ μ H locs) {idx : Nat} (hl : Cond.fieldLink own idx "TillHoldsModel" "depth" "I" ∈ gtbl) (hdg : decode cc pc = .ok (.getfield idx, 3))
    (kk : W p l e R s m args below meth c H locs cells slots Q (F0 m (pc + 3) ls (.int (μ 0 3) :: rest))) : W p l e R s m args below meth c H locs cells slots Q (F0 m pc ls (.ref (ea E (47)) :: rest)) :=
  x_get F hH (47) (F.lt (by omega)) (vv4 0) rfl gX4 7 (by decide) hl rfl hdg kk
theorem g_X4_deepest (F : Fx E p s m args c cc own nL) (hH : HS E s σ μ H locs) {idx : Nat} (hl : Cond.fieldLink own idx "TillHoldsModel" "deepest" "I" ∈ gtbl) (hdg : decode cc pc = .ok (.getfield idx, 3))
    (kk : W p l e R s m args below meth c H locs cells slots Q (F0 m (pc + 3) ls (.int (μ 0 4) :: rest))) : W p l e R s m args below meth c H locs cells slots Q (F0 m pc ls (.ref (ea E (47)) :: rest)) :=
  x_get F hH (47) (F.lt (by omega)) (vv4 0) rfl gX4 8 (by decide) hl rfl hdg kk
theorem g_X4_paid (F : Fx E p s m args c cc own nL) (hH : HS E s σ μ H locs) {idx : Nat} (hl : Cond.fieldLink own idx "TillHoldsModel" "paid" "[I" ∈ gtbl) (hdg : decode cc pc = .ok (.getfield idx, 3))
    (kk : W p l e R s m args below meth c H locs cells slots Q (F0 m (pc + 3) ls (.ref (ea E (47 + 5)) :: rest))) : W p l e R s m args below meth c H locs cells slots Q (F0 m pc ls (.ref (ea E (47)) :: rest)) :=
  x_get F hH (47) (F.lt (by omega)) (vv4 0) rfl gX4 9 (by decide) hl rfl hdg kk
theorem g_X4_kept (F : Fx E p s m args c cc own nL) (hH : HS E s σ μ H locs) {idx : Nat} (hl : Cond.fieldLink own idx "TillHoldsModel" "kept" "[I" ∈ gtbl) (hdg : decode cc pc = .ok (.getfield idx, 3))
    (kk : W p l e R s m args below meth c H locs cells slots Q (F0 m (pc + 3) ls (.ref (ea E (47 + 6)) :: rest))) : W p l e R s m args below meth c H locs cells slots Q (F0 m pc ls (.ref (ea E (47)) :: rest)) :=
  x_get F hH (47) (F.lt (by omega)) (vv4 0) rfl gX4 10 (by decide) hl rfl hdg kk
theorem p_X2_isThere (F : Fx E p s m args c cc own nL) (hH : HS E s σ μ H locs) {t : Nat} (ht : t < 8) {idx : Nat} {x : Int32} (hl : Cond.fieldLink own idx "TillHolds$Till" "isThere" "Z" ∈ gtbl) (hdg : decode cc pc = .ok (.putfield idx, 3))
    (kk : ∀ (H1 : Heap) (locs1 : List Loc), HS E s (up σ 17 t x) μ H1 locs1 → W p l e R s m args below meth c H1 locs1 cells slots Q (F0 m (pc + 3) ls rest)) : W p l e R s m args below meth c H locs cells slots Q (F0 m pc ls (.int (bz x) :: .ref (ea E (5 + t)) :: rest)) :=
  x_put F hH (up σ 17 t x) μ (5 + t) (F.lt (by omega)) (vv1 ht) rfl gX2 tyX2 tyX2_ok nmX2 1 (by decide) hl rfl (ty := .boolean) (by decide +kernel) (bz_nar x) (bz_fit x) (Nat.le_of_ble_eq_true rfl) hdg
    (by rw [vv1 ht]; simp [v1, up]) (vo_till (by omega)) kk
theorem p_X2_isShut (F : Fx E p s m args c cc own nL) (hH : HS E s σ μ H locs) {t : Nat} (ht : t < 8) {idx : Nat} {x : Int32} (hl : Cond.fieldLink own idx "TillHolds$Till" "isShut" "Z" ∈ gtbl) (hdg : decode cc pc = .ok (.putfield idx, 3))
    (kk : ∀ (H1 : Heap) (locs1 : List Loc), HS E s (up σ 18 t x) μ H1 locs1 → W p l e R s m args below meth c H1 locs1 cells slots Q (F0 m (pc + 3) ls rest)) : W p l e R s m args below meth c H locs cells slots Q (F0 m pc ls (.int (bz x) :: .ref (ea E (5 + t)) :: rest)) :=
  x_put F hH (up σ 18 t x) μ (5 + t) (F.lt (by omega)) (vv1 ht) rfl gX2 tyX2 tyX2_ok nmX2 2 (by decide) hl rfl (ty := .boolean) (by decide +kernel) (bz_nar x) (bz_fit x) (Nat.le_of_ble_eq_true rfl) hdg
    (by rw [vv1 ht]; simp [v1, up]) (vo_till (by omega)) kk
theorem p_X2_limit (F : Fx E p s m args c cc own nL) (hH : HS E s σ μ H locs) {t : Nat} (ht : t < 8) {idx : Nat} {x : Int32} (hl : Cond.fieldLink own idx "TillHolds$Till" "limit" "I" ∈ gtbl) (hdg : decode cc pc = .ok (.putfield idx, 3))
    (kk : ∀ (H1 : Heap) (locs1 : List Loc), HS E s (up σ 19 t x) μ H1 locs1 → W p l e R s m args below meth c H1 locs1 cells slots Q (F0 m (pc + 3) ls rest)) : W p l e R s m args below meth c H locs cells slots Q (F0 m pc ls (.int x :: .ref (ea E (5 + t)) :: rest)) :=
  x_put F hH (up σ 19 t x) μ (5 + t) (F.lt (by omega)) (vv1 ht) rfl gX2 tyX2 tyX2_ok nmX2 3 (by decide) hl rfl (ty := .int) (by decide +kernel) rfl rfl (Nat.le_of_ble_eq_true rfl) hdg
    (by rw [vv1 ht]; simp [v1, up]) (vo_till (by omega)) kk
theorem p_X1_begun (F : Fx E p s m args c cc own nL) (hH : HS E s σ μ H locs) {idx : Nat} {x : Int32} (hl : Cond.fieldLink own idx "TillHolds$Holds" "begun" "I" ∈ gtbl) (hdg : decode cc pc = .ok (.putfield idx, 3))
    (kk : ∀ (H1 : Heap) (locs1 : List Loc), HS E s (up σ 20 0 x) μ H1 locs1 → W p l e R s m args below meth c H1 locs1 cells slots Q (F0 m (pc + 3) ls rest)) : W p l e R s m args below meth c H locs cells slots Q (F0 m pc ls (.int x :: .ref (ea E (2)) :: rest)) :=
  x_put F hH (up σ 20 0 x) μ (2) (F.lt (by omega)) (vv0 (by decide)) rfl gX1 tyX1 tyX1_ok nmX1 0 (by decide) hl rfl (ty := .int) (by decide +kernel) rfl rfl (Nat.le_of_ble_eq_true rfl) hdg
    (by rw [vv0 (by decide)]; simp [v0, up]) vo_holds kk
theorem p_X1_left (F : Fx E p s m args c cc own nL) (hH : HS E s σ μ H locs) {idx : Nat} {x : Int32} (hl : Cond.fieldLink own idx "TillHolds$Holds" "left" "I" ∈ gtbl) (hdg : decode cc pc = .ok (.putfield idx, 3))
    (kk : ∀ (H1 : Heap) (locs1 : List Loc), HS E s (up σ 20 1 x) μ H1 locs1 → W p l e R s m args below meth c H1 locs1 cells slots Q (F0 m (pc + 3) ls rest)) : W p l e R s m args below meth c H locs cells slots Q (F0 m pc ls (.int x :: .ref (ea E (2)) :: rest)) :=
  x_put F hH (up σ 20 1 x) μ (2) (F.lt (by omega)) (vv0 (by decide)) rfl gX1 tyX1 tyX1_ok nmX1 1 (by decide) hl rfl (ty := .int) (by decide +kernel) rfl rfl (Nat.le_of_ble_eq_true rfl) hdg
    (by rw [vv0 (by decide)]; simp [v0, up]) vo_holds kk
theorem p_X1_depth (F : Fx E p s m args c cc own nL) (hH : HS E s σ μ H locs) {idx : Nat} {x : Int32} (hl : Cond.fieldLink own idx "TillHolds$Holds" "depth" "I" ∈ gtbl) (hdg : decode cc pc = .ok (.putfield idx, 3))
    (kk : ∀ (H1 : Heap) (locs1 : List Loc), HS E s (up σ 20 2 x) μ H1 locs1 → W p l e R s m args below meth c H1 locs1 cells slots Q (F0 m (pc + 3) ls rest)) : W p l e R s m args below meth c H locs cells slots Q (F0 m pc ls (.int x :: .ref (ea E (2)) :: rest)) :=
  x_put F hH (up σ 20 2 x) μ (2) (F.lt (by omega)) (vv0 (by decide)) rfl gX1 tyX1 tyX1_ok nmX1 2 (by decide) hl rfl (ty := .int) (by decide +kernel) rfl rfl (Nat.le_of_ble_eq_true rfl) hdg
    (by rw [vv0 (by decide)]; simp [v0, up]) vo_holds kk
theorem p_X1_deepest (F : Fx E p s m args c cc own nL) (hH : HS E s σ μ H locs) {idx : Nat} {x : Int32} (hl : Cond.fieldLink own idx "TillHolds$Holds" "deepest" "I" ∈ gtbl) (hdg : decode cc pc = .ok (.putfield idx, 3))
    (kk : ∀ (H1 : Heap) (locs1 : List Loc), HS E s (up σ 20 3 x) μ H1 locs1 → W p l e R s m args below meth c H1 locs1 cells slots Q (F0 m (pc + 3) ls rest)) : W p l e R s m args below meth c H locs cells slots Q (F0 m pc ls (.int x :: .ref (ea E (2)) :: rest)) :=
  x_put F hH (up σ 20 3 x) μ (2) (F.lt (by omega)) (vv0 (by decide)) rfl gX1 tyX1 tyX1_ok nmX1 3 (by decide) hl rfl (ty := .int) (by decide +kernel) rfl rfl (Nat.le_of_ble_eq_true rfl) hdg
    (by rw [vv0 (by decide)]; simp [v0, up]) vo_holds kk
theorem p_X4_thrown (F : Fx E p s m args c cc own nL) (hH : HS E s σ μ H locs) {idx : Nat} {x : Int32} (hl : Cond.fieldLink own idx "TillHoldsModel" "thrown" "I" ∈ gtbl) (hdg : decode cc pc = .ok (.putfield idx, 3))
    (kk : ∀ (H1 : Heap) (locs1 : List Loc), HS E s σ (up μ 0 0 x) H1 locs1 → W p l e R s m args below meth c H1 locs1 cells slots Q (F0 m (pc + 3) ls rest)) : W p l e R s m args below meth c H locs cells slots Q (F0 m pc ls (.int x :: .ref (ea E (47)) :: rest)) :=
  x_put F hH σ (up μ 0 0 x) (47) (F.lt (by omega)) (vv4 0) rfl gX4 tyX4 tyX4_ok nmX4 0 (by decide) hl rfl (ty := .int) (by decide +kernel) rfl rfl (Nat.le_of_ble_eq_true rfl) hdg
    (by rw [vv4 0]; simp [v4, up]) (fun i hi => vo_model (r := 0) i hi) kk
theorem p_X4_holds (F : Fx E p s m args c cc own nL) (hH : HS E s σ μ H locs) {idx : Nat} {x : Int32} (hl : Cond.fieldLink own idx "TillHoldsModel" "holds" "I" ∈ gtbl) (hdg : decode cc pc = .ok (.putfield idx, 3))
    (kk : ∀ (H1 : Heap) (locs1 : List Loc), HS E s σ (up μ 0 1 x) H1 locs1 → W p l e R s m args below meth c H1 locs1 cells slots Q (F0 m (pc + 3) ls rest)) : W p l e R s m args below meth c H locs cells slots Q (F0 m pc ls (.int x :: .ref (ea E (47)) :: rest)) :=
  x_put F hH σ (up μ 0 1 x) (47) (F.lt (by omega)) (vv4 0) rfl gX4 tyX4 tyX4_ok nmX4 5 (by decide) hl rfl (ty := .int) (by decide +kernel) rfl rfl (Nat.le_of_ble_eq_true rfl) hdg
    (by rw [vv4 0]; simp [v4, up]) (fun i hi => vo_model (r := 0) i hi) kk
theorem p_X4_left (F : Fx E p s m args c cc own nL) (hH : HS E s σ μ H locs) {idx : Nat} {x : Int32} (hl : Cond.fieldLink own idx "TillHoldsModel" "left" "I" ∈ gtbl) (hdg : decode cc pc = .ok (.putfield idx, 3))
    (kk : ∀ (H1 : Heap) (locs1 : List Loc), HS E s σ (up μ 0 2 x) H1 locs1 → W p l e R s m args below meth c H1 locs1 cells slots Q (F0 m (pc + 3) ls rest)) : W p l e R s m args below meth c H locs cells slots Q (F0 m pc ls (.int x :: .ref (ea E (47)) :: rest)) :=
  x_put F hH σ (up μ 0 2 x) (47) (F.lt (by omega)) (vv4 0) rfl gX4 tyX4 tyX4_ok nmX4 6 (by decide) hl rfl (ty := .int) (by decide +kernel) rfl rfl (Nat.le_of_ble_eq_true rfl) hdg
    (by rw [vv4 0]; simp [v4, up]) (fun i hi => vo_model (r := 0) i hi) kk
theorem p_X4_depth (F : Fx E p s m args c cc own nL) (hH : HS E s σ μ H locs) {idx : Nat} {x : Int32} (hl : Cond.fieldLink own idx "TillHoldsModel" "depth" "I" ∈ gtbl) (hdg : decode cc pc = .ok (.putfield idx, 3))
    (kk : ∀ (H1 : Heap) (locs1 : List Loc), HS E s σ (up μ 0 3 x) H1 locs1 → W p l e R s m args below meth c H1 locs1 cells slots Q (F0 m (pc + 3) ls rest)) : W p l e R s m args below meth c H locs cells slots Q (F0 m pc ls (.int x :: .ref (ea E (47)) :: rest)) :=
  x_put F hH σ (up μ 0 3 x) (47) (F.lt (by omega)) (vv4 0) rfl gX4 tyX4 tyX4_ok nmX4 7 (by decide) hl rfl (ty := .int) (by decide +kernel) rfl rfl (Nat.le_of_ble_eq_true rfl) hdg
    (by rw [vv4 0]; simp [v4, up]) (fun i hi => vo_model (r := 0) i hi) kk
theorem p_X4_deepest (F : Fx E p s m args c cc own nL) (hH : HS E s σ μ H locs) {idx : Nat} {x : Int32} (hl : Cond.fieldLink own idx "TillHoldsModel" "deepest" "I" ∈ gtbl) (hdg : decode cc pc = .ok (.putfield idx, 3))
    (kk : ∀ (H1 : Heap) (locs1 : List Loc), HS E s σ (up μ 0 4 x) H1 locs1 → W p l e R s m args below meth c H1 locs1 cells slots Q (F0 m (pc + 3) ls rest)) : W p l e R s m args below meth c H locs cells slots Q (F0 m pc ls (.int x :: .ref (ea E (47)) :: rest)) :=
  x_put F hH σ (up μ 0 4 x) (47) (F.lt (by omega)) (vv4 0) rfl gX4 tyX4 tyX4_ok nmX4 8 (by decide) hl rfl (ty := .int) (by decide +kernel) rfl rfl (Nat.le_of_ble_eq_true rfl) hdg
    (by rw [vv4 0]; simp [v4, up]) (fun i hi => vo_model (r := 0) i hi) kk
theorem a_tills (F : Fx E p s m args c cc own nL) (hH : HS E s σ μ H locs) (t : Nat) (ht : t < 8) (hdg : decode cc pc = .ok (.aaload, 1))
    (kk : W p l e R s m args below meth c H locs cells slots Q (F0 m (pc + 1) ls (.ref (ea E (5 + t)) :: rest))) : W p l e R s m args below meth c H locs cells slots Q (F0 m pc ls (.int (nI t) :: .ref (ea E 1) :: rest)) :=
  x_ald F hH 1 2 (F.lt (by omega)) (vv0 (by decide)) rfl t (if_pos ht) ht (by decide) hdg kk
theorem a_cb (F : Fx E p s m args c cc own nL) (hH : HS E s σ μ H locs) (t : Nat) (ht : t < 6) (hdg : decode cc pc = .ok (.aaload, 1))
    (kk : W p l e R s m args below meth c H locs cells slots Q (F0 m (pc + 1) ls (.ref (ea E (13 + (11 + t))) :: rest))) : W p l e R s m args below meth c H locs cells slots Q (F0 m pc ls (.int (nI t) :: .ref (ea E 3) :: rest)) :=
  x_ald F hH 3 3 (F.lt (by omega)) (vv0 (by decide)) rfl t ((if_pos ht).trans (show some (ea E (24 + t)) = some (ea E (13 + (11 + t))) by rw [show 13 + (11 + t) = 24 + t by omega])) ht (by decide) hdg kk
theorem a_of (F : Fx E p s m args c cc own nL) (hH : HS E s σ μ H locs) {j : Nat} (hj : j < 17) (k : Nat) (hk : k < 5) (hdg : decode cc pc = .ok (.iaload, 1))
    (kk : W p l e R s m args below meth c H locs cells slots Q (F0 m (pc + 1) ls (.int (σ j k) :: rest))) : W p l e R s m args below meth c H locs cells slots Q (F0 m pc ls (.int (nI k) :: .ref (ea E (30 + j)) :: rest)) :=
  x_ild F hH (30 + j) (F.lt (by omega)) (vv3 hj) k hk (by decide) hdg kk
theorem s_of (F : Fx E p s m args c cc own nL) (hH : HS E s σ μ H locs) {j : Nat} (hj : j < 17) (k : Nat) (hk : k < 5) {x : Int32} (hdg : decode cc pc = .ok (.iastore, 1))
    (kk : ∀ (H1 : Heap) (locs1 : List Loc), HS E s (up σ j k x) μ H1 locs1 → W p l e R s m args below meth c H1 locs1 cells slots Q (F0 m (pc + 1) ls rest)) : W p l e R s m args below meth c H locs cells slots Q (F0 m pc ls (.int x :: .int (nI k) :: .ref (ea E (30 + j)) :: rest)) :=
  x_ist F hH (up σ j k x) μ (30 + j) (F.lt (by omega)) (vv3 hj) k hk (by decide) hdg (by rw [vv3 hj, v3, up_upd]) (vo_arr hj) kk
theorem a_places (F : Fx E p s m args c cc own nL) (hH : HS E s σ μ H locs) (k : Nat) (hk : k < 6) (hdg : decode cc pc = .ok (.iaload, 1))
    (kk : W p l e R s m args below meth c H locs cells slots Q (F0 m (pc + 1) ls (.int (σ 21 k) :: rest))) : W p l e R s m args below meth c H locs cells slots Q (F0 m pc ls (.int (nI k) :: .ref (ea E 4) :: rest)) :=
  x_ild F hH 4 (F.lt (by omega)) (vv0 (by decide)) k hk (by decide) hdg kk
theorem s_places (F : Fx E p s m args c cc own nL) (hH : HS E s σ μ H locs) (k : Nat) (hk : k < 6) {x : Int32} (hdg : decode cc pc = .ok (.iastore, 1))
    (kk : ∀ (H1 : Heap) (locs1 : List Loc), HS E s (up σ 21 k x) μ H1 locs1 → W p l e R s m args below meth c H1 locs1 cells slots Q (F0 m (pc + 1) ls rest)) : W p l e R s m args below meth c H locs cells slots Q (F0 m pc ls (.int x :: .int (nI k) :: .ref (ea E 4) :: rest)) :=
  x_ist F hH (up σ 21 k x) μ 4 (F.lt (by omega)) (vv0 (by decide)) k hk (by decide) hdg (by rw [vv0 (by decide)]; simp only [v0, up_upd]) vo_places kk
theorem a_mli (F : Fx E p s m args c cc own nL) (hH : HS E s σ μ H locs) (k : Nat) (hk : k < 8) (hdg : decode cc pc = .ok (.iaload, 1))
    (kk : W p l e R s m args below meth c H locs cells slots Q (F0 m (pc + 1) ls (.int (μ 3 k) :: rest))) : W p l e R s m args below meth c H locs cells slots Q (F0 m pc ls (.int (nI k) :: .ref (ea E (47 + 3)) :: rest)) :=
  x_ild F hH (47 + 3) (F.lt (by omega)) (vv4 3) k hk (by decide) hdg kk
theorem s_mli (F : Fx E p s m args c cc own nL) (hH : HS E s σ μ H locs) (k : Nat) (hk : k < 8) {x : Int32} (hdg : decode cc pc = .ok (.iastore, 1))
    (kk : ∀ (H1 : Heap) (locs1 : List Loc), HS E s σ (up μ 3 k x) H1 locs1 → W p l e R s m args below meth c H1 locs1 cells slots Q (F0 m (pc + 1) ls rest)) : W p l e R s m args below meth c H locs cells slots Q (F0 m pc ls (.int x :: .int (nI k) :: .ref (ea E (47 + 3)) :: rest)) :=
  x_ist F hH σ (up μ 3 k x) (47 + 3) (F.lt (by omega)) (vv4 3) k hk (by decide) hdg (by rw [vv4]; simp only [v4, up_upd]) vo_model kk
theorem a_mco (F : Fx E p s m args c cc own nL) (hH : HS E s σ μ H locs) (k : Nat) (hk : k < 45) (hdg : decode cc pc = .ok (.iaload, 1))
    (kk : W p l e R s m args below meth c H locs cells slots Q (F0 m (pc + 1) ls (.int (μ 4 k) :: rest))) : W p l e R s m args below meth c H locs cells slots Q (F0 m pc ls (.int (nI k) :: .ref (ea E (47 + 4)) :: rest)) :=
  x_ild F hH (47 + 4) (F.lt (by omega)) (vv4 4) k hk (by decide) hdg kk
theorem s_mco (F : Fx E p s m args c cc own nL) (hH : HS E s σ μ H locs) (k : Nat) (hk : k < 45) {x : Int32} (hdg : decode cc pc = .ok (.iastore, 1))
    (kk : ∀ (H1 : Heap) (locs1 : List Loc), HS E s σ (up μ 4 k x) H1 locs1 → W p l e R s m args below meth c H1 locs1 cells slots Q (F0 m (pc + 1) ls rest)) : W p l e R s m args below meth c H locs cells slots Q (F0 m pc ls (.int x :: .int (nI k) :: .ref (ea E (47 + 4)) :: rest)) :=
  x_ist F hH σ (up μ 4 k x) (47 + 4) (F.lt (by omega)) (vv4 4) k hk (by decide) hdg (by rw [vv4]; simp only [v4, up_upd]) vo_model kk
theorem a_mpa (F : Fx E p s m args c cc own nL) (hH : HS E s σ μ H locs) (k : Nat) (hk : k < 5) (hdg : decode cc pc = .ok (.iaload, 1))
    (kk : W p l e R s m args below meth c H locs cells slots Q (F0 m (pc + 1) ls (.int (μ 5 k) :: rest))) : W p l e R s m args below meth c H locs cells slots Q (F0 m pc ls (.int (nI k) :: .ref (ea E (47 + 5)) :: rest)) :=
  x_ild F hH (47 + 5) (F.lt (by omega)) (vv4 5) k hk (by decide) hdg kk
theorem s_mpa (F : Fx E p s m args c cc own nL) (hH : HS E s σ μ H locs) (k : Nat) (hk : k < 5) {x : Int32} (hdg : decode cc pc = .ok (.iastore, 1))
    (kk : ∀ (H1 : Heap) (locs1 : List Loc), HS E s σ (up μ 5 k x) H1 locs1 → W p l e R s m args below meth c H1 locs1 cells slots Q (F0 m (pc + 1) ls rest)) : W p l e R s m args below meth c H locs cells slots Q (F0 m pc ls (.int x :: .int (nI k) :: .ref (ea E (47 + 5)) :: rest)) :=
  x_ist F hH σ (up μ 5 k x) (47 + 5) (F.lt (by omega)) (vv4 5) k hk (by decide) hdg (by rw [vv4]; simp only [v4, up_upd]) vo_model kk
theorem a_mke (F : Fx E p s m args c cc own nL) (hH : HS E s σ μ H locs) (k : Nat) (hk : k < 35) (hdg : decode cc pc = .ok (.iaload, 1))
    (kk : W p l e R s m args below meth c H locs cells slots Q (F0 m (pc + 1) ls (.int (μ 6 k) :: rest))) : W p l e R s m args below meth c H locs cells slots Q (F0 m pc ls (.int (nI k) :: .ref (ea E (47 + 6)) :: rest)) :=
  x_ild F hH (47 + 6) (F.lt (by omega)) (vv4 6) k hk (by decide) hdg kk
theorem s_mke (F : Fx E p s m args c cc own nL) (hH : HS E s σ μ H locs) (k : Nat) (hk : k < 35) {x : Int32} (hdg : decode cc pc = .ok (.iastore, 1))
    (kk : ∀ (H1 : Heap) (locs1 : List Loc), HS E s σ (up μ 6 k x) H1 locs1 → W p l e R s m args below meth c H1 locs1 cells slots Q (F0 m (pc + 1) ls rest)) : W p l e R s m args below meth c H locs cells slots Q (F0 m pc ls (.int x :: .int (nI k) :: .ref (ea E (47 + 6)) :: rest)) :=
  x_ist F hH σ (up μ 6 k x) (47 + 6) (F.lt (by omega)) (vv4 6) k hk (by decide) hdg (by rw [vv4]; simp only [v4, up_upd]) vo_model kk
theorem a_mtm (F : Fx E p s m args c cc own nL) (hH : HS E s σ μ H locs) (h55 : 54 < en E) (k : Nat) (hk : k < 5) (hdg : decode cc pc = .ok (.iaload, 1))
    (kk : W p l e R s m args below meth c H locs cells slots Q (F0 m (pc + 1) ls (.int (μ 7 k) :: rest))) : W p l e R s m args below meth c H locs cells slots Q (F0 m pc ls (.int (nI k) :: .ref (ea E (47 + 7)) :: rest)) :=
  x_ild F hH (47 + 7) h55 (vv4 7) k hk (by decide) hdg kk
theorem s_mtm (F : Fx E p s m args c cc own nL) (hH : HS E s σ μ H locs) (h55 : 54 < en E) (k : Nat) (hk : k < 5) {x : Int32} (hdg : decode cc pc = .ok (.iastore, 1))
    (kk : ∀ (H1 : Heap) (locs1 : List Loc), HS E s σ (up μ 7 k x) H1 locs1 → W p l e R s m args below meth c H1 locs1 cells slots Q (F0 m (pc + 1) ls rest)) : W p l e R s m args below meth c H locs cells slots Q (F0 m pc ls (.int x :: .int (nI k) :: .ref (ea E (47 + 7)) :: rest)) :=
  x_ist F hH σ (up μ 7 k x) (47 + 7) h55 (vv4 7) k hk (by decide) hdg (by rw [vv4]; simp only [v4, up_upd]) vo_model kk
theorem a_mth (F : Fx E p s m args c cc own nL) (hH : HS E s σ μ H locs) (k : Nat) (hk : k < 8) (hdg : decode cc pc = .ok (.baload, 1))
    (kk : W p l e R s m args below meth c H locs cells slots Q (F0 m (pc + 1) ls (.int (bz (μ 1 k)) :: rest))) : W p l e R s m args below meth c H locs cells slots Q (F0 m pc ls (.int (nI k) :: .ref (ea E (47 + 1)) :: rest)) :=
  x_zld F hH (47 + 1) (F.lt (by omega)) (vv4 1) k hk (by decide) hdg kk
theorem s_mth (F : Fx E p s m args c cc own nL) (hH : HS E s σ μ H locs) (k : Nat) (hk : k < 8) {x : Int32} (hdg : decode cc pc = .ok (.bastore, 1))
    (kk : ∀ (H1 : Heap) (locs1 : List Loc), HS E s σ (up μ 1 k x) H1 locs1 → W p l e R s m args below meth c H1 locs1 cells slots Q (F0 m (pc + 1) ls rest)) : W p l e R s m args below meth c H locs cells slots Q (F0 m pc ls (.int (bz x) :: .int (nI k) :: .ref (ea E (47 + 1)) :: rest)) :=
  x_zst F hH σ (up μ 1 k x) (47 + 1) (F.lt (by omega)) (vv4 1) k hk (by decide) hdg (by rw [vv4, bz_upd]; rfl) vo_model kk
theorem a_msh (F : Fx E p s m args c cc own nL) (hH : HS E s σ μ H locs) (k : Nat) (hk : k < 8) (hdg : decode cc pc = .ok (.baload, 1))
    (kk : W p l e R s m args below meth c H locs cells slots Q (F0 m (pc + 1) ls (.int (bz (μ 2 k)) :: rest))) : W p l e R s m args below meth c H locs cells slots Q (F0 m pc ls (.int (nI k) :: .ref (ea E (47 + 2)) :: rest)) :=
  x_zld F hH (47 + 2) (F.lt (by omega)) (vv4 2) k hk (by decide) hdg kk
theorem s_msh (F : Fx E p s m args c cc own nL) (hH : HS E s σ μ H locs) (k : Nat) (hk : k < 8) {x : Int32} (hdg : decode cc pc = .ok (.bastore, 1))
    (kk : ∀ (H1 : Heap) (locs1 : List Loc), HS E s σ (up μ 2 k x) H1 locs1 → W p l e R s m args below meth c H1 locs1 cells slots Q (F0 m (pc + 1) ls rest)) : W p l e R s m args below meth c H locs cells slots Q (F0 m pc ls (.int (bz x) :: .int (nI k) :: .ref (ea E (47 + 2)) :: rest)) :=
  x_zst F hH σ (up μ 2 k x) (47 + 2) (F.lt (by omega)) (vv4 2) k hk (by decide) hdg (by rw [vv4, bz_upd]; rfl) vo_model kk
theorem a_mA (F : Fx E p s m args c cc own nL) (hH : HS E s σ μ H locs) {w : Nat} (hw : w = 5 ∨ (w = 7 ∧ 54 < en E)) (k : Nat) (hk : k < 5) (hdg : decode cc pc = .ok (.iaload, 1))
    (kk : W p l e R s m args below meth c H locs cells slots Q (F0 m (pc + 1) ls (.int (μ w k) :: rest))) : W p l e R s m args below meth c H locs cells slots Q (F0 m pc ls (.int (nI k) :: .ref (ea E (47 + w)) :: rest)) := by
  rcases hw with rfl | ⟨rfl, h55⟩
  · exact a_mpa F hH k hk hdg kk
  · exact a_mtm F hH h55 k hk hdg kk
end XF
