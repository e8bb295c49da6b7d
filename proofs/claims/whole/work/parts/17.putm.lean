def ext (E : EV) (q : Nat) : EV := (eD E, (fun i => if i = 54 then q else ea E i), ek E, 55, eA E, ez E)
def z7 (μ : St) : St := fun r k => if r = 7 then 0 else μ r k
theorem ext_a {E : EV} {q i : Nat} (h : i ≠ 54) : ea (ext E q) i = ea E i := if_neg h
theorem ext_54 {E : EV} {q : Nat} : ea (ext E q) 54 = q := rfl
theorem ext_v4 {E : EV} {q : Nat} {μ : St} {i : Nat} : v4 (ext E q) μ i = v4 E μ i := by
  match i with
  | 0 => rfl
  | 1 => rfl
  | 2 => rfl
  | 3 => rfl
  | 4 => rfl
  | 5 => rfl
  | 6 => rfl
  | 7 => rfl
  | _ + 8 => rfl
theorem ext_v0 {E : EV} {q : Nat} {σ : St} {i : Nat} (h : i < 5) : v0 (ext E q) σ i = v0 E σ i := by
  match i, h with
  | 0, _ => rfl
  | 1, _ =>
    show (Sum.inl (ek E 2, 8, .inr (.inr (.inr (.inr (fun t => if t < 8 then some (ea (ext E q) (5 + t)) else none))))) : va_E) = Sum.inl (ek E 2, 8, .inr (.inr (.inr (.inr (fun t => if t < 8 then some (ea E (5 + t)) else none)))))
    have : (fun t => if t < 8 then some (ea (ext E q) (5 + t)) else none) = (fun t => if t < 8 then some (ea E (5 + t)) else none) := by
      funext t
      by_cases ht : t < 8
      · rw [if_pos ht, if_pos ht, ext_a (by omega)]
      · rw [if_neg ht, if_neg ht]
    rw [this]
  | 2, _ => rfl
  | 3, _ =>
    show (Sum.inl (ek E 3, 6, .inr (.inr (.inr (.inr (fun t => if t < 6 then some (ea (ext E q) (24 + t)) else none))))) : va_E) = Sum.inl (ek E 3, 6, .inr (.inr (.inr (.inr (fun t => if t < 6 then some (ea E (24 + t)) else none)))))
    have : (fun t => if t < 6 then some (ea (ext E q) (24 + t)) else none) = (fun t => if t < 6 then some (ea E (24 + t)) else none) := by
      funext t
      by_cases ht : t < 6
      · rw [if_pos ht, if_pos ht, ext_a (by omega)]
      · rw [if_neg ht, if_neg ht]
    rw [this]
  | 4, _ => rfl
theorem ext_vv {E : EV} {q : Nat} {σ μ : St} (i : Nat) (hi : i < 54) : vv (ext E q) σ μ i = vv E σ μ i := by
  by_cases h : i < 5
  · rw [vv0 h, vv0 h, ext_v0 h]
  · by_cases hb : i < 13
    · obtain ⟨t, rfl⟩ : ∃ t, i = 5 + t := ⟨i - 5, by omega⟩
      rw [vv1 (by omega), vv1 (by omega), v1, v1, ext_a (by omega)]
    · by_cases hc : i < 30
      · obtain ⟨t, rfl⟩ : ∃ t, i = 13 + t := ⟨i - 13, by omega⟩
        rw [vv2 (by omega), vv2 (by omega), v2, v2, ext_a (by omega)]
      · by_cases hd : i < 47
        · obtain ⟨t, rfl⟩ : ∃ t, i = 30 + t := ⟨i - 30, by omega⟩
          rw [vv3 (by omega), vv3 (by omega)]
          rfl
        · obtain ⟨t, rfl⟩ : ∃ t, i = 47 + t := ⟨i - 47, by omega⟩
          rw [vv4, vv4, ext_v4]
theorem z7_vv {E : EV} {σ μ : St} (i : Nat) (hi : i < 54) : vv E σ (z7 μ) i = vv E σ μ i := by
  refine vv_ne (fun _ => rfl) (fun _ => rfl) (fun _ _ _ => ⟨rfl, rfl, rfl⟩) (fun _ _ _ => rfl) (fun r e => ?_)
  have hr : r < 7 := by omega
  match r, hr with
  | 0, _ => rfl
  | 1, _ => rfl
  | 2, _ => rfl
  | 3, _ => rfl
  | 4, _ => rfl
  | 5, _ => rfl
  | 6, _ => rfl
theorem ext_back {E : EV} (h54 : en E = 54) {q : Nat} {σ μ : St} {H : Heap} (h : WD (ext E q) σ μ H) : WD E σ μ H := by
  intro k x hk
  obtain ⟨h1, rfl⟩ := cells_of hk
  rw [h54] at h1
  have h2 := h k (ea (ext E q) k, vv (ext E q) σ μ k) (cells_at (show k < 55 by omega) rfl)
  rw [ext_a (by omega), ext_vv k h1] at h2
  exact h2
theorem x_new54 {p : Program} {l : Launch} {e : Env} {R : Room} {s : State} {m : MethodId} {args : Array Value} {below : List Frame} {meth : Method} {c : Code} {H : Heap} {locs : List Loc} {nc ns : Nat} {Q : State → Prop} {cc : ByteArray} {pc : Nat} {ls : Array Slot} {rest : List Value} {E : EV} {own : String} {nL : Nat} {σ μ : St}
    (F : Fx E p s m args c cc own nL) (h54 : en E = 54) (hH : HS E s σ μ H locs) (hcells : nc + 1 ≤ R.cells) (hslots : ns + 5 ≤ R.slots) (harr : Cond.arrayClass .int ∈ gtbl) (hdg : decode cc pc = .ok (.newarray .int, 2))
    (kk : ∀ (E1 : EV) (H1 : Heap), ea E1 47 = ea E 47 → 54 < en E1 → eA E1 = eA E → (∀ (σ μ : St) (H : Heap), WD E1 σ μ H → WD E σ μ H) → Fx E1 p s m args c cc own nL → HS E1 s σ (z7 μ) H1 locs → W p l e R s m args below meth c H1 locs (nc + 1) (ns + 5) Q (F0 m (pc + 2) ls (.ref (ea E1 (47 + 7)) :: rest))) :
    W p l e R s m args below meth c H locs nc ns Q (F0 m pc ls (.int 5 :: rest)) := by
  refine va_newa (atype := .int) (D := eD E) (cl := vwCl) (ty := .int) (a0 := (5, .inl (fun _ => 0))) F.hx F.hb (F.hts _ harr) rfl F.hK hH.1 (F.ad.d σ μ) hH.2 F.hA (fun cA => rfl) (by decide) (by decide) (by decide) hcells hslots hdg (fun q cA H1 hK1 hP1 hD1 hS1 => ?_)
  have hcA : cA = ek E 0 := by
    have h1 := (hK1.2 4 (cA, .int) rfl).2
    have h2 := (hK1.2 0 (ek E 0, .int) rfl).2
    exact Option.some.inj (h1.symm.trans h2)
  subst hcA
  have hlen : (cells E σ μ).length = 54 := by simp [cells, h54]
  have hat1 : ∀ i, i < 54 → (cells E σ μ ++ [(q, (.inl (ek E 0, (5, .inl (fun _ => 0))) : va_E))])[i]? = some (ea E i, vv E σ μ i) := fun i hi => by
    rw [List.getElem?_append_left (by omega)]
    exact cells_at (by omega) rfl
  have hat2 : (cells E σ μ ++ [(q, (.inl (ek E 0, (5, .inl (fun _ => 0))) : va_E))])[54]? = some (q, .inl (ek E 0, (5, .inl (fun _ => 0)))) := by
    rw [List.getElem?_append_right (by omega), hlen]
    rfl
  have hat : ∀ i, i < 55 → ∃ x : va_E, (cells E σ μ ++ [(q, (.inl (ek E 0, (5, .inl (fun _ => 0))) : va_E))])[i]? = some (ea (ext E q) i, x) := fun i hi => by
    by_cases h : i = 54
    · subst h; exact ⟨_, hat2⟩
    · refine ⟨vv E σ μ i, ?_⟩
      rw [ext_a h]
      exact hat1 i (by omega)
  refine kk (ext E q) H1 rfl (show 54 < 55 by decide) rfl (fun σ μ H h => ext_back h54 h) ⟨F.hx, F.hb, F.hml, F.hown, F.hts, F.ks, F.sz, ⟨fun i j hi hj e => ?_, fun i hi => ?_, show 54 ≤ 55 by decide⟩, F.hA⟩ ⟨fun k x hk => ?_, hS1⟩
  · obtain ⟨x1, h1⟩ := hat i hi
    obtain ⟨x2, h2⟩ := hat j hj
    exact hD1.1 i j _ _ h1 h2 e
  · obtain ⟨x1, h1⟩ := hat i hi
    exact hD1.2 i _ h1
  · obtain ⟨h1, rfl⟩ := cells_of hk
    have h1 : k < 55 := h1
    by_cases h : k = 54
    · subst h
      have h2 := hP1 54 _ hat2
      have h3 : vv (ext E q) σ (z7 μ) 54 = .inl (ek E 0, (5, .inl (fun _ => 0))) := by
        rw [show (54 : Nat) = 47 + 7 from rfl, vv4]
        rfl
      rw [h3]
      exact h2
    · have h2 := hP1 k _ (hat1 k (by omega))
      rw [ext_a h, ext_vv k (by omega), z7_vv k (by omega)]
      exact h2
theorem x_iret54 {p : Program} {l : Launch} {e : Env} {R : Room} {s : State} {m : MethodId} {args : Array Value} {below : List Frame} {meth : Method} {c : Code} {H : Heap} {locs : List Loc} {nc ns : Nat} {cc : ByteArray} {pc : Nat} {ls : Array Slot} {E E1 : EV} {own : String} {nL : Nat} {σ μ : St}
    (F : Fx E1 p s m args c cc own nL) (hAA : eA E1 = eA E) (hbk : ∀ (σ μ : St) (H : Heap), WD E1 σ μ H → WD E σ μ H) (hr : meth.sig.returnType = some .int) (hlk : meth.locks = false) (hH : HS E1 s σ μ H locs) {v : Int32} {P : Int32 × St} (hP : P = (v, μ)) (hdg : decode cc pc = .ok (.ireturn, 1)) : W p l e R s m args below meth c H locs nc ns (MQ below (QI E P.1 σ P.2) args s nc ns (eA E)) (F0 m pc ls [.int v]) := by
  subst hP
  have hS := hH.2
  rw [hAA] at hS
  exact W.iret (v := v) F.hx F.hb hr (fun t ht hW => ⟨⟨v, (), rfl, rfl, by subst ht; exact hbk _ _ _ hH.1⟩, hS.F ht⟩) hS.2.2 hdg
def f_X4_put (μ : St) (t kind n : Int32) : Int32 × St :=
  if (f_X4_isTill t) = 0 then
    ((-1), (up μ 0 0 0))
  else
    if (f_X4_in kind 0 4) = 0 then
      ((-1), (up μ 0 0 0))
    else
      if (f_X4_in n 0 200) = 0 then
        ((-1), (up μ 0 0 0))
      else
        match f_X4_hold (up μ 0 0 0) (tn t) with
        | (r_6, s_7) =>
          if r_6 = 0 then
            match f_X4_lay (up (z7 (up s_7 4 (40 + (tn kind)) ((s_7 4 (40 + (tn kind))) + n))) 7 (tn kind) n) (tn t) 7 with
            | (r_10, s_11) =>
              match f_X4_leave s_11 r_10 with
              | (r_13, s_14) =>
                (f_X4_told r_13 (sumL (rowM s_14 (tn t)) 5 0 0), s_14)
          else
            (f_X4_told r_6 0, s_7)
set_option maxRecDepth 100000 in
set_option maxHeartbeats 4000000 in
theorem c_X4_put (l : Launch) {E : EV} (hA : AD E) (h54 : en E = 54) (σ μ : St) (t kind n : Int32) : Met l yX4_put (.code yX4_put cX4_put 6 (some .int) :: gtbl) (rmC 2 1 5) (va_Pc [.ref (ea E 47), .int t, .int kind, .int n] (PR E σ μ)) (QI E (f_X4_put μ t kind n).1 σ (f_X4_put μ t kind n).2) 1 5 (eA E) := by
  refine x_met (own := RX4) (by decide) rfl hA (Nat.le_of_ble_eq_true rfl) ?_
  intro p e s m below meth c ls F hr hlk hH hl
  have hl : lv_has ls 6 [(0, .ref (ea E 47)), (1, .int t), (2, .int kind), (3, .int n)] := hl
  have hx := F.hx
  have hb := F.hb
  refine lv_aload_n hx hb dX4_put_0 rfl (lv_at hl 0 rfl) ?_
  refine lv_iconst (v := 0) hx hb dX4_put_1 (by decide) ?_
  refine p_X4_thrown F hH kw_297 dX4_put_2 (fun H locs hH => ?_)
  refine lv_iload_n hx hb dX4_put_5 rfl (lv_at hl 1 rfl) ?_
  refine x_pure hx hb F.hml F.hown F.hts (c_X4_isTill l t) cw_X4_68 rfl rfl ⟨Nat.le_of_ble_eq_true rfl, Nat.le_of_ble_eq_true rfl⟩ rfl hl.1 rfl (Nat.le_of_ble_eq_true rfl) ⟨Nat.zero_le _, Nat.zero_le _⟩ dX4_put_6 ?_
  refine lv_if_eq (tgt := 32) hx hb dX4_put_9 (by decide) (fun c_1 => ?_) (fun c_1 => ?_)
  · refine lv_iconst (v := -1) hx hb dX4_put_32 (by decide) ?_
    refine W.widen (k := 1) (n := 5) (by omega) (by omega) ?_
    exact x_iretM F hr hlk hH (by simp only [f_X4_put, if_pos c_1]) dX4_put_33
  · have q_2 := X4_isTill_n c_1
    have q_2b := q_2.2
    refine lv_iload_n hx hb dX4_put_12 rfl (lv_at hl 2 rfl) ?_
    refine lv_iconst (v := 0) hx hb dX4_put_13 (by decide) ?_
    refine lv_iconst (v := 4) hx hb dX4_put_14 (by decide) ?_
    refine x_pure hx hb F.hml F.hown F.hts (c_X4_in l kind 0 4) cw_X4_33 rfl rfl ⟨Nat.le_of_ble_eq_true rfl, Nat.le_of_ble_eq_true rfl⟩ rfl hl.1 rfl (Nat.le_of_ble_eq_true rfl) ⟨Nat.zero_le _, Nat.zero_le _⟩ dX4_put_15 ?_
    refine lv_if_eq (tgt := 32) hx hb dX4_put_18 (by decide) (fun c_3 => ?_) (fun c_3 => ?_)
    · refine lv_iconst (v := -1) hx hb dX4_put_32 (by decide) ?_
      refine W.widen (k := 1) (n := 5) (by omega) (by omega) ?_
      exact x_iretM F hr hlk hH (by simp only [f_X4_put, if_neg c_1, if_pos c_3]) dX4_put_33
    · have q_4 := X4_in_n (M := 4) rfl (by decide) c_3
      have q_4b := q_4.2
      refine lv_iload_n hx hb dX4_put_21 rfl (lv_at hl 3 rfl) ?_
      refine lv_iconst (v := 0) hx hb dX4_put_22 (by decide) ?_
      refine lv_sipush (v := 200) hx hb dX4_put_23 (by decide) ?_
      refine x_pure hx hb F.hml F.hown F.hts (c_X4_in l n 0 200) cw_X4_33 rfl rfl ⟨Nat.le_of_ble_eq_true rfl, Nat.le_of_ble_eq_true rfl⟩ rfl hl.1 rfl (Nat.le_of_ble_eq_true rfl) ⟨Nat.zero_le _, Nat.zero_le _⟩ dX4_put_26 ?_
      refine lv_if_ne (tgt := 34) hx hb dX4_put_29 (by decide) (fun c_5 => ?_) (fun c_5 => ?_)
      · refine lv_aload_n hx hb dX4_put_34 rfl (lv_at hl 0 rfl) ?_
        refine lv_iload_n hx hb dX4_put_35 rfl (lv_at hl 1 rfl) ?_
        refine x_top q_2.1 ?_
        refine x_calliM F hH 47 (F.lt (by omega)) (vv4 0) rfl (c_X4_hold l F.ad σ (up μ 0 0 0) (tn t) (by omega)) cw_X4_76 rfl rfl ⟨Nat.le_of_ble_eq_true rfl, Nat.le_of_ble_eq_true rfl⟩ rfl hl.1 rfl (Nat.le_of_ble_eq_true rfl) ⟨Nat.zero_le _, Nat.zero_le _⟩ dX4_put_36 (fun r_6 s_7 H locs e_8 hH => ?_)
        refine lv_istore (lv' := [(4, .int r_6), (0, .ref (ea E 47)), (1, .int t), (2, .int kind), (3, .int n)]) hx hb dX4_put_39 hl (by decide) rfl (fun ls hl => ?_)
        refine lv_iload hx hb dX4_put_41 (lv_at hl 0 rfl) ?_
        refine lv_if_eq (tgt := 53) hx hb dX4_put_43 (by decide) (fun c_9 => ?_) (fun c_9 => ?_)
        · refine lv_aload_n hx hb dX4_put_53 rfl (lv_at hl 1 rfl) ?_
          refine g_X4_coins F hH kw_301 dX4_put_54 ?_
          refine lv_bipush (v := 40) hx hb dX4_put_57 (by decide) ?_
          refine lv_iload_n hx hb dX4_put_59 rfl (lv_at hl 3 rfl) ?_
          refine x_top q_4.1 ?_
          refine lv_iadd hx hb dX4_put_60 ?_
          refine x_top (nI_add 40 (tn kind)) ?_
          refine lv_dup2_11 hx hb dX4_put_61 rfl rfl ?_
          refine a_mco F hH (40 + (tn kind)) (by omega) dX4_put_62 ?_
          refine lv_iload_n hx hb dX4_put_63 rfl (lv_at hl 4 rfl) ?_
          refine lv_iadd hx hb dX4_put_64 ?_
          refine s_mco F hH (40 + (tn kind)) (by omega) dX4_put_65 (fun H locs hH => ?_)
          refine lv_iconst (v := 5) hx hb dX4_put_66 (by decide) ?_
          refine x_new54 F h54 hH (Nat.le_of_ble_eq_true rfl) (Nat.le_of_ble_eq_true rfl) kw_56 dX4_put_67 (fun E1 H h47 h55 hAA hbk F hH => ?_)
          rw [← h47] at hl
          refine lv_astore (lv' := [(5, .ref (ea E1 (47 + 7))), (4, .int r_6), (0, .ref (ea E1 47)), (1, .int t), (2, .int kind), (3, .int n)]) hx hb dX4_put_69 hl (by decide) rfl (fun ls hl => ?_)
          refine lv_aload hx hb dX4_put_71 (lv_at hl 0 rfl) ?_
          refine lv_iload_n hx hb dX4_put_73 rfl (lv_at hl 4 rfl) ?_
          refine x_top q_4.1 ?_
          refine lv_iload_n hx hb dX4_put_74 rfl (lv_at hl 5 rfl) ?_
          refine s_mtm F hH h55 (tn kind) (by omega) dX4_put_75 (fun H locs hH => ?_)
          refine lv_aload_n hx hb dX4_put_76 rfl (lv_at hl 2 rfl) ?_
          refine lv_aload_n hx hb dX4_put_77 rfl (lv_at hl 2 rfl) ?_
          refine lv_iload_n hx hb dX4_put_78 rfl (lv_at hl 3 rfl) ?_
          refine x_top q_2.1 ?_
          refine lv_aload hx hb dX4_put_79 (lv_at hl 0 rfl) ?_
          refine x_calliM F hH 47 (F.lt (by omega)) (vv4 0) rfl (c_X4_lay l F.ad σ (up (z7 (up s_7 4 (40 + (tn kind)) ((s_7 4 (40 + (tn kind))) + n))) 7 (tn kind) n) (tn t) 7 (by omega) (by omega)) cw_X4_85 rfl rfl ⟨Nat.le_of_ble_eq_true rfl, Nat.le_of_ble_eq_true rfl⟩ rfl hl.1 rfl (Nat.le_of_ble_eq_true rfl) ⟨Nat.le_of_ble_eq_true rfl, Nat.le_of_ble_eq_true rfl⟩ dX4_put_81 (fun r_10 s_11 H locs e_12 hH => ?_)
          refine x_calliM F hH 47 (F.lt (by omega)) (vv4 0) rfl (c_X4_leave l F.ad σ s_11 r_10) cw_X4_82 rfl rfl ⟨Nat.le_of_ble_eq_true rfl, Nat.le_of_ble_eq_true rfl⟩ rfl hl.1 rfl (Nat.le_of_ble_eq_true rfl) ⟨Nat.le_of_ble_eq_true rfl, Nat.le_of_ble_eq_true rfl⟩ dX4_put_84 (fun r_13 s_14 H locs e_15 hH => ?_)
          refine lv_istore (lv' := [(4, .int r_13), (5, .ref (ea E1 (47 + 7))), (0, .ref (ea E1 47)), (1, .int t), (2, .int kind), (3, .int n)]) hx hb dX4_put_87 hl (by decide) rfl (fun ls hl => ?_)
          refine lv_iload hx hb dX4_put_89 (lv_at hl 0 rfl) ?_
          refine lv_aload_n hx hb dX4_put_91 rfl (lv_at hl 2 rfl) ?_
          refine lv_iload_n hx hb dX4_put_92 rfl (lv_at hl 3 rfl) ?_
          refine x_top q_2.1 ?_
          refine x_calliR F hH 47 (F.lt (by omega)) (vv4 0) rfl (c_X4_all l F.ad σ s_14 (tn t) (by omega)) cw_X4_61 rfl rfl ⟨Nat.le_of_ble_eq_true rfl, Nat.le_of_ble_eq_true rfl⟩ rfl hl.1 rfl (Nat.le_of_ble_eq_true rfl) ⟨Nat.le_of_ble_eq_true rfl, Nat.le_of_ble_eq_true rfl⟩ dX4_put_93 (fun H locs hH => ?_)
          refine x_pure hx hb F.hml F.hown F.hts (c_X4_told l r_13 (sumL (rowM s_14 (tn t)) 5 0 0)) cw_X4_79 rfl rfl ⟨Nat.le_of_ble_eq_true rfl, Nat.le_of_ble_eq_true rfl⟩ rfl hl.1 rfl (Nat.le_of_ble_eq_true rfl) ⟨Nat.le_of_ble_eq_true rfl, Nat.le_of_ble_eq_true rfl⟩ dX4_put_96 ?_
          exact x_iret54 F hAA hbk hr hlk hH (by simp only [f_X4_put, if_neg c_1, if_neg c_3, if_neg c_5, e_8, if_pos c_9, e_12, e_15]) dX4_put_99
        · refine lv_iload hx hb dX4_put_46 (lv_at hl 0 rfl) ?_
          refine lv_iconst (v := 0) hx hb dX4_put_48 (by decide) ?_
          refine x_pure hx hb F.hml F.hown F.hts (c_X4_told l r_6 0) cw_X4_79 rfl rfl ⟨Nat.le_of_ble_eq_true rfl, Nat.le_of_ble_eq_true rfl⟩ rfl hl.1 rfl (Nat.le_of_ble_eq_true rfl) ⟨Nat.zero_le _, Nat.zero_le _⟩ dX4_put_49 ?_
          refine W.widen (k := 1) (n := 5) (by omega) (by omega) ?_
          exact x_iretM F hr hlk hH (by simp only [f_X4_put, if_neg c_1, if_neg c_3, if_neg c_5, e_8, if_neg c_9]) dX4_put_52
      · refine lv_iconst (v := -1) hx hb dX4_put_32 (by decide) ?_
        refine W.widen (k := 1) (n := 5) (by omega) (by omega) ?_
        exact x_iretM F hr hlk hH (by simp only [f_X4_put, if_neg c_1, if_neg c_3, if_pos c_5]) dX4_put_33
