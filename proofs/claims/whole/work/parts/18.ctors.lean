/-! constructors -/
def NW (U : State) : Prop := va_Nw (.methodLinkNest RX3 15 yX2_init "TillHolds") U ∧ va_Nw (.methodLinkNest RX2 11 yX0_init "TillHolds") U ∧ va_Nw (.methodLinkNest RX3 18 yX0_init "TillHolds") U ∧ va_Nw (.methodLinkNest RX3 25 yX1_init "TillHolds") U ∧ va_AO "TillHolds$Till" U ∧ va_AO "TillHolds$Coins" U
theorem NW.warm {s U : State} (hW : s.WarmedH U.vm) (h : NW s) : NW U := ⟨va_Nw.warmM hW h.1, va_Nw.warmM hW h.2.1, va_Nw.warmM hW h.2.2.1, va_Nw.warmM hW h.2.2.2.1, va_AO.moved hW.alike h.2.2.2.2.1, va_AO.moved hW.alike h.2.2.2.2.2⟩
theorem NW.same {s U : State} (e : s.vm = U.vm) (h : NW s) : NW U := ⟨va_Nw.same rfl e h.1, va_Nw.same rfl e h.2.1, va_Nw.same rfl e h.2.2.1, va_Nw.same rfl e h.2.2.2.1, va_AO.moved (by rw [e]; exact Vm.Alike.refl U.vm) h.2.2.2.2.1, va_AO.moved (by rw [e]; exact Vm.Alike.refl U.vm) h.2.2.2.2.2⟩
def PI (D : va_G) (vs : List Value) (ws : va_W) (sz : Nat) : Array Value → State → Prop := va_Pc vs (fun U => U.heap.size = sz ∧ va_P D vwCl ws U.heap ∧ va_K D vwCl [] U ∧ va_D (fun _ => True) ws ∧ NW U)
theorem PI.blind {D : va_G} {vs : List Value} {ws : va_W} {sz : Nat} : FrameBlind (PI D vs ws sz) := fun a U g mk h => ⟨h.1, h.2.1, h.2.2.1, va_K.moved (u := U) (U := U.calling g mk a) (Vm.Alike.refl U.vm) h.2.2.2.1, h.2.2.2.2.1, NW.same (rfl : U.vm = (U.calling g mk a).vm) h.2.2.2.2.2⟩
theorem tys_eq {D : va_G} {U : State} {a b : List (ClassId × FieldType)} {c1 c2 : ClassId} {ty : FieldType} (h1 : va_K D vwCl a U) (h2 : va_K D vwCl b U) (i j : Nat) (hi : a[i]? = some (c1, ty)) (hj : b[j]? = some (c2, ty)) : c1 = c2 := by
  have g1 := (h1.2 i _ hi).2
  have g2 := (h2.2 j _ hj).2
  cases ty with
  | object C =>
    obtain ⟨_, _, _, _, _, e1⟩ := g1
    obtain ⟨_, _, _, _, _, e2⟩ := g2
    exact Option.some.inj (e1.symm.trans e2)
  | _ => exact Option.some.inj (g1.symm.trans g2)
set_option maxRecDepth 100000 in
set_option maxHeartbeats 8000000 in
theorem c_X0_init (l : Launch) (D : va_G) (h0 sz : Nat) : Met l yX0_init (.code yX0_init cX0_init 1 none :: gtbl) (rmC 1 1 5) (PI D [.ref h0] [(h0, .inr (0, [.null]))] sz) (va_Qv (S := Unit) (fun _ => True) (fun _ t => ∃ (q1 : Nat) (cA : ClassId), va_P D vwCl [(h0, .inr (0, [.ref q1])), (q1, .inl (cA, 5, .inl (fun _ => 0)))] t.heap ∧ va_K D vwCl [(cA, .int)] t ∧ va_D (va_A [(h0, .inr (0, [.null]))] sz) [(h0, .inr (0, [.ref q1])), (q1, .inl (cA, 5, .inl (fun _ => 0)))]) (va_A [(h0, .inr (0, [.null]))] sz)) 1 5 (va_A [(h0, .inr (0, [.null]))] sz) := by
  refine Met.ofW (cc := cX0_init) (maxL := 1) (ret := none) (by decide) rfl ?_
  intro p e s m args below meth c s₁ B hml hv
  obtain ⟨rfl, hsz, hP, hK, hD0, hNW⟩ := hv
  have hx := B.exec
  have hb := B.bytes
  have hr := B.returns
  have hts0 := atoms_spec (ws := .code yX0_init cX0_init 1 none :: gtbl) B.pre
  have hts : ∀ w ∈ gtbl, w.before #[Value.ref h0] s = true := fun w hw => hts0 w (List.mem_cons_of_mem _ hw)
  have hown : s.vm.findClass RX0 = some m.cls := findClass_of_methodNamed B.named
  have hlocks := B.notSynchronized
  have hin : meth.name = "<init>" := (name_of_methodNamed B.named B.method).1
  subst hsz
  have hD := hD0.self (sz := s.heap.size)
  generalize hAe : va_A [(h0, .inr (0, [.null]))] s.heap.size = A at hD ⊢
  have hA : ∀ q : Nat, s.heap.size ≤ q → A q := fun q h => by rw [← hAe]; exact Or.inr h
  have hS : va_S A s.heap s.heap [] := va_S.rf
  have hP : va_P D vwCl [(h0, .inr (0, [.null]))] s.heap := hP
  have hl := lv_entry ([.ref h0]) (n := 1) (Nat.le_of_ble_eq_true rfl)
  rw [lg_entry_eq]
  generalize (lg_sl ([.ref h0]) ++ List.replicate (1 - (lg_sl ([.ref h0])).length) Slot.unset).toArray = ls at hl ⊢
  have hl : lv_has ls 1 [(0, .ref h0)] := hl
  generalize hH0 : s.heap = H at hP hS ⊢
  have hS : va_S A s.heap H [] := by rw [hH0]; exact hS
  refine lv_aload_n hx hb dX0_init_0 rfl (lv_at hl 0 rfl) ?_
  refine W.objInit hx hb hown (hts _ kw_50) (hts _ kw_36) (hts _ kw_37) rfl (by rw [hml]; exact hl.1) rfl dX0_init_1 (Nat.le_of_ble_eq_true rfl) (Nat.le_of_ble_eq_true rfl) ?_
  refine W.eq (g2 := F0 m 4 ls []) rfl ?_
  refine lv_aload_n hx hb dX0_init_4 rfl (lv_at hl 0 rfl) ?_
  refine lv_iconst (v := 5) hx hb dX0_init_5 (by decide) ?_
  refine va_newa (atype := .int) (ty := .int) (a0 := (5, .inl (fun _ => 0))) hx hb (hts _ kw_56) rfl hK hP hD hS hA (fun cA => rfl) (by decide) (by decide) (by decide) (Nat.le_of_ble_eq_true rfl) (Nat.le_of_ble_eq_true rfl) dX0_init_6 (fun q1 cA1 H hK hP hD hS => ?_)
  have hP : va_P D vwCl [(h0, .inr (0, [.null])), (q1, .inl (cA1, 5, .inl (fun _ => 0)))] H := hP
  have hD : va_D A [(h0, .inr (0, [.null])), (q1, .inl (cA1, 5, .inl (fun _ => 0)))] := hD
  have hK : va_K D vwCl [(cA1, .int)] s := hK
  refine W.widen (k := 1) (n := 5) (by omega) (by omega) ?_
  refine va_putF (D := D) (ci := 0) (v := .ref q1) (ty := .array .int) (C := RX0) (T := TX0) (N := 1) hx hb hts gX0 tyX0 tyX0_ok nmX0 hown hK hP hD hS 0 rfl rfl 0 (by decide) (hts _ kw_51) (fun _ h9 => h9) rfl hin rfl (by decide +kernel) rfl rfl (Nat.le_of_ble_eq_true rfl) dX0_init_8 (fun H locs hP hD hS => ?_)
  have hP : va_P D vwCl [(h0, .inr (0, [.ref q1])), (q1, .inl (cA1, 5, .inl (fun _ => 0)))] H := hP
  have hD : va_D A [(h0, .inr (0, [.ref q1])), (q1, .inl (cA1, 5, .inl (fun _ => 0)))] := hD
  exact W.vret hx hb hr (fun t ht hW => ⟨⟨(), rfl, trivial, q1, cA1, by rw [ht]; exact hP, va_K.moved hW.alike hK, hD⟩, hS.F ht⟩) hS.2.2 dX0_init_11
set_option maxRecDepth 100000 in
set_option maxHeartbeats 8000000 in
theorem c_X1_init (l : Launch) (D : va_G) (h0 sz : Nat) : Met l yX1_init (.code yX1_init cX1_init 1 none :: gtbl) (rmC 1 0 0) (PI D [.ref h0] [(h0, .inr (1, [.int 0, .int 0, .int 0, .int 0]))] sz) (va_Qv (S := Unit) (fun _ => True) (fun _ t => va_P D vwCl [(h0, .inr (1, [.int 0, .int 0, .int 0, .int 0]))] t.heap ∧ va_K D vwCl [] t ∧ va_D (va_A [(h0, .inr (1, [.int 0, .int 0, .int 0, .int 0]))] sz) [(h0, .inr (1, [.int 0, .int 0, .int 0, .int 0]))]) (va_A [(h0, .inr (1, [.int 0, .int 0, .int 0, .int 0]))] sz)) 0 0 (va_A [(h0, .inr (1, [.int 0, .int 0, .int 0, .int 0]))] sz) := by
  refine Met.ofW (cc := cX1_init) (maxL := 1) (ret := none) (by decide) rfl ?_
  intro p e s m args below meth c s₁ B hml hv
  obtain ⟨rfl, hsz, hP, hK, hD0, hNW⟩ := hv
  have hx := B.exec
  have hb := B.bytes
  have hr := B.returns
  have hts0 := atoms_spec (ws := .code yX1_init cX1_init 1 none :: gtbl) B.pre
  have hts : ∀ w ∈ gtbl, w.before #[Value.ref h0] s = true := fun w hw => hts0 w (List.mem_cons_of_mem _ hw)
  have hown : s.vm.findClass RX1 = some m.cls := findClass_of_methodNamed B.named
  have hlocks := B.notSynchronized
  have hin : meth.name = "<init>" := (name_of_methodNamed B.named B.method).1
  subst hsz
  have hD := hD0.self (sz := s.heap.size)
  generalize hAe : va_A [(h0, .inr (1, [.int 0, .int 0, .int 0, .int 0]))] s.heap.size = A at hD ⊢
  have hA : ∀ q : Nat, s.heap.size ≤ q → A q := fun q h => by rw [← hAe]; exact Or.inr h
  have hS : va_S A s.heap s.heap [] := va_S.rf
  have hP : va_P D vwCl [(h0, .inr (1, [.int 0, .int 0, .int 0, .int 0]))] s.heap := hP
  have hl := lv_entry ([.ref h0]) (n := 1) (Nat.le_of_ble_eq_true rfl)
  rw [lg_entry_eq]
  generalize (lg_sl ([.ref h0]) ++ List.replicate (1 - (lg_sl ([.ref h0])).length) Slot.unset).toArray = ls at hl ⊢
  have hl : lv_has ls 1 [(0, .ref h0)] := hl
  generalize hH0 : s.heap = H at hP hS ⊢
  have hS : va_S A s.heap H [] := by rw [hH0]; exact hS
  refine lv_aload_n hx hb dX1_init_0 rfl (lv_at hl 0 rfl) ?_
  refine W.objInit hx hb hown (hts _ kw_80) (hts _ kw_36) (hts _ kw_37) rfl (by rw [hml]; exact hl.1) rfl dX1_init_1 (Nat.le_of_ble_eq_true rfl) (Nat.le_of_ble_eq_true rfl) ?_
  refine W.eq (g2 := F0 m 4 ls []) rfl ?_
  exact W.vret hx hb hr (fun t ht hW => ⟨⟨(), rfl, trivial, by rw [ht]; exact hP, va_K.moved hW.alike hK, hD⟩, hS.F ht⟩) hS.2.2 dX1_init_4
set_option maxRecDepth 100000 in
set_option maxHeartbeats 8000000 in
theorem c_X2_init (l : Launch) (D : va_G) (h0 sz : Nat) : Met l yX2_init (.code yX2_init cX2_init 1 none :: gtbl) (rmC 2 2 6) (PI D [.ref h0] [(h0, .inr (2, [.null, .int 0, .int 0, .int 0]))] sz) (va_Qv (S := Unit) (fun _ => True) (fun _ t => ∃ (q1 q2 : Nat) (cA : ClassId), va_P D vwCl [(h0, .inr (2, [.ref q1, .int 0, .int 0, .int 0])), (q1, .inr (0, [.ref q2])), (q2, .inl (cA, 5, .inl (fun _ => 0)))] t.heap ∧ va_K D vwCl [(cA, .int)] t ∧ va_D (va_A [(h0, .inr (2, [.null, .int 0, .int 0, .int 0]))] sz) [(h0, .inr (2, [.ref q1, .int 0, .int 0, .int 0])), (q1, .inr (0, [.ref q2])), (q2, .inl (cA, 5, .inl (fun _ => 0)))]) (va_A [(h0, .inr (2, [.null, .int 0, .int 0, .int 0]))] sz)) 2 6 (va_A [(h0, .inr (2, [.null, .int 0, .int 0, .int 0]))] sz) := by
  refine Met.ofW (cc := cX2_init) (maxL := 1) (ret := none) (by decide) rfl ?_
  intro p e s m args below meth c s₁ B hml hv
  obtain ⟨rfl, hsz, hP, hK, hD0, hNW⟩ := hv
  have hx := B.exec
  have hb := B.bytes
  have hr := B.returns
  have hts0 := atoms_spec (ws := .code yX2_init cX2_init 1 none :: gtbl) B.pre
  have hts : ∀ w ∈ gtbl, w.before #[Value.ref h0] s = true := fun w hw => hts0 w (List.mem_cons_of_mem _ hw)
  have hown : s.vm.findClass RX2 = some m.cls := findClass_of_methodNamed B.named
  have hlocks := B.notSynchronized
  have hin : meth.name = "<init>" := (name_of_methodNamed B.named B.method).1
  subst hsz
  have hD := hD0.self (sz := s.heap.size)
  generalize hAe : va_A [(h0, .inr (2, [.null, .int 0, .int 0, .int 0]))] s.heap.size = A at hD ⊢
  have hA : ∀ q : Nat, s.heap.size ≤ q → A q := fun q h => by rw [← hAe]; exact Or.inr h
  have hS : va_S A s.heap s.heap [] := va_S.rf
  have hP : va_P D vwCl [(h0, .inr (2, [.null, .int 0, .int 0, .int 0]))] s.heap := hP
  have hl := lv_entry ([.ref h0]) (n := 1) (Nat.le_of_ble_eq_true rfl)
  rw [lg_entry_eq]
  generalize (lg_sl ([.ref h0]) ++ List.replicate (1 - (lg_sl ([.ref h0])).length) Slot.unset).toArray = ls at hl ⊢
  have hl : lv_has ls 1 [(0, .ref h0)] := hl
  generalize hH0 : s.heap = H at hP hS ⊢
  have hS : va_S A s.heap H [] := by rw [hH0]; exact hS
  refine lv_aload_n hx hb dX2_init_0 rfl (lv_at hl 0 rfl) ?_
  refine W.objInit hx hb hown (hts _ kw_44) (hts _ kw_36) (hts _ kw_37) rfl (by rw [hml]; exact hl.1) rfl dX2_init_1 (Nat.le_of_ble_eq_true rfl) (Nat.le_of_ble_eq_true rfl) ?_
  refine W.eq (g2 := F0 m 4 ls []) rfl ?_
  refine lv_aload_n hx hb dX2_init_4 rfl (lv_at hl 0 rfl) ?_
  refine va_new (ci := 0) (fs := [.null]) (C := RX0) (T := TX0) (N := 1) hx hb hts gX0 tyX0 tyX0_ok hown (hts _ kw_45) (hts _ kw_46) (hts _ kw_26) hK hP hD hS hA rfl (fun j hj => by rcases (show j = 0 by omega) with rfl <;> rfl) (Nat.le_of_ble_eq_true rfl) (Nat.le_of_ble_eq_true rfl) dX2_init_5 (fun q1 H hP hD hS => ?_)
  have hP : va_P D vwCl [(h0, .inr (2, [.null, .int 0, .int 0, .int 0])), (q1, .inr (0, [.null]))] H := hP
  have hD : va_D A [(h0, .inr (2, [.null, .int 0, .int 0, .int 0])), (q1, .inr (0, [.null]))] := hD
  refine W.widen (k := 1) (n := 1) (by omega) (by omega) ?_
  refine lv_dup hx hb dX2_init_8 rfl ?_
  have hPc := hP.sub (ws' := [(q1, .inr (0, [.null]))]) [1] rfl
  have hDc := hD.sub (ws' := [(q1, .inr (0, [.null]))]) [1] (by decide) rfl
  have hKc := hK.sub (tys' := []) [] rfl
  have hFc := va_free (wc := [(q1, .inr (0, [.null]))]) hD hS hA [1] rfl
  refine va_callv (va_runIN (As := []) (rest := [.ref q1, .ref h0]) ⟨hx, hb, hml, hown, hts⟩ (c_X0_init l D q1 H.size) ⟨va_cnB 0 hts (gg_1 kw_49) rfl rfl rfl hNW.2.1 (hts _ kw_26) (by decide +kernel) ⟨Nat.le_of_ble_eq_true rfl, Nat.le_of_ble_eq_true rfl⟩, rfl, hts _ kw_48⟩ ⟨PI.blind, fun U hU hW => ⟨rfl, by rw [hU], by rw [hU]; exact hPc, va_K.moved hW.alike hKc, hDc.weaken (fun _ _ _ _ => trivial), hNW.warm hW⟩⟩ rfl rfl hl.1 rfl (lv_room (Nat.le_of_ble_eq_true rfl)) dX2_init_9 ⟨Nat.le_of_ble_eq_true rfl, Nat.le_of_ble_eq_true rfl⟩) hS (fun q _ h => hFc q h) hFc (fun u t H1 locs ht hvm hw hB hz1 hk1 hS => ?_)
  obtain ⟨qa2, cA2, hP1, hK1, hD1⟩ := hB
  rw [ht] at hP1
  have hK1 := va_K.moved hvm.symm hK1
  have hK := hK.app hK1
  obtain ⟨hP, hD⟩ := va_join (wr := [(h0, .inr (2, [.null, .int 0, .int 0, .int 0]))]) (w1 := [(q1, .inr (0, [.ref qa2])), (qa2, .inl (cA2, 5, .inl (fun _ => 0)))]) hP hD [1] [0] rfl rfl (by decide) (by decide) hk1 hFc hP1 hD1
  generalize H1 = H at hP hS ⊢
  have hP : va_P D vwCl [(h0, .inr (2, [.null, .int 0, .int 0, .int 0])), (q1, .inr (0, [.ref qa2])), (qa2, .inl (cA2, 5, .inl (fun _ => 0)))] H := hP
  have hD : va_D A [(h0, .inr (2, [.null, .int 0, .int 0, .int 0])), (q1, .inr (0, [.ref qa2])), (qa2, .inl (cA2, 5, .inl (fun _ => 0)))] := hD
  have hK : va_K D vwCl [(cA2, .int)] s := hK
  refine W.widen (k := 2) (n := 6) (by omega) (by omega) ?_
  refine va_putF (D := D) (ci := 2) (v := .ref q1) (ty := .object "TillHolds$Coins") (C := RX2) (T := TX2) (N := 4) hx hb hts gX2 tyX2 tyX2_ok nmX2 hown hK hP hD hS 0 rfl rfl 0 (by decide) (hts _ kw_57) (fun _ h9 => h9) rfl hin rfl (by decide +kernel) rfl rfl (Nat.le_of_ble_eq_true rfl) dX2_init_12 (fun H locs hP hD hS => ?_)
  have hP : va_P D vwCl [(h0, .inr (2, [.ref q1, .int 0, .int 0, .int 0])), (q1, .inr (0, [.ref qa2])), (qa2, .inl (cA2, 5, .inl (fun _ => 0)))] H := hP
  have hD : va_D A [(h0, .inr (2, [.ref q1, .int 0, .int 0, .int 0])), (q1, .inr (0, [.ref qa2])), (qa2, .inl (cA2, 5, .inl (fun _ => 0)))] := hD
  exact W.vret hx hb hr (fun t ht hW => ⟨⟨(), rfl, trivial, q1, qa2, cA2, by rw [ht]; exact hP, va_K.moved hW.alike hK, hD⟩, hS.F ht⟩) hS.2.2 dX2_init_15
