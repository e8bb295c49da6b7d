/-! the words that every contract here takes: the good words of the tables -/
def gtbl : List Cond := lw_tbl.filter goodWord
theorem gm {w : Cond} (h : w ∈ lw_tbl) (hg : goodWord w = true) : w ∈ gtbl := List.mem_filter.mpr ⟨h, hg⟩
theorem gg_1 {c1 : Cond} (h : c1 ∈ gtbl) : GoodIn gtbl (c1 :: gtbl) := fun w hw => by
  rcases List.mem_cons.mp hw with rfl | hw
  · exact ⟨h, good_of_word (List.mem_filter.mp h).2⟩
  · exact ⟨hw, good_of_word (List.mem_filter.mp hw).2⟩
/-! numbers: a memory of rows of ints; a truth value as 0 or 1 -/
abbrev St : Type := Nat → Nat → Int32
def up (σ : St) (r k : Nat) (v : Int32) : St := fun r' k' => if r' = r ∧ k' = k then v else σ r' k'
def bz (x : Int32) : Int32 := if x = 0 then 0 else 1
theorem bz_0 : bz 0 = 0 := by decide +kernel
theorem bz_1 : bz 1 = 1 := by decide +kernel
theorem bz_c (x : Int32) : bz x = 0 ∨ bz x = 1 := by unfold bz; split <;> simp
theorem bz_eq0 {x : Int32} : bz x = 0 ↔ x = 0 := by
  unfold bz
  split
  · rename_i h; simp [h]
  · rename_i h
    exact ⟨fun q => absurd q (by decide), fun q => absurd q h⟩
theorem bz_bz (x : Int32) : bz (bz x) = bz x := by rcases bz_c x with h | h <;> rw [h] <;> decide +kernel
theorem bz_nar (x : Int32) : narrow .boolean (.int (bz x)) = .int (bz x) := by rcases bz_c x with h | h <;> rw [h] <;> rfl
theorem bz_fit (x : Int32) : fits .boolean (.int (bz x)) = true := by rcases bz_c x with h | h <;> rw [h] <;> rfl
theorem bz_vp (x : Int32) : vp_nar .boolean (bz x) = bz x := by rcases bz_c x with h | h <;> rw [h] <;> rfl
abbrev tn (x : Int32) : Nat := x.toNatClampNeg
def wof (k : Nat) : Int32 := match k with
  | 0 => 1
  | 1 => 2
  | 2 => 5
  | 3 => 10
  | _ => 20
/-! the world: one table of cells, at addresses that are a variable -/
abbrev EV : Type := va_G × (Nat → Nat) × (Nat → ClassId) × Nat × (Nat → Prop) × Nat
def eD (E : EV) : va_G := E.1
def ea (E : EV) : Nat → Nat := E.2.1
def ek (E : EV) : Nat → ClassId := E.2.2.1
def en (E : EV) : Nat := E.2.2.2.1
def eA (E : EV) : Nat → Prop := E.2.2.2.2.1
def ez (E : EV) : Nat := E.2.2.2.2.2
def etys (E : EV) : List (ClassId × FieldType) := [(ek E 0, .int), (ek E 1, .boolean), (ek E 2, .object "TillHolds$Till"), (ek E 3, .object "TillHolds$Coins")]
def v0 (E : EV) (σ : St) (i : Nat) : va_E := match i with
  | 0 => .inr (3, [.ref (ea E 1), .ref (ea E 21), .ref (ea E 2), .ref (ea E 22), .ref (ea E 23), .ref (ea E 3), .ref (ea E 4)])
  | 1 => .inl (ek E 2, 8, .inr (.inr (.inr (.inr (fun t => if t < 8 then some (ea E (5 + t)) else none)))))
  | 2 => .inr (1, [.int (σ 20 0), .int (σ 20 1), .int (σ 20 2), .int (σ 20 3)])
  | 3 => .inl (ek E 3, 6, .inr (.inr (.inr (.inr (fun t => if t < 6 then some (ea E (24 + t)) else none)))))
  | _ => .inl (ek E 0, 6, .inl (σ 21))
def v1 (E : EV) (σ : St) (t : Nat) : va_E := .inr (2, [.ref (ea E (13 + t)), .int (bz (σ 17 t)), .int (bz (σ 18 t)), .int (σ 19 t)])
def v2 (E : EV) (j : Nat) : va_E := .inr (0, [.ref (ea E (30 + j))])
def v3 (E : EV) (σ : St) (j : Nat) : va_E := .inl (ek E 0, 5, .inl (σ j))
def v4 (E : EV) (μ : St) (i : Nat) : va_E := match i with
  | 0 => .inr (4, [.int (μ 0 0), .ref (ea E 48), .ref (ea E 49), .ref (ea E 50), .ref (ea E 51), .int (μ 0 1), .int (μ 0 2), .int (μ 0 3), .int (μ 0 4), .ref (ea E 52), .ref (ea E 53)])
  | 1 => .inl (ek E 1, 8, .inl (fun t => bz (μ 1 t)))
  | 2 => .inl (ek E 1, 8, .inl (fun t => bz (μ 2 t)))
  | 3 => .inl (ek E 0, 8, .inl (μ 3))
  | 4 => .inl (ek E 0, 45, .inl (μ 4))
  | 5 => .inl (ek E 0, 5, .inl (μ 5))
  | 6 => .inl (ek E 0, 35, .inl (μ 6))
  | 7 => .inl (ek E 0, 5, .inl (μ 7))
  | _ => .inl (ek E 0, 0, .inl (fun _ => 0))
def vv (E : EV) (σ μ : St) (i : Nat) : va_E :=
  if i < 5 then v0 E σ i else if i < 13 then v1 E σ (i - 5) else if i < 30 then v2 E (i - 13) else if i < 47 then v3 E σ (i - 30) else v4 E μ (i - 47)
theorem vv0 {E : EV} {σ μ : St} {i : Nat} (h : i < 5) : vv E σ μ i = v0 E σ i := by simp only [vv, if_pos h]
theorem vv1 {E : EV} {σ μ : St} {t : Nat} (h : t < 8) : vv E σ μ (5 + t) = v1 E σ t := by
  rw [vv, if_neg (by omega), if_pos (by omega), Nat.add_sub_cancel_left]
theorem vv2 {E : EV} {σ μ : St} {t : Nat} (h : t < 17) : vv E σ μ (13 + t) = v2 E t := by
  rw [vv, if_neg (by omega), if_neg (by omega), if_pos (by omega), Nat.add_sub_cancel_left]
theorem vv3 {E : EV} {σ μ : St} {t : Nat} (h : t < 17) : vv E σ μ (30 + t) = v3 E σ t := by
  rw [vv, if_neg (by omega), if_neg (by omega), if_neg (by omega), if_pos (by omega), Nat.add_sub_cancel_left]
theorem vv4 {E : EV} {σ μ : St} (t : Nat) : vv E σ μ (47 + t) = v4 E μ t := by
  rw [vv, if_neg (by omega), if_neg (by omega), if_neg (by omega), if_neg (by omega), Nat.add_sub_cancel_left]
def cells (E : EV) (σ μ : St) : va_W := (List.range (en E)).map fun i => (ea E i, vv E σ μ i)
theorem cells_at {E : EV} {σ μ : St} {i : Nat} {v : va_E} (hi : i < en E) (hv : vv E σ μ i = v) : (cells E σ μ)[i]? = some (ea E i, v) := by
  simp [cells, hi, hv]
theorem cells_of {E : EV} {σ μ : St} {k : Nat} {q : Nat × va_E} (h : (cells E σ μ)[k]? = some q) : k < en E ∧ q = (ea E k, vv E σ μ k) := by
  have hk : k < en E := by
    have := (List.getElem?_eq_some_iff.mp h).1
    simpa [cells] using this
  refine ⟨hk, ?_⟩
  rw [cells_at hk rfl] at h
  exact (Option.some.inj h).symm
theorem cells_set {E : EV} {σ μ σ' μ' : St} {k : Nat} {v : va_E} (hk : vv E σ' μ' k = v) (ho : ∀ i, i ≠ k → vv E σ' μ' i = vv E σ μ i) : (cells E σ μ).set k (ea E k, v) = cells E σ' μ' := by
  apply List.ext_getElem?
  intro i
  rw [List.getElem?_set]
  by_cases hi : i < en E
  · by_cases hik : k = i
    · subst hik
      rw [if_pos rfl, if_pos (by simpa [cells] using hi), cells_at hi hk]
    · rw [if_neg hik, cells_at hi rfl, cells_at hi rfl, ho i (fun q => hik q.symm)]
  · have h1 : (cells E σ' μ')[i]? = none := by simp [cells]; omega
    have h2 : (cells E σ μ)[i]? = none := by simp [cells]; omega
    rw [h1, h2]
    by_cases hik : k = i
    · subst hik
      rw [if_pos rfl, if_neg (by simpa [cells] using hi)]
    · rw [if_neg hik]
def WD (E : EV) (σ μ : St) (H : Heap) : Prop := va_P (eD E) vwCl (cells E σ μ) H
def AD (E : EV) : Prop := (∀ i j : Nat, i < en E → j < en E → ea E i = ea E j → i = j) ∧ (∀ i : Nat, i < en E → eA E (ea E i)) ∧ 54 ≤ en E
theorem AD.d {E : EV} (h : AD E) (σ μ : St) : va_D (eA E) (cells E σ μ) := by
  refine ⟨fun i j p q hi hj e => ?_, fun k q hk => ?_⟩
  · obtain ⟨h1, rfl⟩ := cells_of hi
    obtain ⟨h2, rfl⟩ := cells_of hj
    exact h.1 i j h1 h2 e
  · obtain ⟨h1, rfl⟩ := cells_of hk
    exact h.2.1 k h1
def KS (E : EV) (U : State) : Prop := va_K (eD E) vwCl (etys E) U ∧ va_Nw (.methodLinkNest RX0 18 yX3_isKind "TillHolds") U ∧ va_Nw (.fieldLinkNest RX0 15 "TillHolds" "WORTHS" "[I" "TillHolds") U
theorem KS.warm {E : EV} {s U : State} (hW : s.WarmedH U.vm) (h : KS E s) : KS E U := ⟨va_K.moved hW.alike h.1, va_Nw.warmM hW h.2.1, va_Nw.warmF hW h.2.2⟩
def SZ (E : EV) (U : State) (H : Heap) : Prop := va_Z "TillHolds" "WORTHS" "[I" (.ref (ez E)) (eA E) U H ∧ va_T .int (ez E) 5 (fun k => .int (wof k)) (eA E) U H
theorem SZ.go {E : EV} {s U : State} {H : Heap} {locs : List Loc} (hW : s.vm.Alike U.vm) (hS : va_S (eA E) s.heap H locs) (h : SZ E s s.heap) : SZ E U H :=
  ⟨va_Z.moved hW (va_Z.kept h.1 (fun a ha hA => hS.2.1 a ha hA)), va_T.moved hW (va_T.kept h.2 (fun a ha hA => hS.2.1 a ha hA))⟩
def PR (E : EV) (σ μ : St) (U : State) : Prop := KS E U ∧ SZ E U U.heap ∧ WD E σ μ U.heap ∧ ∀ q : Nat, U.heap.size ≤ q → eA E q
def HS (E : EV) (s : State) (σ μ : St) (H : Heap) (locs : List Loc) : Prop := WD E σ μ H ∧ va_S (eA E) s.heap H locs
def QI (E : EV) (r : Int32) (σ μ : St) : Array Value → State → Outcome → State → Prop := va_Qi (S := Unit) (fun r' _ => r' = r) (fun _ t => WD E σ μ t.heap) (eA E)
def QV (E : EV) (σ μ : St) : Array Value → State → Outcome → State → Prop := va_Qv (S := Unit) (fun _ => True) (fun _ t => WD E σ μ t.heap) (eA E)
/-- what stays fixed along a walk -/
def Fx (E : EV) (p : Program) (s : State) (m : MethodId) (args : Array Value) (c : Code) (cc : ByteArray) (own : String) (nL : Nat) : Prop :=
  p.tables.exec = Jvm.exec ∧ c.code = cc ∧ c.maxLocals = nL ∧ s.vm.findClass own = some m.cls ∧ (∀ w ∈ gtbl, w.before args s = true) ∧ KS E s ∧ SZ E s s.heap ∧ AD E ∧ (∀ q : Nat, s.heap.size ≤ q → eA E q)
section FXP
variable {E : EV} {p : Program} {s : State} {m : MethodId} {args : Array Value} {c : Code} {cc : ByteArray} {own : String} {nL : Nat}
theorem Fx.hx (F : Fx E p s m args c cc own nL) : p.tables.exec = Jvm.exec := F.1
theorem Fx.hb (F : Fx E p s m args c cc own nL) : c.code = cc := F.2.1
theorem Fx.hml (F : Fx E p s m args c cc own nL) : c.maxLocals = nL := F.2.2.1
theorem Fx.hown (F : Fx E p s m args c cc own nL) : s.vm.findClass own = some m.cls := F.2.2.2.1
theorem Fx.hts (F : Fx E p s m args c cc own nL) : ∀ w ∈ gtbl, w.before args s = true := F.2.2.2.2.1
theorem Fx.ks (F : Fx E p s m args c cc own nL) : KS E s := F.2.2.2.2.2.1
theorem Fx.hK (F : Fx E p s m args c cc own nL) : va_K (eD E) vwCl (etys E) s := F.2.2.2.2.2.1.1
theorem Fx.sz (F : Fx E p s m args c cc own nL) : SZ E s s.heap := F.2.2.2.2.2.2.1
theorem Fx.ad (F : Fx E p s m args c cc own nL) : AD E := F.2.2.2.2.2.2.2.1
theorem Fx.hA (F : Fx E p s m args c cc own nL) : ∀ q : Nat, s.heap.size ≤ q → eA E q := F.2.2.2.2.2.2.2.2
theorem Fx.lt (F : Fx E p s m args c cc own nL) {i : Nat} (h : i < 54) : i < en E := Nat.lt_of_lt_of_le h F.ad.2.2
theorem HS.pr {σ μ : St} {H : Heap} {locs : List Loc} {U : State} (F : Fx E p s m args c cc own nL) (hH : HS E s σ μ H locs) (hU : U.heap = H) (hW : s.WarmedH U.vm) : PR E σ μ U :=
  ⟨F.ks.warm hW, by rw [hU]; exact F.sz.go hW.alike hH.2, by rw [hU]; exact hH.1, fun q h => F.hA q (Nat.le_trans hH.2.1 (by rw [← hU]; exact h))⟩
end FXP
theorem PR.blind {E : EV} {σ μ : St} {vs : List Value} : FrameBlind (va_Pc vs (PR E σ μ)) := fun a U g mk h =>
  ⟨h.1, ⟨va_K.moved (u := U) (U := U.calling g mk a) (Vm.Alike.refl U.vm) h.2.1.1, va_Nw.same rfl (rfl : U.vm = (U.calling g mk a).vm) h.2.1.2.1, va_Nw.same rfl (rfl : U.vm = (U.calling g mk a).vm) h.2.1.2.2⟩,
    ⟨va_Z.moved (u := U) (U := U.calling g mk a) (Vm.Alike.refl U.vm) h.2.2.1.1, va_T.moved (u := U) (U := U.calling g mk a) (Vm.Alike.refl U.vm) h.2.2.1.2⟩, h.2.2.2.1, h.2.2.2.2⟩
/-- a contract out of a walk -/
theorem x_met {l : Launch} {E : EV} {σ μ : St} {y : MethodName} {cc : ByteArray} {maxL : Nat} {ret : Option FieldType} {rm : Room} {vs : List Value} {Qc : Array Value → State → Outcome → State → Prop} {mc ms : Nat} {own : String} (hy : plainName y.cls = true) (hyo : y.cls = own) (hA : AD E) (hlen : (lg_sl vs).length ≤ maxL)
    (body : ∀ (p : Program) (e : Env) (s : State) (m : MethodId) (below : List Frame) (meth : Method) (c : Code) (ls : Array Slot), Fx E p s m vs.toArray c cc own maxL → meth.sig.returnType = ret → meth.locks = false → HS E s σ μ s.heap [] → lv_has ls maxL (lv_args 0 vs) →
      W p l e rm s m vs.toArray below meth c s.heap [] 0 0 (MQ below Qc vs.toArray s mc ms (eA E)) (F0 m 0 ls [])) :
    Met l y (.code y cc maxL ret :: gtbl) rm (va_Pc vs (PR E σ μ)) Qc mc ms (eA E) := by
  refine Met.ofW (cc := cc) (maxL := maxL) (ret := ret) hy rfl ?_
  intro p e s m args below meth c s₁ B hml hv
  obtain ⟨rfl, hK, hZ, hP, hAq⟩ := hv
  have hts := atoms_spec (ws := .code y cc maxL ret :: gtbl) B.pre
  have hown : s.vm.findClass own = some m.cls := by rw [← hyo]; exact findClass_of_methodNamed B.named
  have hl := lv_entry vs (n := maxL) hlen
  rw [lg_entry_eq]
  exact body p e s m below meth c _ ⟨B.exec, B.bytes, hml, hown, fun w hw => hts w (List.mem_cons_of_mem _ hw), hK, hZ, hA, hAq⟩ B.returns B.notSynchronized ⟨hP, va_S.rf⟩ hl
/-- a pure static method's contract -/
def PS (vs : List Value) : Array Value → State → Prop := va_Pc vs (fun _ => True)
theorem x_metS {l : Launch} {y : MethodName} {cc : ByteArray} {maxL : Nat} {ret : Option FieldType} {rm : Room} {vs : List Value} {Qc : Array Value → State → Outcome → State → Prop} (hy : plainName y.cls = true) (hlen : (lg_sl vs).length ≤ maxL)
    (body : ∀ (p : Program) (e : Env) (s : State) (m : MethodId) (below : List Frame) (meth : Method) (c : Code) (ls : Array Slot), p.tables.exec = Jvm.exec → c.code = cc → c.maxLocals = maxL → s.vm.findClass y.cls = some m.cls → (∀ w ∈ gtbl, w.before vs.toArray s = true) → meth.sig.returnType = ret → meth.locks = false → lv_has ls maxL (lv_args 0 vs) →
      W p l e rm s m vs.toArray below meth c s.heap [] 0 0 (MQ below Qc vs.toArray s 0 0 (fun _ => False)) (F0 m 0 ls [])) :
    Met l y (.code y cc maxL ret :: gtbl) rm (PS vs) Qc 0 0 (fun _ => False) := by
  refine Met.ofW (cc := cc) (maxL := maxL) (ret := ret) hy rfl ?_
  intro p e s m args below meth c s₁ B hml hv
  obtain ⟨rfl, -⟩ := hv
  have hts := atoms_spec (ws := .code y cc maxL ret :: gtbl) B.pre
  have hl := lv_entry vs (n := maxL) hlen
  rw [lg_entry_eq]
  exact body p e s m below meth c _ B.exec B.bytes hml (findClass_of_methodNamed B.named) (fun w hw => hts w (List.mem_cons_of_mem _ hw)) B.returns B.notSynchronized hl
abbrev rmL (d : Nat) : Room := { frames := d, cells := 0, slots := 0, locals := 40 * d }
abbrev rmC (d mc ms : Nat) : Room := { frames := d, cells := mc, slots := ms, locals := 40 * d }
/-- the words of a call -/
def CWd (own : String) (idx : Nat) (y : MethodName) (bytes : ByteArray) (maxL : Nat) (ret : Option FieldType) (n : Nat) : Prop :=
  Cond.methodLink own idx y ∈ gtbl ∧ Cond.initialized y.cls ∈ gtbl ∧ Cond.code y bytes maxL ret ∈ gtbl ∧ y.cls ≠ "java/lang/invoke/MethodHandle" ∧ y.cls ≠ "java/lang/invoke/VarHandle" ∧ (parseMethodDescriptor y.desc).map (fun d => d.parameters.length) = some n
def CWv (own : String) (idx : Nat) (y : MethodName) (bytes : ByteArray) (maxL : Nat) (ret : Option FieldType) (n : Nat) : Prop := CWd own idx y bytes maxL ret n ∧ Cond.instanceMethod y ∈ gtbl ∧ Cond.selects y.cls y y ∈ gtbl
def CWs (own : String) (idx : Nat) (y : MethodName) (bytes : ByteArray) (maxL : Nat) (ret : Option FieldType) (n : Nat) : Prop := CWd own idx y bytes maxL ret n ∧ Cond.static y ∈ gtbl
theorem CWd.cb {own : String} {idx : Nat} {y : MethodName} {bytes : ByteArray} {maxL n mc ms : Nat} {ret : Option FieldType} {R rm : Room} {s : State} {args : Array Value} (h : CWd own idx y bytes maxL ret n) (ht : ∀ w ∈ gtbl, w.before args s = true) (hrc : rm.cells = mc) (hrs : rm.slots = ms) (hR : rm.frames + 1 ≤ R.frames ∧ 8 + (maxL + 11) + rm.locals ≤ R.locals) :
    CallB R s args own idx y bytes maxL ret (.code y bytes maxL ret :: gtbl) rm mc ms n :=
  callB_of n ht (gg_1 h.2.2.1) rfl hrc hrs (ht _ h.2.1) (ht _ h.1) ⟨h.2.2.2.1, h.2.2.2.2.1, h.2.2.2.2.2⟩ hR
section XR
variable {p : Program} {l : Launch} {e : Env} {R : Room} {s : State} {m : MethodId} {args : Array Value} {below : List Frame} {meth : Method} {c : Code} {H : Heap} {locs : List Loc} {cells slots : Nat} {Q : State → Prop}
variable {cc : ByteArray} {pc : Nat} {ls : Array Slot} {rest : List Value} {E : EV} {own : String} {nL : Nat} {σ μ : St}
theorem x_top {x y : Int32} (h : x = y) (k : W p l e R s m args below meth c H locs cells slots Q (F0 m pc ls (.int y :: rest))) : W p l e R s m args below meth c H locs cells slots Q (F0 m pc ls (.int x :: rest)) := h ▸ k
theorem x_get (F : Fx E p s m args c cc own nL) (hH : HS E s σ μ H locs) (i : Nat) {ci : Nat} {fs : List Value} (hi : i < en E) (hV : vv E σ μ i = .inr (ci, fs)) {C : String} {T : u_T} {N : Nat} (hc : vwCl[ci]? = some (C, T, N)) (hin : ∀ w ∈ u_ws C T N, w ∈ gtbl) (k : Nat) (hk : k < N) {idx : Nat} (hl : Cond.fieldLink own idx (T k).1 (T k).2.1 (T k).2.2.1 ∈ gtbl) {v : Value} (hv : fs[k]? = some v) (hdg : decode cc pc = .ok (.getfield idx, 3))
    (kk : W p l e R s m args below meth c H locs cells slots Q (F0 m (pc + 3) ls (v :: rest))) : W p l e R s m args below meth c H locs cells slots Q (F0 m pc ls (.ref (ea E i) :: rest)) :=
  va_get (D := eD E) (cl := vwCl) (ci := ci) F.hx F.hb F.hts hin F.hown F.hK hH.1 i (cells_at hi hV) hc k hk (F.hts _ hl) (fun _ h => h) hv hdg kk
theorem x_put (F : Fx E p s m args c cc own nL) (hH : HS E s σ μ H locs) (σ' μ' : St) (i : Nat) {ci : Nat} {fs : List Value} (hi : i < en E) (hV : vv E σ μ i = .inr (ci, fs)) {C : String} {T : u_T} {N : Nat} (hc : vwCl[ci]? = some (C, T, N)) (hin : ∀ w ∈ u_ws C T N, w ∈ gtbl) (ty0 : Nat → FieldType) (hty : ∀ k, k < N → parseFieldDescriptor (T k).2.2.1 = some (ty0 k)) (hnm : ∀ a, a < N → ∀ b, b < N → a ≠ b → (T a).2.1 ≠ (T b).2.1) (k : Nat) (hk : k < N) {idx : Nat} (hl : Cond.fieldLink own idx (T k).1 (T k).2.1 (T k).2.2.1 ∈ gtbl) (hfin : (T k).2.2.2 = false) {v : Value} {ty : FieldType} (hd : parseFieldDescriptor (T k).2.2.1 = some ty) (hn : narrow ty v = v) (hfit : fits ty v = true) (hlen : k < fs.length) (hdg : decode cc pc = .ok (.putfield idx, 3))
    (h1 : vv E σ' μ' i = .inr (ci, fs.set k v)) (h2 : ∀ j, j ≠ i → vv E σ' μ' j = vv E σ μ j)
    (kk : ∀ (H1 : Heap) (locs1 : List Loc), HS E s σ' μ' H1 locs1 → W p l e R s m args below meth c H1 locs1 cells slots Q (F0 m (pc + 3) ls rest)) : W p l e R s m args below meth c H locs cells slots Q (F0 m pc ls (v :: .ref (ea E i) :: rest)) :=
  va_put (D := eD E) (cl := vwCl) (ci := ci) F.hx F.hb F.hts hin ty0 hty hnm F.hown F.hK hH.1 (F.ad.d σ μ) hH.2 i (cells_at hi hV) hc k hk (F.hts _ hl) (fun _ h => h) hfin hd hn hfit hlen hdg (fun H1 locs1 hP _ hS => kk H1 locs1 ⟨by rw [cells_set h1 h2] at hP; exact hP, hS⟩)
theorem x_ild (F : Fx E p s m args c cc own nL) (hH : HS E s σ μ H locs) (i : Nat) {n : Nat} {f : Nat → Int32} (hi : i < en E) (hV : vv E σ μ i = .inl (ek E 0, n, .inl f)) (k : Nat) (hk : k < n) (hn : n < 2 ^ 31) (hdg : decode cc pc = .ok (.iaload, 1))
    (kk : W p l e R s m args below meth c H locs cells slots Q (F0 m (pc + 1) ls (.int (f k) :: rest))) : W p l e R s m args below meth c H locs cells slots Q (F0 m pc ls (.int (nI k) :: .ref (ea E i) :: rest)) :=
  va_iald (D := eD E) (cl := vwCl) F.hx F.hb F.hK hH.1 i 0 (cells_at hi hV) rfl (vp_in_nI hk hn) hdg (by rw [nI_clamp (Nat.lt_trans hk hn)]; exact kk)
theorem x_ist (F : Fx E p s m args c cc own nL) (hH : HS E s σ μ H locs) (σ' μ' : St) (i : Nat) {n : Nat} {f : Nat → Int32} (hi : i < en E) (hV : vv E σ μ i = .inl (ek E 0, n, .inl f)) (k : Nat) (hk : k < n) (hn : n < 2 ^ 31) {x : Int32} (hdg : decode cc pc = .ok (.iastore, 1))
    (h1 : vv E σ' μ' i = .inl (ek E 0, n, .inl (upd f k x))) (h2 : ∀ j, j ≠ i → vv E σ' μ' j = vv E σ μ j)
    (kk : ∀ (H1 : Heap) (locs1 : List Loc), HS E s σ' μ' H1 locs1 → W p l e R s m args below meth c H1 locs1 cells slots Q (F0 m (pc + 1) ls rest)) : W p l e R s m args below meth c H locs cells slots Q (F0 m pc ls (.int x :: .int (nI k) :: .ref (ea E i) :: rest)) :=
  va_iast (D := eD E) (cl := vwCl) F.hx F.hb F.hK hH.1 (F.ad.d σ μ) hH.2 i 0 (cells_at hi hV) rfl (vp_in_nI hk hn) hdg (fun H1 locs1 hP _ hS => kk H1 locs1 ⟨by rw [nI_clamp (Nat.lt_trans hk hn), cells_set h1 h2] at hP; exact hP, hS⟩)
theorem x_zld (F : Fx E p s m args c cc own nL) (hH : HS E s σ μ H locs) (i : Nat) {n : Nat} {f : Nat → Int32} (hi : i < en E) (hV : vv E σ μ i = .inl (ek E 1, n, .inl f)) (k : Nat) (hk : k < n) (hn : n < 2 ^ 31) (hdg : decode cc pc = .ok (.baload, 1))
    (kk : W p l e R s m args below meth c H locs cells slots Q (F0 m (pc + 1) ls (.int (f k) :: rest))) : W p l e R s m args below meth c H locs cells slots Q (F0 m pc ls (.int (nI k) :: .ref (ea E i) :: rest)) :=
  va_zald (D := eD E) (cl := vwCl) F.hx F.hb F.hK hH.1 i 1 (cells_at hi hV) rfl (vp_in_nI hk hn) hdg (by rw [nI_clamp (Nat.lt_trans hk hn)]; exact kk)
theorem x_zst (F : Fx E p s m args c cc own nL) (hH : HS E s σ μ H locs) (σ' μ' : St) (i : Nat) {n : Nat} {f : Nat → Int32} (hi : i < en E) (hV : vv E σ μ i = .inl (ek E 1, n, .inl f)) (k : Nat) (hk : k < n) (hn : n < 2 ^ 31) {x : Int32} (hdg : decode cc pc = .ok (.bastore, 1))
    (h1 : vv E σ' μ' i = .inl (ek E 1, n, .inl (upd f k (vp_nar .boolean x)))) (h2 : ∀ j, j ≠ i → vv E σ' μ' j = vv E σ μ j)
    (kk : ∀ (H1 : Heap) (locs1 : List Loc), HS E s σ' μ' H1 locs1 → W p l e R s m args below meth c H1 locs1 cells slots Q (F0 m (pc + 1) ls rest)) : W p l e R s m args below meth c H locs cells slots Q (F0 m pc ls (.int x :: .int (nI k) :: .ref (ea E i) :: rest)) :=
  va_zast (D := eD E) (cl := vwCl) F.hx F.hb F.hK hH.1 (F.ad.d σ μ) hH.2 i 1 (cells_at hi hV) rfl (vp_in_nI hk hn) hdg (fun H1 locs1 hP _ hS => kk H1 locs1 ⟨by rw [nI_clamp (Nat.lt_trans hk hn), cells_set h1 h2] at hP; exact hP, hS⟩)
theorem x_ald (F : Fx E p s m args c cc own nL) (hH : HS E s σ μ H locs) (i j : Nat) {C : String} {n : Nat} {f : Nat → Option Nat} (hi : i < en E) (hV : vv E σ μ i = .inl (ek E j, n, .inr (.inr (.inr (.inr f))))) (ht : (etys E)[j]? = some (ek E j, .object C)) (k : Nat) {a : Nat} (ha : f k = some a) (hk : k < n) (hn : n < 2 ^ 31) (hdg : decode cc pc = .ok (.aaload, 1))
    (kk : W p l e R s m args below meth c H locs cells slots Q (F0 m (pc + 1) ls (.ref a :: rest))) : W p l e R s m args below meth c H locs cells slots Q (F0 m pc ls (.int (nI k) :: .ref (ea E i) :: rest)) :=
  va_aldq (D := eD E) (cl := vwCl) F.hx F.hb F.hK hH.1 i j (cells_at hi hV) ht (vp_in_nI hk hn) hdg (by rw [nI_clamp (Nat.lt_trans hk hn), ha]; exact kk)
theorem x_wld (F : Fx E p s m args c cc own nL) (hH : HS E s σ μ H locs) (k : Nat) (hk : k < 5) (hdg : decode cc pc = .ok (.iaload, 1))
    (kk : W p l e R s m args below meth c H locs cells slots Q (F0 m (pc + 1) ls (.int (wof k) :: rest))) : W p l e R s m args below meth c H locs cells slots Q (F0 m pc ls (.int (nI k) :: .ref (ez E) :: rest)) := by
  exact va_ti F.hx F.hb F.sz.2 hH.2 (vp_in_nI hk (by decide)) (by rw [nI_clamp (by omega)]) hdg kk
theorem x_wget (F : Fx E p s m args c cc own nL) (hH : HS E s σ μ H locs) {idx : Nat} (hl : Cond.fieldLink own idx "TillHolds" "WORTHS" "[I" ∈ gtbl) (hdg : decode cc pc = .ok (.getstatic idx, 3))
    (kk : W p l e R s m args below meth c H locs cells slots Q (F0 m (pc + 3) ls (.ref (ez E) :: rest))) : W p l e R s m args below meth c H locs cells slots Q (F0 m pc ls rest) :=
  va_gets F.hx F.hb F.sz.1 hH.2 F.hown (F.hts _ hl) (fun _ h => h) hdg kk
theorem x_wgetN (F : Fx E p s m args c cc RX0 nL) (hH : HS E s σ μ H locs) (hdg : decode cc pc = .ok (.getstatic 15, 3))
    (kk : W p l e R s m args below meth c H locs cells slots Q (F0 m (pc + 3) ls (.ref (ez E) :: rest))) : W p l e R s m args below meth c H locs cells slots Q (F0 m pc ls rest) :=
  va_getsN F.hx F.hb F.sz.1 hH.2 F.hown (va_Nw.use rfl F.ks.2.2) (fun _ h => h) hdg kk
/-- calls: of a method on an object of the world, of a static one over the world, of a pure static one -/
theorem x_calliX (F : Fx E p s m args c cc own nL) (hH : HS E s σ μ H locs) (i : Nat) {ci : Nat} {fs : List Value} (hi : i < en E) (hV : vv E σ μ i = .inr (ci, fs)) {T : u_T} {N : Nat} {y : MethodName} (hc : vwCl[ci]? = some (y.cls, T, N)) {bytes : ByteArray} {maxL n idx : Nat} {ret : Option FieldType} {rm : Room} {As : List Value} {P : Int32 × St}
    (hM : Met l y (.code y bytes maxL ret :: gtbl) rm (va_Pc (.ref (ea E i) :: As) (PR E σ μ)) (QI E P.1 P.2 μ) 0 0 (eA E)) (w : CWv own idx y bytes maxL ret n) (hrc : rm.cells = 0) (hrs : rm.slots = 0) (hR : rm.frames + 1 ≤ R.frames ∧ 8 + (maxL + 11) + rm.locals ≤ R.locals) (hn : As.length = n) (hls : ls.size = nL) {st0 : List Value} (hst : st0 = As.reverse ++ .ref (ea E i) :: rest) (hW : (rest.map fun v => v.category).sum ≤ 8) (hf : cells ≤ R.cells ∧ slots ≤ R.slots) (hdg : decode cc pc = .ok (.invokevirtual idx, 3))
    (kk : ∀ (r : Int32) (σ1 : St) (H1 : Heap) (locs1 : List Loc), P = (r, σ1) → HS E s σ1 μ H1 locs1 → W p l e R s m args below meth c H1 locs1 cells slots Q (F0 m (pc + 3) ls (.int r :: rest))) : W p l e R s m args below meth c H locs cells slots Q (F0 m pc ls st0) :=
  va_calli (va_runV (As := As) (rest := rest) (b := ea E i) ⟨F.hx, F.hb, F.hml, F.hown, F.hts⟩ hM ⟨w.1.cb F.hts hrc hrs hR, F.hts _ w.2.1, F.hts _ w.2.2⟩ ⟨PR.blind, va_recv F.hK hH.1 (ci := ci) (q0 := i) hc (cells_at hi hV), fun U hU hW => ⟨rfl, hH.pr F hU hW⟩⟩ rfl hn hls hst (lv_room hW) hdg hf) hH.2 (fun q _ h => h) (fun q h => h)
    (fun r u t H1 locs1 ht hvm hw hB hz1 hk1 hS => kk r P.2 H1 locs1 (by rw [hw]) ⟨by rw [← ht]; exact hB, hS⟩)
theorem x_calliM (F : Fx E p s m args c cc own nL) (hH : HS E s σ μ H locs) (i : Nat) {ci : Nat} {fs : List Value} (hi : i < en E) (hV : vv E σ μ i = .inr (ci, fs)) {T : u_T} {N : Nat} {y : MethodName} (hc : vwCl[ci]? = some (y.cls, T, N)) {bytes : ByteArray} {maxL n idx : Nat} {ret : Option FieldType} {rm : Room} {As : List Value} {P : Int32 × St}
    (hM : Met l y (.code y bytes maxL ret :: gtbl) rm (va_Pc (.ref (ea E i) :: As) (PR E σ μ)) (QI E P.1 σ P.2) 0 0 (eA E)) (w : CWv own idx y bytes maxL ret n) (hrc : rm.cells = 0) (hrs : rm.slots = 0) (hR : rm.frames + 1 ≤ R.frames ∧ 8 + (maxL + 11) + rm.locals ≤ R.locals) (hn : As.length = n) (hls : ls.size = nL) {st0 : List Value} (hst : st0 = As.reverse ++ .ref (ea E i) :: rest) (hW : (rest.map fun v => v.category).sum ≤ 8) (hf : cells ≤ R.cells ∧ slots ≤ R.slots) (hdg : decode cc pc = .ok (.invokevirtual idx, 3))
    (kk : ∀ (r : Int32) (μ1 : St) (H1 : Heap) (locs1 : List Loc), P = (r, μ1) → HS E s σ μ1 H1 locs1 → W p l e R s m args below meth c H1 locs1 cells slots Q (F0 m (pc + 3) ls (.int r :: rest))) : W p l e R s m args below meth c H locs cells slots Q (F0 m pc ls st0) :=
  va_calli (va_runV (As := As) (rest := rest) (b := ea E i) ⟨F.hx, F.hb, F.hml, F.hown, F.hts⟩ hM ⟨w.1.cb F.hts hrc hrs hR, F.hts _ w.2.1, F.hts _ w.2.2⟩ ⟨PR.blind, va_recv F.hK hH.1 (ci := ci) (q0 := i) hc (cells_at hi hV), fun U hU hW => ⟨rfl, hH.pr F hU hW⟩⟩ rfl hn hls hst (lv_room hW) hdg hf) hH.2 (fun q _ h => h) (fun q h => h)
    (fun r u t H1 locs1 ht hvm hw hB hz1 hk1 hS => kk r P.2 H1 locs1 (by rw [hw]) ⟨by rw [← ht]; exact hB, hS⟩)
/-- a call that leaves the world as it is: the answer alone -/
theorem x_calliR (F : Fx E p s m args c cc own nL) (hH : HS E s σ μ H locs) (i : Nat) {ci : Nat} {fs : List Value} (hi : i < en E) (hV : vv E σ μ i = .inr (ci, fs)) {T : u_T} {N : Nat} {y : MethodName} (hc : vwCl[ci]? = some (y.cls, T, N)) {bytes : ByteArray} {maxL n idx : Nat} {ret : Option FieldType} {rm : Room} {As : List Value} {r : Int32}
    (hM : Met l y (.code y bytes maxL ret :: gtbl) rm (va_Pc (.ref (ea E i) :: As) (PR E σ μ)) (QI E r σ μ) 0 0 (eA E)) (w : CWv own idx y bytes maxL ret n) (hrc : rm.cells = 0) (hrs : rm.slots = 0) (hR : rm.frames + 1 ≤ R.frames ∧ 8 + (maxL + 11) + rm.locals ≤ R.locals) (hn : As.length = n) (hls : ls.size = nL) {st0 : List Value} (hst : st0 = As.reverse ++ .ref (ea E i) :: rest) (hW : (rest.map fun v => v.category).sum ≤ 8) (hf : cells ≤ R.cells ∧ slots ≤ R.slots) (hdg : decode cc pc = .ok (.invokevirtual idx, 3))
    (kk : ∀ (H1 : Heap) (locs1 : List Loc), HS E s σ μ H1 locs1 → W p l e R s m args below meth c H1 locs1 cells slots Q (F0 m (pc + 3) ls (.int r :: rest))) : W p l e R s m args below meth c H locs cells slots Q (F0 m pc ls st0) :=
  va_calli (va_runV (As := As) (rest := rest) (b := ea E i) ⟨F.hx, F.hb, F.hml, F.hown, F.hts⟩ hM ⟨w.1.cb F.hts hrc hrs hR, F.hts _ w.2.1, F.hts _ w.2.2⟩ ⟨PR.blind, va_recv F.hK hH.1 (ci := ci) (q0 := i) hc (cells_at hi hV), fun U hU hW => ⟨rfl, hH.pr F hU hW⟩⟩ rfl hn hls hst (lv_room hW) hdg hf) hH.2 (fun q _ h => h) (fun q h => h)
    (fun r' u t H1 locs1 ht hvm hw hB hz1 hk1 hS => by rw [hw]; exact kk H1 locs1 ⟨by rw [← ht]; exact hB, hS⟩)
theorem x_callv (F : Fx E p s m args c cc own nL) (hH : HS E s σ μ H locs) (i : Nat) {ci : Nat} {fs : List Value} (hi : i < en E) (hV : vv E σ μ i = .inr (ci, fs)) {T : u_T} {N : Nat} {y : MethodName} (hc : vwCl[ci]? = some (y.cls, T, N)) {bytes : ByteArray} {maxL n idx : Nat} {ret : Option FieldType} {rm : Room} {As : List Value} {σ' μ' : St}
    (hM : Met l y (.code y bytes maxL ret :: gtbl) rm (va_Pc (.ref (ea E i) :: As) (PR E σ μ)) (QV E σ' μ') 0 0 (eA E)) (w : CWv own idx y bytes maxL ret n) (hrc : rm.cells = 0) (hrs : rm.slots = 0) (hR : rm.frames + 1 ≤ R.frames ∧ 8 + (maxL + 11) + rm.locals ≤ R.locals) (hn : As.length = n) (hls : ls.size = nL) {st0 : List Value} (hst : st0 = As.reverse ++ .ref (ea E i) :: rest) (hW : (rest.map fun v => v.category).sum ≤ 8) (hf : cells ≤ R.cells ∧ slots ≤ R.slots) (hdg : decode cc pc = .ok (.invokevirtual idx, 3))
    (kk : ∀ (H1 : Heap) (locs1 : List Loc), HS E s σ' μ' H1 locs1 → W p l e R s m args below meth c H1 locs1 cells slots Q (F0 m (pc + 3) ls rest)) : W p l e R s m args below meth c H locs cells slots Q (F0 m pc ls st0) :=
  va_callv (va_runV (As := As) (rest := rest) (b := ea E i) ⟨F.hx, F.hb, F.hml, F.hown, F.hts⟩ hM ⟨w.1.cb F.hts hrc hrs hR, F.hts _ w.2.1, F.hts _ w.2.2⟩ ⟨PR.blind, va_recv F.hK hH.1 (ci := ci) (q0 := i) hc (cells_at hi hV), fun U hU hW => ⟨rfl, hH.pr F hU hW⟩⟩ rfl hn hls hst (lv_room hW) hdg hf) hH.2 (fun q _ h => h) (fun q h => h)
    (fun u t H1 locs1 ht hvm hw hB hz1 hk1 hS => kk H1 locs1 ⟨by rw [← ht]; exact hB, hS⟩)
theorem x_callsX (F : Fx E p s m args c cc own nL) (hH : HS E s σ μ H locs) {y : MethodName} {bytes : ByteArray} {maxL n idx : Nat} {ret : Option FieldType} {rm : Room} {As : List Value} {P : Int32 × St}
    (hM : Met l y (.code y bytes maxL ret :: gtbl) rm (va_Pc As (PR E σ μ)) (QI E P.1 P.2 μ) 0 0 (eA E)) (w : CWs own idx y bytes maxL ret n) (hrc : rm.cells = 0) (hrs : rm.slots = 0) (hR : rm.frames + 1 ≤ R.frames ∧ 8 + (maxL + 11) + rm.locals ≤ R.locals) (hn : As.length = n) (hls : ls.size = nL) {st0 : List Value} (hst : st0 = As.reverse ++ rest) (hW : (rest.map fun v => v.category).sum ≤ 8) (hf : cells ≤ R.cells ∧ slots ≤ R.slots) (hdg : decode cc pc = .ok (.invokestatic idx, 3))
    (kk : ∀ (r : Int32) (σ1 : St) (H1 : Heap) (locs1 : List Loc), P = (r, σ1) → HS E s σ1 μ H1 locs1 → W p l e R s m args below meth c H1 locs1 cells slots Q (F0 m (pc + 3) ls (.int r :: rest))) : W p l e R s m args below meth c H locs cells slots Q (F0 m pc ls st0) :=
  va_calli (va_runS (As := As) (rest := rest) ⟨F.hx, F.hb, F.hml, F.hown, F.hts⟩ hM ⟨w.1.cb F.hts hrc hrs hR, F.hts _ w.2⟩ ⟨PR.blind, fun U hU hW => ⟨rfl, hH.pr F hU hW⟩⟩ rfl hn hls hst (lv_room hW) hdg hf) hH.2 (fun q _ h => h) (fun q h => h)
    (fun r u t H1 locs1 ht hvm hw hB hz1 hk1 hS => kk r P.2 H1 locs1 (by rw [hw]) ⟨by rw [← ht]; exact hB, hS⟩)
theorem x_callsR (F : Fx E p s m args c cc own nL) (hH : HS E s σ μ H locs) {y : MethodName} {bytes : ByteArray} {maxL n idx : Nat} {ret : Option FieldType} {rm : Room} {As : List Value} {r : Int32}
    (hM : Met l y (.code y bytes maxL ret :: gtbl) rm (va_Pc As (PR E σ μ)) (QI E r σ μ) 0 0 (eA E)) (w : CWs own idx y bytes maxL ret n) (hrc : rm.cells = 0) (hrs : rm.slots = 0) (hR : rm.frames + 1 ≤ R.frames ∧ 8 + (maxL + 11) + rm.locals ≤ R.locals) (hn : As.length = n) (hls : ls.size = nL) {st0 : List Value} (hst : st0 = As.reverse ++ rest) (hW : (rest.map fun v => v.category).sum ≤ 8) (hf : cells ≤ R.cells ∧ slots ≤ R.slots) (hdg : decode cc pc = .ok (.invokestatic idx, 3))
    (kk : ∀ (H1 : Heap) (locs1 : List Loc), HS E s σ μ H1 locs1 → W p l e R s m args below meth c H1 locs1 cells slots Q (F0 m (pc + 3) ls (.int r :: rest))) : W p l e R s m args below meth c H locs cells slots Q (F0 m pc ls st0) :=
  va_calli (va_runS (As := As) (rest := rest) ⟨F.hx, F.hb, F.hml, F.hown, F.hts⟩ hM ⟨w.1.cb F.hts hrc hrs hR, F.hts _ w.2⟩ ⟨PR.blind, fun U hU hW => ⟨rfl, hH.pr F hU hW⟩⟩ rfl hn hls hst (lv_room hW) hdg hf) hH.2 (fun q _ h => h) (fun q h => h)
    (fun r' u t H1 locs1 ht hvm hw hB hz1 hk1 hS => by rw [hw]; exact kk H1 locs1 ⟨by rw [← ht]; exact hB, hS⟩)
theorem x_runP {rest : List Value} {st0 : List Value} {a : Array Value} {r : Int32} (hr : va_Run p l e R s m args below meth c H locs cells slots 0 0 (F0 m pc ls st0) rest (QcRead r a) (fun _ => False))
    (kk : W p l e R s m args below meth c H locs cells slots Q (F0 m (pc + 3) ls (.int r :: rest))) : W p l e R s m args below meth c H locs cells slots Q (F0 m pc ls st0) := by
  intro T hT X
  obtain ⟨v, st₀, t, T', L, h0, X', hL, e1, e2, ⟨hv, hh⟩, st⟩ := hr T hT X
  cases hv
  have hLn : L = [] := by
    cases L with
    | nil => rfl
    | cons q _ => exact absurd (hL q List.mem_cons_self) id
  subst hLn
  rw [List.append_nil] at X'
  obtain ⟨t2, a1, b1⟩ := kk T' (by rw [e1, hh, h0]) X'
  exact ⟨t2, st t2 a1, b1⟩
theorem x_pure (hx : p.tables.exec = Jvm.exec) (hb : c.code = cc) (hml : c.maxLocals = nL) (hown : s.vm.findClass own = some m.cls) (hts : ∀ w ∈ gtbl, w.before args s = true) {y : MethodName} {bytes : ByteArray} {maxL n idx : Nat} {ret : Option FieldType} {rm : Room} {As : List Value} {r : Int32}
    (hM : Met l y (.code y bytes maxL ret :: gtbl) rm (PS As) (QcRead r) 0 0 (fun _ => False)) (w : CWs own idx y bytes maxL ret n) (hrc : rm.cells = 0) (hrs : rm.slots = 0) (hR : rm.frames + 1 ≤ R.frames ∧ 8 + (maxL + 11) + rm.locals ≤ R.locals) (hn : As.length = n) (hls : ls.size = nL) {st0 : List Value} (hst : st0 = As.reverse ++ rest) (hW : (rest.map fun v => v.category).sum ≤ 8) (hf : cells ≤ R.cells ∧ slots ≤ R.slots) (hdg : decode cc pc = .ok (.invokestatic idx, 3))
    (kk : W p l e R s m args below meth c H locs cells slots Q (F0 m (pc + 3) ls (.int r :: rest))) : W p l e R s m args below meth c H locs cells slots Q (F0 m pc ls st0) :=
  x_runP (va_runS (As := As) (rest := rest) ⟨hx, hb, hml, hown, hts⟩ hM ⟨w.1.cb hts hrc hrs hR, hts _ w.2⟩ ⟨fun a U g mk h => h, fun U hU hW => ⟨rfl, trivial⟩⟩ rfl hn hls hst (lv_room hW) hdg hf) kk
theorem x_pureN (F : Fx E p s m args c cc RX0 nL) {bytes : ByteArray} {maxL : Nat} {ret : Option FieldType} {rm : Room} {As : List Value} {r : Int32}
    (hM : Met l yX3_isKind (.code yX3_isKind bytes maxL ret :: gtbl) rm (PS As) (QcRead r) 0 0 (fun _ => False)) (hcd : Cond.code yX3_isKind bytes maxL ret ∈ gtbl) (hst : Cond.static yX3_isKind ∈ gtbl) (hini : Cond.initialized yX3_isKind.cls ∈ gtbl) (hrc : rm.cells = 0) (hrs : rm.slots = 0) (hR : rm.frames + 1 ≤ R.frames ∧ 8 + (maxL + 11) + rm.locals ≤ R.locals) (hn : As.length = 1) (hls : ls.size = nL) {st0 : List Value} (hs0 : st0 = As.reverse ++ rest) (hW : (rest.map fun v => v.category).sum ≤ 8) (hf : cells ≤ R.cells ∧ slots ≤ R.slots) (hdg : decode cc pc = .ok (.invokestatic 18, 3))
    (kk : W p l e R s m args below meth c H locs cells slots Q (F0 m (pc + 3) ls (.int r :: rest))) : W p l e R s m args below meth c H locs cells slots Q (F0 m pc ls st0) :=
  x_runP (va_runSN (As := As) (rest := rest) (host := "TillHolds") ⟨F.hx, F.hb, F.hml, F.hown, F.hts⟩ hM ⟨va_cnB 1 F.hts (gg_1 hcd) rfl hrc hrs F.ks.2.1 (F.hts _ hini) (by decide +kernel) hR, F.hts _ hst, trivial⟩ ⟨fun a U g mk h => h, fun U hU hW => ⟨rfl, trivial⟩⟩ rfl hn hls hs0 (lv_room hW) hdg hf) kk
/-- ends -/
theorem x_iretX (F : Fx E p s m args c cc own nL) (hr : meth.sig.returnType = some .int) (hlk : meth.locks = false) (hH : HS E s σ μ H locs) {v : Int32} {P : Int32 × St} (hP : P = (v, σ)) (hdg : decode cc pc = .ok (.ireturn, 1)) : W p l e R s m args below meth c H locs 0 0 (MQ below (QI E P.1 P.2 μ) args s 0 0 (eA E)) (F0 m pc ls [.int v]) := by
  subst hP
  exact W.iret (v := v) F.hx F.hb hr (fun t ht hW => ⟨⟨v, (), rfl, rfl, by subst ht; exact hH.1⟩, hH.2.F ht⟩) hH.2.2.2 hdg
theorem x_iretM (F : Fx E p s m args c cc own nL) (hr : meth.sig.returnType = some .int) (hlk : meth.locks = false) (hH : HS E s σ μ H locs) {v : Int32} {P : Int32 × St} (hP : P = (v, μ)) (hdg : decode cc pc = .ok (.ireturn, 1)) : W p l e R s m args below meth c H locs cells slots (MQ below (QI E P.1 σ P.2) args s cells slots (eA E)) (F0 m pc ls [.int v]) := by
  subst hP
  exact W.iret (v := v) F.hx F.hb hr (fun t ht hW => ⟨⟨v, (), rfl, rfl, by subst ht; exact hH.1⟩, hH.2.F ht⟩) hH.2.2.2 hdg
theorem x_iretR (F : Fx E p s m args c cc own nL) (hr : meth.sig.returnType = some .int) (hlk : meth.locks = false) (hH : HS E s σ μ H locs) {v r : Int32} (hP : r = v) (hdg : decode cc pc = .ok (.ireturn, 1)) : W p l e R s m args below meth c H locs 0 0 (MQ below (QI E r σ μ) args s 0 0 (eA E)) (F0 m pc ls [.int v]) := by
  subst hP
  exact W.iret (v := r) F.hx F.hb hr (fun t ht hW => ⟨⟨r, (), rfl, rfl, by subst ht; exact hH.1⟩, hH.2.F ht⟩) hH.2.2.2 hdg
theorem x_zretX (F : Fx E p s m args c cc own nL) (hr : meth.sig.returnType = some .boolean) (hlk : meth.locks = false) (hH : HS E s σ μ H locs) {v : Int32} (hn : narrow .boolean (.int v) = .int v) {P : Int32 × St} (hP : P = (v, σ)) (hdg : decode cc pc = .ok (.ireturn, 1)) : W p l e R s m args below meth c H locs 0 0 (MQ below (QI E P.1 P.2 μ) args s 0 0 (eA E)) (F0 m pc ls [.int v]) := by
  subst hP
  exact W.zret (v := v) F.hx F.hb hr hn (fun t ht hW => ⟨⟨v, (), rfl, rfl, by subst ht; exact hH.1⟩, hH.2.F ht⟩) hH.2.2.2 hdg
theorem x_zretR (F : Fx E p s m args c cc own nL) (hr : meth.sig.returnType = some .boolean) (hlk : meth.locks = false) (hH : HS E s σ μ H locs) {v r : Int32} (hn : narrow .boolean (.int v) = .int v) (hP : r = v) (hdg : decode cc pc = .ok (.ireturn, 1)) : W p l e R s m args below meth c H locs 0 0 (MQ below (QI E r σ μ) args s 0 0 (eA E)) (F0 m pc ls [.int v]) := by
  subst hP
  exact W.zret (v := r) F.hx F.hb hr hn (fun t ht hW => ⟨⟨r, (), rfl, rfl, by subst ht; exact hH.1⟩, hH.2.F ht⟩) hH.2.2.2 hdg
theorem x_vret (F : Fx E p s m args c cc own nL) (hr : meth.sig.returnType = none) (hlk : meth.locks = false) (hH : HS E s σ μ H locs) {σ' μ' : St} (h1 : σ' = σ) (h2 : μ' = μ) (hdg : decode cc pc = .ok (.return_, 1)) : W p l e R s m args below meth c H locs 0 0 (MQ below (QV E σ' μ') args s 0 0 (eA E)) (F0 m pc ls []) := by
  subst h1; subst h2
  exact W.vret F.hx F.hb hr (fun t ht hW => ⟨⟨(), rfl, trivial, by subst ht; exact hH.1⟩, hH.2.F ht⟩) hH.2.2.2 hdg
theorem x_pret (hx : p.tables.exec = Jvm.exec) (hb : c.code = cc) (hr : meth.sig.returnType = some .int) (hlk : meth.locks = false) {v r : Int32} (hP : r = v) (hdg : decode cc pc = .ok (.ireturn, 1)) : W p l e R s m args below meth c s.heap [] 0 0 (MQ below (QcRead r) args s 0 0 (fun _ => False)) (F0 m pc ls [.int v]) := by
  subst hP
  exact W.iret (v := r) hx hb hr (fun t ht hW => ⟨rfl, ht⟩) (fun q h => by cases h) hdg
theorem x_pretZ (hx : p.tables.exec = Jvm.exec) (hb : c.code = cc) (hr : meth.sig.returnType = some .boolean) (hlk : meth.locks = false) {v r : Int32} (hn : narrow .boolean (.int v) = .int v) (hP : r = v) (hdg : decode cc pc = .ok (.ireturn, 1)) : W p l e R s m args below meth c s.heap [] 0 0 (MQ below (QcRead r) args s 0 0 (fun _ => False)) (F0 m pc ls [.int v]) := by
  subst hP
  exact W.zret (v := r) hx hb hr hn (fun t ht hW => ⟨rfl, ht⟩) (fun q h => by cases h) hdg
end XR
