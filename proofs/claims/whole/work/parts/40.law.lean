/-! THE CLAIM OUT OF ONE WALK OF THE LAW'S BODY. Your part is whole_start (and what it stands on); all else here is the same for every law, but numbers. -/
def R_law : String := "TillHoldsLaw"
def lw_P (b : Addr) (xs : List Int32) (args : Array Value) (s : State) : Prop := args = #[.ref b] ∧ s.IntsAt b xs ∧ xs.length ≤ 2560 ∧ (Jvm.Cond.and given_1 narrow_1).before args s = true
def lw_Q (_ : Array Value) (s : State) (o : Outcome) (t : State) : Prop := o = .returned (some (.int 1)) ∧ Framed s o t [] 680474 7060826
def lw_Z (below : List Frame) (a : Array Value) (s : State) : State → Prop := fun t => ∃ o, t.status = .running ∧ Ended t below o ∧ lw_Q a s o t
/-- the law's own end, with 1 on the stack, nothing written that was there before, its room as the claim has it -/
theorem lw_ret {p : Program} {l : Launch} {e : Env} {s : State} {m : MethodId} {below : List Frame} {meth : Method} {c : Code} {b : Nat} (hx : p.tables.exec = Jvm.exec) (hb : c.code = code) (hr : meth.sig.returnType = ret) (hlocks : meth.locks = false) {pc : Nat} {H : Heap} {ls : Array Slot} (hdg : decode code pc = .ok (.ireturn, 1)) : W p l e room_1 s m #[Value.ref b] below meth c H [] 680474 7060826 (lw_Z below #[Value.ref b] s) (F0 m pc ls [.int 1]) := by
  intro T hT X
  obtain ⟨fs, hret, hrun, hended, hW, hframe⟩ := X.leave (v := some (.int 1)) (hlocks := hlocks) (fun h => by rw [hr] at h; cases h)
  have hmeth' : T.vm.method? m = some meth := X.method'
  refine ⟨T.setFrames fs, ?_, .returned (some (.int 1)), hrun, hended, rfl, ⟨_, rfl⟩, hW, hframe⟩
  jvm_step X.here [X.here.top, hx, hb, hdg, hmeth', hr, ret, narrow_b1]
  (try refine ⟨rfl, ?_⟩); (try refine ⟨rfl, ?_⟩)
  first | (intro acts; rw [hret _ acts rfl rfl rfl]) | rw [hret _ _ rfl rfl rfl]
  exact Steps.refl _
/-- what holds at the law's entry: the machine, the code, the tables' words (any of lw_tbl by 'hts w (by decide +kernel)'), the script of L ints xs at the cell b, what the Statement gives of the start (any of its parts by flat_of_before) -/
def lw_At (p : Program) (s : State) (m : MethodId) (meth : Method) (c : Code) (b L : Nat) (xs : Nat → Int32) : Prop :=
  p.tables.exec = Jvm.exec ∧ c.code = code ∧ meth.sig.returnType = ret ∧ c.maxLocals = 4 ∧ s.vm.findClass R_law = some m.cls ∧ (∀ w ∈ lw_tbl, w.before #[Value.ref b] s = true) ∧ va_X b L xs s s.heap ∧ b < s.heap.size ∧ meth.locks = false ∧ (Jvm.Cond.and given_1 narrow_1).before #[Value.ref b] s = true

theorem x_calliMm {p : Program} {l : Launch} {e : Env} {R : Room} {s : State} {m : MethodId} {args : Array Value} {below : List Frame} {meth : Method} {c : Code} {H : Heap} {locs : List Loc} {nc ns mc ms : Nat} {Q : State → Prop} {cc : ByteArray} {pc : Nat} {ls : Array Slot} {rest : List Value} {E : EV} {own : String} {nL : Nat} {σ μ : St} (F : Fx E p s m args c cc own nL) (hH : HS E s σ μ H locs) (i : Nat) {ci : Nat} {fs : List Value} (hi : i < en E) (hV : vv E σ μ i = .inr (ci, fs)) {T : u_T} {N : Nat} {y : MethodName} (hc : vwCl[ci]? = some (y.cls, T, N)) {bytes : ByteArray} {maxL n idx : Nat} {ret : Option FieldType} {rm : Room} {As : List Value} {P : Int32 × St}
    (hM : Met l y (.code y bytes maxL ret :: gtbl) rm (va_Pc (.ref (ea E i) :: As) (PR E σ μ)) (QI E P.1 σ P.2) mc ms (eA E)) (w : CWv own idx y bytes maxL ret n) (hrc : rm.cells = mc) (hrs : rm.slots = ms) (hR : rm.frames + 1 ≤ R.frames ∧ 8 + (maxL + 11) + rm.locals ≤ R.locals) (hn : As.length = n) (hls : ls.size = nL) {st0 : List Value} (hst : st0 = As.reverse ++ .ref (ea E i) :: rest) (hW : (rest.map fun v => v.category).sum ≤ 8) (hf : nc + mc ≤ R.cells ∧ ns + ms ≤ R.slots) (hdg : decode cc pc = .ok (.invokevirtual idx, 3))
    (kk : ∀ (r : Int32) (μ1 : St) (H1 : Heap) (locs1 : List Loc), P = (r, μ1) → HS E s σ μ1 H1 locs1 → W p l e R s m args below meth c H1 locs1 (nc + mc) (ns + ms) Q (F0 m (pc + 3) ls (.int r :: rest))) : W p l e R s m args below meth c H locs nc ns Q (F0 m pc ls st0) :=
  va_calli (va_runV (As := As) (rest := rest) (b := ea E i) ⟨F.hx, F.hb, F.hml, F.hown, F.hts⟩ hM ⟨w.1.cb F.hts hrc hrs hR, F.hts _ w.2.1, F.hts _ w.2.2⟩ ⟨PR.blind, va_recv F.hK hH.1 (ci := ci) (q0 := i) hc (cells_at hi hV), fun U hU hW => ⟨rfl, hH.pr F hU hW⟩⟩ rfl hn hls hst (lv_room hW) hdg hf) hH.2 (fun q _ h => h) (fun q h => h)
    (fun r u t H1 locs1 ht hvm hw hB hz1 hk1 hS => kk r P.2 H1 locs1 (by rw [hw]) ⟨by rw [← ht]; exact hB, hS⟩)
theorem law_more {L j : Nat} (hL : L ≤ 2560) (hj : 5 * j ≤ L) (h : ¬ (nI L - 5 < nI (5 * j))) : 5 * j + 5 ≤ L := by
  rw [Int32.lt_iff_toInt_lt, show (5 : Int32) = nI 5 from rfl, pk_sub_toInt (by omega) (by omega), nI_toInt (by omega)] at h
  omega
set_option maxRecDepth 100000 in
set_option maxHeartbeats 8000000 in
theorem law_c0 {p : Program} {l : Launch} {e : Env} {s : State} {m : MethodId} {below : List Frame} {meth : Method} {c : Code} {b L : Nat} {xs : Nat → Int32} (hL : L ≤ 2560) (C0 : lw_At p s m meth c b L xs) {E : EV} (F : Fx E p s m #[Value.ref b] c code RL 4) (h54 : en E = 54) (hAE : eA E = fun q => s.heap.size ≤ q) (n : Nat) (ih : ∀ (j : Nat) (σ μ : St) (H : Heap) (locs : List Loc) (ls : Array Slot), 5 * j ≤ L → j + n = 513 → Rel σ μ → HS E s σ μ H locs → lv_has ls 4 [(0, .ref b), (1, .ref (ea E 0)), (2, .ref (ea E 47)), (3, .int (nI (5 * j)))] → W p l e room_1 s m #[Value.ref b] below meth c H locs (54 + j) (285 + 5 * j) (lw_Z below #[Value.ref b] s) (F0 m 18 ls [])) (j : Nat) (σ μ : St) (H : Heap) (locs : List Loc) (ls : Array Slot) (hj : 5 * j ≤ L) (hjn : j + (n + 1) = 513) (hR : Rel σ μ) (hH : HS E s σ μ H locs) (hl : lv_has ls 4 [(0, .ref b), (1, .ref (ea E 0)), (2, .ref (ea E 47)), (3, .int (nI (5 * j)))]) (hmore : 5 * j + 5 ≤ L) (x : Int32) (hv : x = nI 0) : W p l e room_1 s m #[Value.ref b] below meth c H locs (54 + j) (285 + 5 * j) (lw_Z below #[Value.ref b] s) (F0 m 32 ls [.int x]) := by
  obtain ⟨hx, hb, hr, hml, hown, hts, hX, hbl, hlocks, hgv⟩ := C0
  have hbA : ¬ eA E b := by rw [hAE]; exact Nat.not_le.mpr hbl
  refine lv_tableIn (off := 64) (tgt := 96) hx hb dL_law_32 (by rw [hv]; decide) (by rw [hv]; decide) (by rw [hv]; rfl) (by decide) ?_
  refine W.eq (g2 := F0 m 96 ls []) rfl ?_
  refine lv_aload_n hx hb dL_law_96 rfl (lv_at hl 1 rfl) ?_
  refine lv_aload_n hx hb dL_law_97 rfl (lv_at hl 0 rfl) ?_
  refine lv_iload_n hx hb dL_law_98 rfl (lv_at hl 3 rfl) ?_
  refine lv_iconst (v := 1) hx hb dL_law_99 (by decide) ?_
  refine lv_iadd hx hb dL_law_100 ?_
  refine x_top (nI_add (5 * j) 1) ?_
  refine va_sld hx hb hX hbl hbA hH.2 (vp_in_nI (show (5 * j) + 1 < L by omega) (by omega)) dL_law_101 ?_
  rw [nI_clamp (by omega)]
  refine lv_aload_n hx hb dL_law_102 rfl (lv_at hl 0 rfl) ?_
  refine lv_iload_n hx hb dL_law_103 rfl (lv_at hl 3 rfl) ?_
  refine lv_iconst (v := 2) hx hb dL_law_104 (by decide) ?_
  refine lv_iadd hx hb dL_law_105 ?_
  refine x_top (nI_add (5 * j) 2) ?_
  refine va_sld hx hb hX hbl hbA hH.2 (vp_in_nI (show (5 * j) + 2 < L by omega) (by omega)) dL_law_106 ?_
  rw [nI_clamp (by omega)]
  refine x_calliX F hH 0 (F.lt (by omega)) (vv0 (by decide)) rfl (c_X3_till l F.ad σ μ (xs ((5 * j) + 1)) (xs ((5 * j) + 2))) cw_L_13 rfl rfl ⟨Nat.le_of_ble_eq_true rfl, Nat.le_of_ble_eq_true rfl⟩ rfl hl.1 rfl (Nat.le_of_ble_eq_true rfl) ⟨(show 54 + j ≤ 680474 by omega), (show 285 + 5 * j ≤ 7060826 by omega)⟩ dL_law_107 (fun r_1 s_2 H locs e_3 hH => ?_)
  refine lv_aload_n hx hb dL_law_110 rfl (lv_at hl 2 rfl) ?_
  refine lv_aload_n hx hb dL_law_111 rfl (lv_at hl 0 rfl) ?_
  refine lv_iload_n hx hb dL_law_112 rfl (lv_at hl 3 rfl) ?_
  refine lv_iconst (v := 1) hx hb dL_law_113 (by decide) ?_
  refine lv_iadd hx hb dL_law_114 ?_
  refine x_top (nI_add (5 * j) 1) ?_
  refine va_sld hx hb hX hbl hbA hH.2 (vp_in_nI (show (5 * j) + 1 < L by omega) (by omega)) dL_law_115 ?_
  rw [nI_clamp (by omega)]
  refine lv_aload_n hx hb dL_law_116 rfl (lv_at hl 0 rfl) ?_
  refine lv_iload_n hx hb dL_law_117 rfl (lv_at hl 3 rfl) ?_
  refine lv_iconst (v := 2) hx hb dL_law_118 (by decide) ?_
  refine lv_iadd hx hb dL_law_119 ?_
  refine x_top (nI_add (5 * j) 2) ?_
  refine va_sld hx hb hX hbl hbA hH.2 (vp_in_nI (show (5 * j) + 2 < L by omega) (by omega)) dL_law_120 ?_
  rw [nI_clamp (by omega)]
  refine x_calliM F hH 47 (F.lt (by omega)) (vv4 0) rfl (c_X4_till l F.ad s_2 μ (xs ((5 * j) + 1)) (xs ((5 * j) + 2))) cw_L_17 rfl rfl ⟨Nat.le_of_ble_eq_true rfl, Nat.le_of_ble_eq_true rfl⟩ rfl hl.1 rfl (Nat.le_of_ble_eq_true rfl) ⟨(show 54 + j ≤ 680474 by omega), (show 285 + 5 * j ≤ 7060826 by omega)⟩ dL_law_121 (fun r_4 s_5 H locs e_6 hH => ?_)
  have hr := rel_till hR (xs ((5 * j) + 1)) (xs ((5 * j) + 2))
  rw [e_3, e_6] at hr
  obtain ⟨hq, hR⟩ := hr
  refine lv_icmp_eq (tgt := 550) hx hb dL_law_124 (by decide) (fun _ => ?_) (fun h => absurd hq h)
  refine lv_iinc (v := nI (5 * (j + 1))) (lv' := [(3, .int (nI (5 * (j + 1)))), (0, .ref b), (1, .ref (ea E 0)), (2, .ref (ea E 47))]) hx hb dL_law_550 hl (k := 3) rfl ((nI_add (5 * j) 5).trans (by rw [Nat.mul_succ])) (by decide) rfl (fun ls hl => ?_)
  refine lv_goto (tgt := 18) hx hb dL_law_553 (by decide) ?_
  refine W.widen (k := 54 + (j + 1)) (n := 285 + 5 * (j + 1)) (by omega) (by omega) ?_
  exact ih (j + 1) s_2 s_5 _ _ ls (by omega) (by omega) hR hH (lv_sub hl [1, 2, 3, 0] rfl)
set_option maxRecDepth 100000 in
set_option maxHeartbeats 8000000 in
theorem law_c1 {p : Program} {l : Launch} {e : Env} {s : State} {m : MethodId} {below : List Frame} {meth : Method} {c : Code} {b L : Nat} {xs : Nat → Int32} (hL : L ≤ 2560) (C0 : lw_At p s m meth c b L xs) {E : EV} (F : Fx E p s m #[Value.ref b] c code RL 4) (h54 : en E = 54) (hAE : eA E = fun q => s.heap.size ≤ q) (n : Nat) (ih : ∀ (j : Nat) (σ μ : St) (H : Heap) (locs : List Loc) (ls : Array Slot), 5 * j ≤ L → j + n = 513 → Rel σ μ → HS E s σ μ H locs → lv_has ls 4 [(0, .ref b), (1, .ref (ea E 0)), (2, .ref (ea E 47)), (3, .int (nI (5 * j)))] → W p l e room_1 s m #[Value.ref b] below meth c H locs (54 + j) (285 + 5 * j) (lw_Z below #[Value.ref b] s) (F0 m 18 ls [])) (j : Nat) (σ μ : St) (H : Heap) (locs : List Loc) (ls : Array Slot) (hj : 5 * j ≤ L) (hjn : j + (n + 1) = 513) (hR : Rel σ μ) (hH : HS E s σ μ H locs) (hl : lv_has ls 4 [(0, .ref b), (1, .ref (ea E 0)), (2, .ref (ea E 47)), (3, .int (nI (5 * j)))]) (hmore : 5 * j + 5 ≤ L) (x : Int32) (hv : x = nI 1) : W p l e room_1 s m #[Value.ref b] below meth c H locs (54 + j) (285 + 5 * j) (lw_Z below #[Value.ref b] s) (F0 m 32 ls [.int x]) := by
  obtain ⟨hx, hb, hr, hml, hown, hts, hX, hbl, hlocks, hgv⟩ := C0
  have hbA : ¬ eA E b := by rw [hAE]; exact Nat.not_le.mpr hbl
  refine lv_tableIn (off := 97) (tgt := 129) hx hb dL_law_32 (by rw [hv]; decide) (by rw [hv]; decide) (by rw [hv]; rfl) (by decide) ?_
  refine W.eq (g2 := F0 m 129 ls []) rfl ?_
  refine lv_aload_n hx hb dL_law_129 rfl (lv_at hl 1 rfl) ?_
  refine lv_aload_n hx hb dL_law_130 rfl (lv_at hl 0 rfl) ?_
  refine lv_iload_n hx hb dL_law_131 rfl (lv_at hl 3 rfl) ?_
  refine lv_iconst (v := 1) hx hb dL_law_132 (by decide) ?_
  refine lv_iadd hx hb dL_law_133 ?_
  refine x_top (nI_add (5 * j) 1) ?_
  refine va_sld hx hb hX hbl hbA hH.2 (vp_in_nI (show (5 * j) + 1 < L by omega) (by omega)) dL_law_134 ?_
  rw [nI_clamp (by omega)]
  refine x_calliX F hH 0 (F.lt (by omega)) (vv0 (by decide)) rfl (c_X3_drop l F.ad σ μ (xs ((5 * j) + 1))) cw_L_18 rfl rfl ⟨Nat.le_of_ble_eq_true rfl, Nat.le_of_ble_eq_true rfl⟩ rfl hl.1 rfl (Nat.le_of_ble_eq_true rfl) ⟨(show 54 + j ≤ 680474 by omega), (show 285 + 5 * j ≤ 7060826 by omega)⟩ dL_law_135 (fun r_1 s_2 H locs e_3 hH => ?_)
  refine lv_aload_n hx hb dL_law_138 rfl (lv_at hl 2 rfl) ?_
  refine lv_aload_n hx hb dL_law_139 rfl (lv_at hl 0 rfl) ?_
  refine lv_iload_n hx hb dL_law_140 rfl (lv_at hl 3 rfl) ?_
  refine lv_iconst (v := 1) hx hb dL_law_141 (by decide) ?_
  refine lv_iadd hx hb dL_law_142 ?_
  refine x_top (nI_add (5 * j) 1) ?_
  refine va_sld hx hb hX hbl hbA hH.2 (vp_in_nI (show (5 * j) + 1 < L by omega) (by omega)) dL_law_143 ?_
  rw [nI_clamp (by omega)]
  refine x_calliM F hH 47 (F.lt (by omega)) (vv4 0) rfl (c_X4_drop l F.ad s_2 μ (xs ((5 * j) + 1))) cw_L_22 rfl rfl ⟨Nat.le_of_ble_eq_true rfl, Nat.le_of_ble_eq_true rfl⟩ rfl hl.1 rfl (Nat.le_of_ble_eq_true rfl) ⟨(show 54 + j ≤ 680474 by omega), (show 285 + 5 * j ≤ 7060826 by omega)⟩ dL_law_144 (fun r_4 s_5 H locs e_6 hH => ?_)
  have hr := rel_drop hR (xs ((5 * j) + 1))
  rw [e_3, e_6] at hr
  obtain ⟨hq, hR⟩ := hr
  refine lv_icmp_eq (tgt := 550) hx hb dL_law_147 (by decide) (fun _ => ?_) (fun h => absurd hq h)
  refine lv_iinc (v := nI (5 * (j + 1))) (lv' := [(3, .int (nI (5 * (j + 1)))), (0, .ref b), (1, .ref (ea E 0)), (2, .ref (ea E 47))]) hx hb dL_law_550 hl (k := 3) rfl ((nI_add (5 * j) 5).trans (by rw [Nat.mul_succ])) (by decide) rfl (fun ls hl => ?_)
  refine lv_goto (tgt := 18) hx hb dL_law_553 (by decide) ?_
  refine W.widen (k := 54 + (j + 1)) (n := 285 + 5 * (j + 1)) (by omega) (by omega) ?_
  exact ih (j + 1) s_2 s_5 _ _ ls (by omega) (by omega) hR hH (lv_sub hl [1, 2, 3, 0] rfl)
set_option maxRecDepth 100000 in
set_option maxHeartbeats 8000000 in
theorem law_c2 {p : Program} {l : Launch} {e : Env} {s : State} {m : MethodId} {below : List Frame} {meth : Method} {c : Code} {b L : Nat} {xs : Nat → Int32} (hL : L ≤ 2560) (C0 : lw_At p s m meth c b L xs) {E : EV} (F : Fx E p s m #[Value.ref b] c code RL 4) (h54 : en E = 54) (hAE : eA E = fun q => s.heap.size ≤ q) (n : Nat) (ih : ∀ (j : Nat) (σ μ : St) (H : Heap) (locs : List Loc) (ls : Array Slot), 5 * j ≤ L → j + n = 513 → Rel σ μ → HS E s σ μ H locs → lv_has ls 4 [(0, .ref b), (1, .ref (ea E 0)), (2, .ref (ea E 47)), (3, .int (nI (5 * j)))] → W p l e room_1 s m #[Value.ref b] below meth c H locs (54 + j) (285 + 5 * j) (lw_Z below #[Value.ref b] s) (F0 m 18 ls [])) (j : Nat) (σ μ : St) (H : Heap) (locs : List Loc) (ls : Array Slot) (hj : 5 * j ≤ L) (hjn : j + (n + 1) = 513) (hR : Rel σ μ) (hH : HS E s σ μ H locs) (hl : lv_has ls 4 [(0, .ref b), (1, .ref (ea E 0)), (2, .ref (ea E 47)), (3, .int (nI (5 * j)))]) (hmore : 5 * j + 5 ≤ L) (x : Int32) (hv : x = nI 2) : W p l e room_1 s m #[Value.ref b] below meth c H locs (54 + j) (285 + 5 * j) (lw_Z below #[Value.ref b] s) (F0 m 32 ls [.int x]) := by
  obtain ⟨hx, hb, hr, hml, hown, hts, hX, hbl, hlocks, hgv⟩ := C0
  have hbA : ¬ eA E b := by rw [hAE]; exact Nat.not_le.mpr hbl
  refine lv_tableIn (off := 120) (tgt := 152) hx hb dL_law_32 (by rw [hv]; decide) (by rw [hv]; decide) (by rw [hv]; rfl) (by decide) ?_
  refine W.eq (g2 := F0 m 152 ls []) rfl ?_
  refine lv_aload_n hx hb dL_law_152 rfl (lv_at hl 1 rfl) ?_
  refine lv_aload_n hx hb dL_law_153 rfl (lv_at hl 0 rfl) ?_
  refine lv_iload_n hx hb dL_law_154 rfl (lv_at hl 3 rfl) ?_
  refine lv_iconst (v := 1) hx hb dL_law_155 (by decide) ?_
  refine lv_iadd hx hb dL_law_156 ?_
  refine x_top (nI_add (5 * j) 1) ?_
  refine va_sld hx hb hX hbl hbA hH.2 (vp_in_nI (show (5 * j) + 1 < L by omega) (by omega)) dL_law_157 ?_
  rw [nI_clamp (by omega)]
  refine lv_aload_n hx hb dL_law_158 rfl (lv_at hl 0 rfl) ?_
  refine lv_iload_n hx hb dL_law_159 rfl (lv_at hl 3 rfl) ?_
  refine lv_iconst (v := 2) hx hb dL_law_160 (by decide) ?_
  refine lv_iadd hx hb dL_law_161 ?_
  refine x_top (nI_add (5 * j) 2) ?_
  refine va_sld hx hb hX hbl hbA hH.2 (vp_in_nI (show (5 * j) + 2 < L by omega) (by omega)) dL_law_162 ?_
  rw [nI_clamp (by omega)]
  refine lv_if_eq (tgt := 170) hx hb dL_law_163 (by decide) (fun c_1 => ?_) (fun c_1 => ?_)
  · refine lv_iconst (v := 0) hx hb dL_law_170 (by decide) ?_
    refine x_top bz_0.symm ?_
    refine x_calliX F hH 0 (F.lt (by omega)) (vv0 (by decide)) rfl (c_X3_shut l F.ad σ μ (xs ((5 * j) + 1)) 0) cw_L_23 rfl rfl ⟨Nat.le_of_ble_eq_true rfl, Nat.le_of_ble_eq_true rfl⟩ rfl hl.1 rfl (Nat.le_of_ble_eq_true rfl) ⟨(show 54 + j ≤ 680474 by omega), (show 285 + 5 * j ≤ 7060826 by omega)⟩ dL_law_171 (fun r_2 s_3 H locs e_4 hH => ?_)
    refine lv_aload_n hx hb dL_law_174 rfl (lv_at hl 2 rfl) ?_
    refine lv_aload_n hx hb dL_law_175 rfl (lv_at hl 0 rfl) ?_
    refine lv_iload_n hx hb dL_law_176 rfl (lv_at hl 3 rfl) ?_
    refine lv_iconst (v := 1) hx hb dL_law_177 (by decide) ?_
    refine lv_iadd hx hb dL_law_178 ?_
    refine x_top (nI_add (5 * j) 1) ?_
    refine va_sld hx hb hX hbl hbA hH.2 (vp_in_nI (show (5 * j) + 1 < L by omega) (by omega)) dL_law_179 ?_
    rw [nI_clamp (by omega)]
    refine lv_aload_n hx hb dL_law_180 rfl (lv_at hl 0 rfl) ?_
    refine lv_iload_n hx hb dL_law_181 rfl (lv_at hl 3 rfl) ?_
    refine lv_iconst (v := 2) hx hb dL_law_182 (by decide) ?_
    refine lv_iadd hx hb dL_law_183 ?_
    refine x_top (nI_add (5 * j) 2) ?_
    refine va_sld hx hb hX hbl hbA hH.2 (vp_in_nI (show (5 * j) + 2 < L by omega) (by omega)) dL_law_184 ?_
    rw [nI_clamp (by omega)]
    refine lv_if_eq (tgt := 192) hx hb dL_law_185 (by decide) (fun _ => ?_) (fun h => absurd c_1 h)
    refine lv_iconst (v := 0) hx hb dL_law_192 (by decide) ?_
    refine x_top bz_0.symm ?_
    refine x_calliM F hH 47 (F.lt (by omega)) (vv4 0) rfl (c_X4_shut l F.ad s_3 μ (xs ((5 * j) + 1)) 0) cw_L_27 rfl rfl ⟨Nat.le_of_ble_eq_true rfl, Nat.le_of_ble_eq_true rfl⟩ rfl hl.1 rfl (Nat.le_of_ble_eq_true rfl) ⟨(show 54 + j ≤ 680474 by omega), (show 285 + 5 * j ≤ 7060826 by omega)⟩ dL_law_193 (fun r_5 s_6 H locs e_7 hH => ?_)
    have hr := rel_shut hR (xs ((5 * j) + 1)) 0
    rw [e_4, e_7] at hr
    obtain ⟨hq, hR⟩ := hr
    refine lv_icmp_eq (tgt := 550) hx hb dL_law_196 (by decide) (fun _ => ?_) (fun h => absurd hq h)
    refine lv_iinc (v := nI (5 * (j + 1))) (lv' := [(3, .int (nI (5 * (j + 1)))), (0, .ref b), (1, .ref (ea E 0)), (2, .ref (ea E 47))]) hx hb dL_law_550 hl (k := 3) rfl ((nI_add (5 * j) 5).trans (by rw [Nat.mul_succ])) (by decide) rfl (fun ls hl => ?_)
    refine lv_goto (tgt := 18) hx hb dL_law_553 (by decide) ?_
    refine W.widen (k := 54 + (j + 1)) (n := 285 + 5 * (j + 1)) (by omega) (by omega) ?_
    exact ih (j + 1) s_3 s_6 _ _ ls (by omega) (by omega) hR hH (lv_sub hl [1, 2, 3, 0] rfl)
  · refine lv_iconst (v := 1) hx hb dL_law_166 (by decide) ?_
    refine lv_goto (tgt := 171) hx hb dL_law_167 (by decide) ?_
    refine x_top bz_1.symm ?_
    refine x_calliX F hH 0 (F.lt (by omega)) (vv0 (by decide)) rfl (c_X3_shut l F.ad σ μ (xs ((5 * j) + 1)) 1) cw_L_23 rfl rfl ⟨Nat.le_of_ble_eq_true rfl, Nat.le_of_ble_eq_true rfl⟩ rfl hl.1 rfl (Nat.le_of_ble_eq_true rfl) ⟨(show 54 + j ≤ 680474 by omega), (show 285 + 5 * j ≤ 7060826 by omega)⟩ dL_law_171 (fun r_8 s_9 H locs e_10 hH => ?_)
    refine lv_aload_n hx hb dL_law_174 rfl (lv_at hl 2 rfl) ?_
    refine lv_aload_n hx hb dL_law_175 rfl (lv_at hl 0 rfl) ?_
    refine lv_iload_n hx hb dL_law_176 rfl (lv_at hl 3 rfl) ?_
    refine lv_iconst (v := 1) hx hb dL_law_177 (by decide) ?_
    refine lv_iadd hx hb dL_law_178 ?_
    refine x_top (nI_add (5 * j) 1) ?_
    refine va_sld hx hb hX hbl hbA hH.2 (vp_in_nI (show (5 * j) + 1 < L by omega) (by omega)) dL_law_179 ?_
    rw [nI_clamp (by omega)]
    refine lv_aload_n hx hb dL_law_180 rfl (lv_at hl 0 rfl) ?_
    refine lv_iload_n hx hb dL_law_181 rfl (lv_at hl 3 rfl) ?_
    refine lv_iconst (v := 2) hx hb dL_law_182 (by decide) ?_
    refine lv_iadd hx hb dL_law_183 ?_
    refine x_top (nI_add (5 * j) 2) ?_
    refine va_sld hx hb hX hbl hbA hH.2 (vp_in_nI (show (5 * j) + 2 < L by omega) (by omega)) dL_law_184 ?_
    rw [nI_clamp (by omega)]
    refine lv_if_eq (tgt := 192) hx hb dL_law_185 (by decide) (fun h => absurd h c_1) (fun _ => ?_)
    refine lv_iconst (v := 1) hx hb dL_law_188 (by decide) ?_
    refine lv_goto (tgt := 193) hx hb dL_law_189 (by decide) ?_
    refine x_top bz_1.symm ?_
    refine x_calliM F hH 47 (F.lt (by omega)) (vv4 0) rfl (c_X4_shut l F.ad s_9 μ (xs ((5 * j) + 1)) 1) cw_L_27 rfl rfl ⟨Nat.le_of_ble_eq_true rfl, Nat.le_of_ble_eq_true rfl⟩ rfl hl.1 rfl (Nat.le_of_ble_eq_true rfl) ⟨(show 54 + j ≤ 680474 by omega), (show 285 + 5 * j ≤ 7060826 by omega)⟩ dL_law_193 (fun r_11 s_12 H locs e_13 hH => ?_)
    have hr := rel_shut hR (xs ((5 * j) + 1)) 1
    rw [e_10, e_13] at hr
    obtain ⟨hq, hR⟩ := hr
    refine lv_icmp_eq (tgt := 550) hx hb dL_law_196 (by decide) (fun _ => ?_) (fun h => absurd hq h)
    refine lv_iinc (v := nI (5 * (j + 1))) (lv' := [(3, .int (nI (5 * (j + 1)))), (0, .ref b), (1, .ref (ea E 0)), (2, .ref (ea E 47))]) hx hb dL_law_550 hl (k := 3) rfl ((nI_add (5 * j) 5).trans (by rw [Nat.mul_succ])) (by decide) rfl (fun ls hl => ?_)
    refine lv_goto (tgt := 18) hx hb dL_law_553 (by decide) ?_
    refine W.widen (k := 54 + (j + 1)) (n := 285 + 5 * (j + 1)) (by omega) (by omega) ?_
    exact ih (j + 1) s_9 s_12 _ _ ls (by omega) (by omega) hR hH (lv_sub hl [1, 2, 3, 0] rfl)
set_option maxRecDepth 100000 in
set_option maxHeartbeats 8000000 in
theorem law_c3 {p : Program} {l : Launch} {e : Env} {s : State} {m : MethodId} {below : List Frame} {meth : Method} {c : Code} {b L : Nat} {xs : Nat → Int32} (hL : L ≤ 2560) (C0 : lw_At p s m meth c b L xs) {E : EV} (F : Fx E p s m #[Value.ref b] c code RL 4) (h54 : en E = 54) (hAE : eA E = fun q => s.heap.size ≤ q) (n : Nat) (ih : ∀ (j : Nat) (σ μ : St) (H : Heap) (locs : List Loc) (ls : Array Slot), 5 * j ≤ L → j + n = 513 → Rel σ μ → HS E s σ μ H locs → lv_has ls 4 [(0, .ref b), (1, .ref (ea E 0)), (2, .ref (ea E 47)), (3, .int (nI (5 * j)))] → W p l e room_1 s m #[Value.ref b] below meth c H locs (54 + j) (285 + 5 * j) (lw_Z below #[Value.ref b] s) (F0 m 18 ls [])) (j : Nat) (σ μ : St) (H : Heap) (locs : List Loc) (ls : Array Slot) (hj : 5 * j ≤ L) (hjn : j + (n + 1) = 513) (hR : Rel σ μ) (hH : HS E s σ μ H locs) (hl : lv_has ls 4 [(0, .ref b), (1, .ref (ea E 0)), (2, .ref (ea E 47)), (3, .int (nI (5 * j)))]) (hmore : 5 * j + 5 ≤ L) (x : Int32) (hv : x = nI 3) : W p l e room_1 s m #[Value.ref b] below meth c H locs (54 + j) (285 + 5 * j) (lw_Z below #[Value.ref b] s) (F0 m 32 ls [.int x]) := by
  obtain ⟨hx, hb, hr, hml, hown, hts, hX, hbl, hlocks, hgv⟩ := C0
  have hbA : ¬ eA E b := by rw [hAE]; exact Nat.not_le.mpr hbl
  refine lv_tableIn (off := 169) (tgt := 201) hx hb dL_law_32 (by rw [hv]; decide) (by rw [hv]; decide) (by rw [hv]; rfl) (by decide) ?_
  refine W.eq (g2 := F0 m 201 ls []) rfl ?_
  refine lv_aload_n hx hb dL_law_201 rfl (lv_at hl 1 rfl) ?_
  refine lv_aload_n hx hb dL_law_202 rfl (lv_at hl 0 rfl) ?_
  refine lv_iload_n hx hb dL_law_203 rfl (lv_at hl 3 rfl) ?_
  refine lv_iconst (v := 1) hx hb dL_law_204 (by decide) ?_
  refine lv_iadd hx hb dL_law_205 ?_
  refine x_top (nI_add (5 * j) 1) ?_
  refine va_sld hx hb hX hbl hbA hH.2 (vp_in_nI (show (5 * j) + 1 < L by omega) (by omega)) dL_law_206 ?_
  rw [nI_clamp (by omega)]
  refine lv_aload_n hx hb dL_law_207 rfl (lv_at hl 0 rfl) ?_
  refine lv_iload_n hx hb dL_law_208 rfl (lv_at hl 3 rfl) ?_
  refine lv_iconst (v := 2) hx hb dL_law_209 (by decide) ?_
  refine lv_iadd hx hb dL_law_210 ?_
  refine x_top (nI_add (5 * j) 2) ?_
  refine va_sld hx hb hX hbl hbA hH.2 (vp_in_nI (show (5 * j) + 2 < L by omega) (by omega)) dL_law_211 ?_
  rw [nI_clamp (by omega)]
  refine lv_aload_n hx hb dL_law_212 rfl (lv_at hl 0 rfl) ?_
  refine lv_iload_n hx hb dL_law_213 rfl (lv_at hl 3 rfl) ?_
  refine lv_iconst (v := 3) hx hb dL_law_214 (by decide) ?_
  refine lv_iadd hx hb dL_law_215 ?_
  refine x_top (nI_add (5 * j) 3) ?_
  refine va_sld hx hb hX hbl hbA hH.2 (vp_in_nI (show (5 * j) + 3 < L by omega) (by omega)) dL_law_216 ?_
  rw [nI_clamp (by omega)]
  refine x_calliX F hH 0 (F.lt (by omega)) (vv0 (by decide)) rfl (c_X3_put l F.ad σ μ (xs ((5 * j) + 1)) (xs ((5 * j) + 2)) (xs ((5 * j) + 3))) cw_L_28 rfl rfl ⟨Nat.le_of_ble_eq_true rfl, Nat.le_of_ble_eq_true rfl⟩ rfl hl.1 rfl (Nat.le_of_ble_eq_true rfl) ⟨(show 54 + j ≤ 680474 by omega), (show 285 + 5 * j ≤ 7060826 by omega)⟩ dL_law_217 (fun r_1 s_2 H locs e_3 hH => ?_)
  refine lv_aload_n hx hb dL_law_220 rfl (lv_at hl 2 rfl) ?_
  refine lv_aload_n hx hb dL_law_221 rfl (lv_at hl 0 rfl) ?_
  refine lv_iload_n hx hb dL_law_222 rfl (lv_at hl 3 rfl) ?_
  refine lv_iconst (v := 1) hx hb dL_law_223 (by decide) ?_
  refine lv_iadd hx hb dL_law_224 ?_
  refine x_top (nI_add (5 * j) 1) ?_
  refine va_sld hx hb hX hbl hbA hH.2 (vp_in_nI (show (5 * j) + 1 < L by omega) (by omega)) dL_law_225 ?_
  rw [nI_clamp (by omega)]
  refine lv_aload_n hx hb dL_law_226 rfl (lv_at hl 0 rfl) ?_
  refine lv_iload_n hx hb dL_law_227 rfl (lv_at hl 3 rfl) ?_
  refine lv_iconst (v := 2) hx hb dL_law_228 (by decide) ?_
  refine lv_iadd hx hb dL_law_229 ?_
  refine x_top (nI_add (5 * j) 2) ?_
  refine va_sld hx hb hX hbl hbA hH.2 (vp_in_nI (show (5 * j) + 2 < L by omega) (by omega)) dL_law_230 ?_
  rw [nI_clamp (by omega)]
  refine lv_aload_n hx hb dL_law_231 rfl (lv_at hl 0 rfl) ?_
  refine lv_iload_n hx hb dL_law_232 rfl (lv_at hl 3 rfl) ?_
  refine lv_iconst (v := 3) hx hb dL_law_233 (by decide) ?_
  refine lv_iadd hx hb dL_law_234 ?_
  refine x_top (nI_add (5 * j) 3) ?_
  refine va_sld hx hb hX hbl hbA hH.2 (vp_in_nI (show (5 * j) + 3 < L by omega) (by omega)) dL_law_235 ?_
  rw [nI_clamp (by omega)]
  refine x_calliMm F hH 47 (F.lt (by omega)) (vv4 0) rfl (c_X4_put l F.ad h54 s_2 μ (xs ((5 * j) + 1)) (xs ((5 * j) + 2)) (xs ((5 * j) + 3))) cw_L_32 rfl rfl ⟨Nat.le_of_ble_eq_true rfl, Nat.le_of_ble_eq_true rfl⟩ rfl hl.1 rfl (Nat.le_of_ble_eq_true rfl) ⟨(show 54 + j + 1 ≤ 680474 by omega), (show 285 + 5 * j + 5 ≤ 7060826 by omega)⟩ dL_law_236 (fun r_m s_m H locs e_m hH => ?_)
  have hr := rel_put hR (xs ((5 * j) + 1)) (xs ((5 * j) + 2)) (xs ((5 * j) + 3))
  rw [e_3, e_m] at hr
  obtain ⟨hq, hR⟩ := hr
  refine lv_icmp_eq (tgt := 550) hx hb dL_law_239 (by decide) (fun _ => ?_) (fun h => absurd hq h)
  refine lv_iinc (v := nI (5 * (j + 1))) (lv' := [(3, .int (nI (5 * (j + 1)))), (0, .ref b), (1, .ref (ea E 0)), (2, .ref (ea E 47))]) hx hb dL_law_550 hl (k := 3) rfl ((nI_add (5 * j) 5).trans (by rw [Nat.mul_succ])) (by decide) rfl (fun ls hl => ?_)
  refine lv_goto (tgt := 18) hx hb dL_law_553 (by decide) ?_
  refine W.widen (k := 54 + (j + 1)) (n := 285 + 5 * (j + 1)) (by omega) (by omega) ?_
  exact ih (j + 1) s_2 s_m _ _ ls (by omega) (by omega) hR hH (lv_sub hl [1, 2, 3, 0] rfl)
set_option maxRecDepth 100000 in
set_option maxHeartbeats 8000000 in
theorem law_c4 {p : Program} {l : Launch} {e : Env} {s : State} {m : MethodId} {below : List Frame} {meth : Method} {c : Code} {b L : Nat} {xs : Nat → Int32} (hL : L ≤ 2560) (C0 : lw_At p s m meth c b L xs) {E : EV} (F : Fx E p s m #[Value.ref b] c code RL 4) (h54 : en E = 54) (hAE : eA E = fun q => s.heap.size ≤ q) (n : Nat) (ih : ∀ (j : Nat) (σ μ : St) (H : Heap) (locs : List Loc) (ls : Array Slot), 5 * j ≤ L → j + n = 513 → Rel σ μ → HS E s σ μ H locs → lv_has ls 4 [(0, .ref b), (1, .ref (ea E 0)), (2, .ref (ea E 47)), (3, .int (nI (5 * j)))] → W p l e room_1 s m #[Value.ref b] below meth c H locs (54 + j) (285 + 5 * j) (lw_Z below #[Value.ref b] s) (F0 m 18 ls [])) (j : Nat) (σ μ : St) (H : Heap) (locs : List Loc) (ls : Array Slot) (hj : 5 * j ≤ L) (hjn : j + (n + 1) = 513) (hR : Rel σ μ) (hH : HS E s σ μ H locs) (hl : lv_has ls 4 [(0, .ref b), (1, .ref (ea E 0)), (2, .ref (ea E 47)), (3, .int (nI (5 * j)))]) (hmore : 5 * j + 5 ≤ L) (x : Int32) (hv : x = nI 4) : W p l e room_1 s m #[Value.ref b] below meth c H locs (54 + j) (285 + 5 * j) (lw_Z below #[Value.ref b] s) (F0 m 32 ls [.int x]) := by
  obtain ⟨hx, hb, hr, hml, hown, hts, hX, hbl, hlocks, hgv⟩ := C0
  have hbA : ¬ eA E b := by rw [hAE]; exact Nat.not_le.mpr hbl
  refine lv_tableIn (off := 212) (tgt := 244) hx hb dL_law_32 (by rw [hv]; decide) (by rw [hv]; decide) (by rw [hv]; rfl) (by decide) ?_
  refine W.eq (g2 := F0 m 244 ls []) rfl ?_
  refine lv_aload_n hx hb dL_law_244 rfl (lv_at hl 1 rfl) ?_
  refine lv_aload_n hx hb dL_law_245 rfl (lv_at hl 0 rfl) ?_
  refine lv_iload_n hx hb dL_law_246 rfl (lv_at hl 3 rfl) ?_
  refine lv_iconst (v := 1) hx hb dL_law_247 (by decide) ?_
  refine lv_iadd hx hb dL_law_248 ?_
  refine x_top (nI_add (5 * j) 1) ?_
  refine va_sld hx hb hX hbl hbA hH.2 (vp_in_nI (show (5 * j) + 1 < L by omega) (by omega)) dL_law_249 ?_
  rw [nI_clamp (by omega)]
  refine lv_aload_n hx hb dL_law_250 rfl (lv_at hl 0 rfl) ?_
  refine lv_iload_n hx hb dL_law_251 rfl (lv_at hl 3 rfl) ?_
  refine lv_iconst (v := 2) hx hb dL_law_252 (by decide) ?_
  refine lv_iadd hx hb dL_law_253 ?_
  refine x_top (nI_add (5 * j) 2) ?_
  refine va_sld hx hb hX hbl hbA hH.2 (vp_in_nI (show (5 * j) + 2 < L by omega) (by omega)) dL_law_254 ?_
  rw [nI_clamp (by omega)]
  refine x_calliX F hH 0 (F.lt (by omega)) (vv0 (by decide)) rfl (c_X3_take l F.ad σ μ (xs ((5 * j) + 1)) (xs ((5 * j) + 2))) cw_L_33 rfl rfl ⟨Nat.le_of_ble_eq_true rfl, Nat.le_of_ble_eq_true rfl⟩ rfl hl.1 rfl (Nat.le_of_ble_eq_true rfl) ⟨(show 54 + j ≤ 680474 by omega), (show 285 + 5 * j ≤ 7060826 by omega)⟩ dL_law_255 (fun r_1 s_2 H locs e_3 hH => ?_)
  refine lv_aload_n hx hb dL_law_258 rfl (lv_at hl 2 rfl) ?_
  refine lv_aload_n hx hb dL_law_259 rfl (lv_at hl 0 rfl) ?_
  refine lv_iload_n hx hb dL_law_260 rfl (lv_at hl 3 rfl) ?_
  refine lv_iconst (v := 1) hx hb dL_law_261 (by decide) ?_
  refine lv_iadd hx hb dL_law_262 ?_
  refine x_top (nI_add (5 * j) 1) ?_
  refine va_sld hx hb hX hbl hbA hH.2 (vp_in_nI (show (5 * j) + 1 < L by omega) (by omega)) dL_law_263 ?_
  rw [nI_clamp (by omega)]
  refine lv_aload_n hx hb dL_law_264 rfl (lv_at hl 0 rfl) ?_
  refine lv_iload_n hx hb dL_law_265 rfl (lv_at hl 3 rfl) ?_
  refine lv_iconst (v := 2) hx hb dL_law_266 (by decide) ?_
  refine lv_iadd hx hb dL_law_267 ?_
  refine x_top (nI_add (5 * j) 2) ?_
  refine va_sld hx hb hX hbl hbA hH.2 (vp_in_nI (show (5 * j) + 2 < L by omega) (by omega)) dL_law_268 ?_
  rw [nI_clamp (by omega)]
  refine x_calliM F hH 47 (F.lt (by omega)) (vv4 0) rfl (c_X4_take l F.ad s_2 μ (xs ((5 * j) + 1)) (xs ((5 * j) + 2))) cw_L_36 rfl rfl ⟨Nat.le_of_ble_eq_true rfl, Nat.le_of_ble_eq_true rfl⟩ rfl hl.1 rfl (Nat.le_of_ble_eq_true rfl) ⟨(show 54 + j ≤ 680474 by omega), (show 285 + 5 * j ≤ 7060826 by omega)⟩ dL_law_269 (fun r_4 s_5 H locs e_6 hH => ?_)
  have hr := rel_take hR (xs ((5 * j) + 1)) (xs ((5 * j) + 2))
  rw [e_3, e_6] at hr
  obtain ⟨hq, hR⟩ := hr
  refine lv_icmp_eq (tgt := 550) hx hb dL_law_272 (by decide) (fun _ => ?_) (fun h => absurd hq h)
  refine lv_iinc (v := nI (5 * (j + 1))) (lv' := [(3, .int (nI (5 * (j + 1)))), (0, .ref b), (1, .ref (ea E 0)), (2, .ref (ea E 47))]) hx hb dL_law_550 hl (k := 3) rfl ((nI_add (5 * j) 5).trans (by rw [Nat.mul_succ])) (by decide) rfl (fun ls hl => ?_)
  refine lv_goto (tgt := 18) hx hb dL_law_553 (by decide) ?_
  refine W.widen (k := 54 + (j + 1)) (n := 285 + 5 * (j + 1)) (by omega) (by omega) ?_
  exact ih (j + 1) s_2 s_5 _ _ ls (by omega) (by omega) hR hH (lv_sub hl [1, 2, 3, 0] rfl)
set_option maxRecDepth 100000 in
set_option maxHeartbeats 8000000 in
theorem law_c5 {p : Program} {l : Launch} {e : Env} {s : State} {m : MethodId} {below : List Frame} {meth : Method} {c : Code} {b L : Nat} {xs : Nat → Int32} (hL : L ≤ 2560) (C0 : lw_At p s m meth c b L xs) {E : EV} (F : Fx E p s m #[Value.ref b] c code RL 4) (h54 : en E = 54) (hAE : eA E = fun q => s.heap.size ≤ q) (n : Nat) (ih : ∀ (j : Nat) (σ μ : St) (H : Heap) (locs : List Loc) (ls : Array Slot), 5 * j ≤ L → j + n = 513 → Rel σ μ → HS E s σ μ H locs → lv_has ls 4 [(0, .ref b), (1, .ref (ea E 0)), (2, .ref (ea E 47)), (3, .int (nI (5 * j)))] → W p l e room_1 s m #[Value.ref b] below meth c H locs (54 + j) (285 + 5 * j) (lw_Z below #[Value.ref b] s) (F0 m 18 ls [])) (j : Nat) (σ μ : St) (H : Heap) (locs : List Loc) (ls : Array Slot) (hj : 5 * j ≤ L) (hjn : j + (n + 1) = 513) (hR : Rel σ μ) (hH : HS E s σ μ H locs) (hl : lv_has ls 4 [(0, .ref b), (1, .ref (ea E 0)), (2, .ref (ea E 47)), (3, .int (nI (5 * j)))]) (hmore : 5 * j + 5 ≤ L) (x : Int32) (hv : x = nI 5) : W p l e room_1 s m #[Value.ref b] below meth c H locs (54 + j) (285 + 5 * j) (lw_Z below #[Value.ref b] s) (F0 m 32 ls [.int x]) := by
  obtain ⟨hx, hb, hr, hml, hown, hts, hX, hbl, hlocks, hgv⟩ := C0
  have hbA : ¬ eA E b := by rw [hAE]; exact Nat.not_le.mpr hbl
  refine lv_tableIn (off := 245) (tgt := 277) hx hb dL_law_32 (by rw [hv]; decide) (by rw [hv]; decide) (by rw [hv]; rfl) (by decide) ?_
  refine W.eq (g2 := F0 m 277 ls []) rfl ?_
  refine lv_aload_n hx hb dL_law_277 rfl (lv_at hl 1 rfl) ?_
  refine lv_aload_n hx hb dL_law_278 rfl (lv_at hl 0 rfl) ?_
  refine lv_iload_n hx hb dL_law_279 rfl (lv_at hl 3 rfl) ?_
  refine lv_iconst (v := 1) hx hb dL_law_280 (by decide) ?_
  refine lv_iadd hx hb dL_law_281 ?_
  refine x_top (nI_add (5 * j) 1) ?_
  refine va_sld hx hb hX hbl hbA hH.2 (vp_in_nI (show (5 * j) + 1 < L by omega) (by omega)) dL_law_282 ?_
  rw [nI_clamp (by omega)]
  refine lv_aload_n hx hb dL_law_283 rfl (lv_at hl 0 rfl) ?_
  refine lv_iload_n hx hb dL_law_284 rfl (lv_at hl 3 rfl) ?_
  refine lv_iconst (v := 2) hx hb dL_law_285 (by decide) ?_
  refine lv_iadd hx hb dL_law_286 ?_
  refine x_top (nI_add (5 * j) 2) ?_
  refine va_sld hx hb hX hbl hbA hH.2 (vp_in_nI (show (5 * j) + 2 < L by omega) (by omega)) dL_law_287 ?_
  rw [nI_clamp (by omega)]
  refine lv_aload_n hx hb dL_law_288 rfl (lv_at hl 0 rfl) ?_
  refine lv_iload_n hx hb dL_law_289 rfl (lv_at hl 3 rfl) ?_
  refine lv_iconst (v := 3) hx hb dL_law_290 (by decide) ?_
  refine lv_iadd hx hb dL_law_291 ?_
  refine x_top (nI_add (5 * j) 3) ?_
  refine va_sld hx hb hX hbl hbA hH.2 (vp_in_nI (show (5 * j) + 3 < L by omega) (by omega)) dL_law_292 ?_
  rw [nI_clamp (by omega)]
  refine lv_aload_n hx hb dL_law_293 rfl (lv_at hl 0 rfl) ?_
  refine lv_iload_n hx hb dL_law_294 rfl (lv_at hl 3 rfl) ?_
  refine lv_iconst (v := 4) hx hb dL_law_295 (by decide) ?_
  refine lv_iadd hx hb dL_law_296 ?_
  refine x_top (nI_add (5 * j) 4) ?_
  refine va_sld hx hb hX hbl hbA hH.2 (vp_in_nI (show (5 * j) + 4 < L by omega) (by omega)) dL_law_297 ?_
  rw [nI_clamp (by omega)]
  refine lv_if_eq (tgt := 305) hx hb dL_law_298 (by decide) (fun c_1 => ?_) (fun c_1 => ?_)
  · refine lv_iconst (v := 0) hx hb dL_law_305 (by decide) ?_
    refine x_top bz_0.symm ?_
    refine x_calliX F hH 0 (F.lt (by omega)) (vv0 (by decide)) rfl (c_X3_move l F.ad σ μ (xs ((5 * j) + 1)) (xs ((5 * j) + 2)) (xs ((5 * j) + 3)) 0) cw_L_37 rfl rfl ⟨Nat.le_of_ble_eq_true rfl, Nat.le_of_ble_eq_true rfl⟩ rfl hl.1 rfl (Nat.le_of_ble_eq_true rfl) ⟨(show 54 + j ≤ 680474 by omega), (show 285 + 5 * j ≤ 7060826 by omega)⟩ dL_law_306 (fun r_2 s_3 H locs e_4 hH => ?_)
    refine lv_aload_n hx hb dL_law_309 rfl (lv_at hl 2 rfl) ?_
    refine lv_aload_n hx hb dL_law_310 rfl (lv_at hl 0 rfl) ?_
    refine lv_iload_n hx hb dL_law_311 rfl (lv_at hl 3 rfl) ?_
    refine lv_iconst (v := 1) hx hb dL_law_312 (by decide) ?_
    refine lv_iadd hx hb dL_law_313 ?_
    refine x_top (nI_add (5 * j) 1) ?_
    refine va_sld hx hb hX hbl hbA hH.2 (vp_in_nI (show (5 * j) + 1 < L by omega) (by omega)) dL_law_314 ?_
    rw [nI_clamp (by omega)]
    refine lv_aload_n hx hb dL_law_315 rfl (lv_at hl 0 rfl) ?_
    refine lv_iload_n hx hb dL_law_316 rfl (lv_at hl 3 rfl) ?_
    refine lv_iconst (v := 2) hx hb dL_law_317 (by decide) ?_
    refine lv_iadd hx hb dL_law_318 ?_
    refine x_top (nI_add (5 * j) 2) ?_
    refine va_sld hx hb hX hbl hbA hH.2 (vp_in_nI (show (5 * j) + 2 < L by omega) (by omega)) dL_law_319 ?_
    rw [nI_clamp (by omega)]
    refine lv_aload_n hx hb dL_law_320 rfl (lv_at hl 0 rfl) ?_
    refine lv_iload_n hx hb dL_law_321 rfl (lv_at hl 3 rfl) ?_
    refine lv_iconst (v := 3) hx hb dL_law_322 (by decide) ?_
    refine lv_iadd hx hb dL_law_323 ?_
    refine x_top (nI_add (5 * j) 3) ?_
    refine va_sld hx hb hX hbl hbA hH.2 (vp_in_nI (show (5 * j) + 3 < L by omega) (by omega)) dL_law_324 ?_
    rw [nI_clamp (by omega)]
    refine lv_aload_n hx hb dL_law_325 rfl (lv_at hl 0 rfl) ?_
    refine lv_iload_n hx hb dL_law_326 rfl (lv_at hl 3 rfl) ?_
    refine lv_iconst (v := 4) hx hb dL_law_327 (by decide) ?_
    refine lv_iadd hx hb dL_law_328 ?_
    refine x_top (nI_add (5 * j) 4) ?_
    refine va_sld hx hb hX hbl hbA hH.2 (vp_in_nI (show (5 * j) + 4 < L by omega) (by omega)) dL_law_329 ?_
    rw [nI_clamp (by omega)]
    refine lv_if_eq (tgt := 337) hx hb dL_law_330 (by decide) (fun _ => ?_) (fun h => absurd c_1 h)
    refine lv_iconst (v := 0) hx hb dL_law_337 (by decide) ?_
    refine x_top bz_0.symm ?_
    refine x_calliM F hH 47 (F.lt (by omega)) (vv4 0) rfl (c_X4_move l F.ad s_3 μ (xs ((5 * j) + 1)) (xs ((5 * j) + 2)) (xs ((5 * j) + 3)) 0) cw_L_41 rfl rfl ⟨Nat.le_of_ble_eq_true rfl, Nat.le_of_ble_eq_true rfl⟩ rfl hl.1 rfl (Nat.le_of_ble_eq_true rfl) ⟨(show 54 + j ≤ 680474 by omega), (show 285 + 5 * j ≤ 7060826 by omega)⟩ dL_law_338 (fun r_5 s_6 H locs e_7 hH => ?_)
    have hr := rel_move hR (xs ((5 * j) + 1)) (xs ((5 * j) + 2)) (xs ((5 * j) + 3)) 0
    rw [e_4, e_7] at hr
    obtain ⟨hq, hR⟩ := hr
    refine lv_icmp_eq (tgt := 550) hx hb dL_law_341 (by decide) (fun _ => ?_) (fun h => absurd hq h)
    refine lv_iinc (v := nI (5 * (j + 1))) (lv' := [(3, .int (nI (5 * (j + 1)))), (0, .ref b), (1, .ref (ea E 0)), (2, .ref (ea E 47))]) hx hb dL_law_550 hl (k := 3) rfl ((nI_add (5 * j) 5).trans (by rw [Nat.mul_succ])) (by decide) rfl (fun ls hl => ?_)
    refine lv_goto (tgt := 18) hx hb dL_law_553 (by decide) ?_
    refine W.widen (k := 54 + (j + 1)) (n := 285 + 5 * (j + 1)) (by omega) (by omega) ?_
    exact ih (j + 1) s_3 s_6 _ _ ls (by omega) (by omega) hR hH (lv_sub hl [1, 2, 3, 0] rfl)
  · refine lv_iconst (v := 1) hx hb dL_law_301 (by decide) ?_
    refine lv_goto (tgt := 306) hx hb dL_law_302 (by decide) ?_
    refine x_top bz_1.symm ?_
    refine x_calliX F hH 0 (F.lt (by omega)) (vv0 (by decide)) rfl (c_X3_move l F.ad σ μ (xs ((5 * j) + 1)) (xs ((5 * j) + 2)) (xs ((5 * j) + 3)) 1) cw_L_37 rfl rfl ⟨Nat.le_of_ble_eq_true rfl, Nat.le_of_ble_eq_true rfl⟩ rfl hl.1 rfl (Nat.le_of_ble_eq_true rfl) ⟨(show 54 + j ≤ 680474 by omega), (show 285 + 5 * j ≤ 7060826 by omega)⟩ dL_law_306 (fun r_8 s_9 H locs e_10 hH => ?_)
    refine lv_aload_n hx hb dL_law_309 rfl (lv_at hl 2 rfl) ?_
    refine lv_aload_n hx hb dL_law_310 rfl (lv_at hl 0 rfl) ?_
    refine lv_iload_n hx hb dL_law_311 rfl (lv_at hl 3 rfl) ?_
    refine lv_iconst (v := 1) hx hb dL_law_312 (by decide) ?_
    refine lv_iadd hx hb dL_law_313 ?_
    refine x_top (nI_add (5 * j) 1) ?_
    refine va_sld hx hb hX hbl hbA hH.2 (vp_in_nI (show (5 * j) + 1 < L by omega) (by omega)) dL_law_314 ?_
    rw [nI_clamp (by omega)]
    refine lv_aload_n hx hb dL_law_315 rfl (lv_at hl 0 rfl) ?_
    refine lv_iload_n hx hb dL_law_316 rfl (lv_at hl 3 rfl) ?_
    refine lv_iconst (v := 2) hx hb dL_law_317 (by decide) ?_
    refine lv_iadd hx hb dL_law_318 ?_
    refine x_top (nI_add (5 * j) 2) ?_
    refine va_sld hx hb hX hbl hbA hH.2 (vp_in_nI (show (5 * j) + 2 < L by omega) (by omega)) dL_law_319 ?_
    rw [nI_clamp (by omega)]
    refine lv_aload_n hx hb dL_law_320 rfl (lv_at hl 0 rfl) ?_
    refine lv_iload_n hx hb dL_law_321 rfl (lv_at hl 3 rfl) ?_
    refine lv_iconst (v := 3) hx hb dL_law_322 (by decide) ?_
    refine lv_iadd hx hb dL_law_323 ?_
    refine x_top (nI_add (5 * j) 3) ?_
    refine va_sld hx hb hX hbl hbA hH.2 (vp_in_nI (show (5 * j) + 3 < L by omega) (by omega)) dL_law_324 ?_
    rw [nI_clamp (by omega)]
    refine lv_aload_n hx hb dL_law_325 rfl (lv_at hl 0 rfl) ?_
    refine lv_iload_n hx hb dL_law_326 rfl (lv_at hl 3 rfl) ?_
    refine lv_iconst (v := 4) hx hb dL_law_327 (by decide) ?_
    refine lv_iadd hx hb dL_law_328 ?_
    refine x_top (nI_add (5 * j) 4) ?_
    refine va_sld hx hb hX hbl hbA hH.2 (vp_in_nI (show (5 * j) + 4 < L by omega) (by omega)) dL_law_329 ?_
    rw [nI_clamp (by omega)]
    refine lv_if_eq (tgt := 337) hx hb dL_law_330 (by decide) (fun h => absurd h c_1) (fun _ => ?_)
    refine lv_iconst (v := 1) hx hb dL_law_333 (by decide) ?_
    refine lv_goto (tgt := 338) hx hb dL_law_334 (by decide) ?_
    refine x_top bz_1.symm ?_
    refine x_calliM F hH 47 (F.lt (by omega)) (vv4 0) rfl (c_X4_move l F.ad s_9 μ (xs ((5 * j) + 1)) (xs ((5 * j) + 2)) (xs ((5 * j) + 3)) 1) cw_L_41 rfl rfl ⟨Nat.le_of_ble_eq_true rfl, Nat.le_of_ble_eq_true rfl⟩ rfl hl.1 rfl (Nat.le_of_ble_eq_true rfl) ⟨(show 54 + j ≤ 680474 by omega), (show 285 + 5 * j ≤ 7060826 by omega)⟩ dL_law_338 (fun r_11 s_12 H locs e_13 hH => ?_)
    have hr := rel_move hR (xs ((5 * j) + 1)) (xs ((5 * j) + 2)) (xs ((5 * j) + 3)) 1
    rw [e_10, e_13] at hr
    obtain ⟨hq, hR⟩ := hr
    refine lv_icmp_eq (tgt := 550) hx hb dL_law_341 (by decide) (fun _ => ?_) (fun h => absurd hq h)
    refine lv_iinc (v := nI (5 * (j + 1))) (lv' := [(3, .int (nI (5 * (j + 1)))), (0, .ref b), (1, .ref (ea E 0)), (2, .ref (ea E 47))]) hx hb dL_law_550 hl (k := 3) rfl ((nI_add (5 * j) 5).trans (by rw [Nat.mul_succ])) (by decide) rfl (fun ls hl => ?_)
    refine lv_goto (tgt := 18) hx hb dL_law_553 (by decide) ?_
    refine W.widen (k := 54 + (j + 1)) (n := 285 + 5 * (j + 1)) (by omega) (by omega) ?_
    exact ih (j + 1) s_9 s_12 _ _ ls (by omega) (by omega) hR hH (lv_sub hl [1, 2, 3, 0] rfl)
set_option maxRecDepth 100000 in
set_option maxHeartbeats 8000000 in
theorem law_c6 {p : Program} {l : Launch} {e : Env} {s : State} {m : MethodId} {below : List Frame} {meth : Method} {c : Code} {b L : Nat} {xs : Nat → Int32} (hL : L ≤ 2560) (C0 : lw_At p s m meth c b L xs) {E : EV} (F : Fx E p s m #[Value.ref b] c code RL 4) (h54 : en E = 54) (hAE : eA E = fun q => s.heap.size ≤ q) (n : Nat) (ih : ∀ (j : Nat) (σ μ : St) (H : Heap) (locs : List Loc) (ls : Array Slot), 5 * j ≤ L → j + n = 513 → Rel σ μ → HS E s σ μ H locs → lv_has ls 4 [(0, .ref b), (1, .ref (ea E 0)), (2, .ref (ea E 47)), (3, .int (nI (5 * j)))] → W p l e room_1 s m #[Value.ref b] below meth c H locs (54 + j) (285 + 5 * j) (lw_Z below #[Value.ref b] s) (F0 m 18 ls [])) (j : Nat) (σ μ : St) (H : Heap) (locs : List Loc) (ls : Array Slot) (hj : 5 * j ≤ L) (hjn : j + (n + 1) = 513) (hR : Rel σ μ) (hH : HS E s σ μ H locs) (hl : lv_has ls 4 [(0, .ref b), (1, .ref (ea E 0)), (2, .ref (ea E 47)), (3, .int (nI (5 * j)))]) (hmore : 5 * j + 5 ≤ L) (x : Int32) (hv : x = nI 6) : W p l e room_1 s m #[Value.ref b] below meth c H locs (54 + j) (285 + 5 * j) (lw_Z below #[Value.ref b] s) (F0 m 32 ls [.int x]) := by
  obtain ⟨hx, hb, hr, hml, hown, hts, hX, hbl, hlocks, hgv⟩ := C0
  have hbA : ¬ eA E b := by rw [hAE]; exact Nat.not_le.mpr hbl
  refine lv_tableIn (off := 314) (tgt := 346) hx hb dL_law_32 (by rw [hv]; decide) (by rw [hv]; decide) (by rw [hv]; rfl) (by decide) ?_
  refine W.eq (g2 := F0 m 346 ls []) rfl ?_
  refine lv_aload_n hx hb dL_law_346 rfl (lv_at hl 1 rfl) ?_
  refine lv_aload_n hx hb dL_law_347 rfl (lv_at hl 0 rfl) ?_
  refine lv_iload_n hx hb dL_law_348 rfl (lv_at hl 3 rfl) ?_
  refine lv_iconst (v := 1) hx hb dL_law_349 (by decide) ?_
  refine lv_iadd hx hb dL_law_350 ?_
  refine x_top (nI_add (5 * j) 1) ?_
  refine va_sld hx hb hX hbl hbA hH.2 (vp_in_nI (show (5 * j) + 1 < L by omega) (by omega)) dL_law_351 ?_
  rw [nI_clamp (by omega)]
  refine lv_aload_n hx hb dL_law_352 rfl (lv_at hl 0 rfl) ?_
  refine lv_iload_n hx hb dL_law_353 rfl (lv_at hl 3 rfl) ?_
  refine lv_iconst (v := 2) hx hb dL_law_354 (by decide) ?_
  refine lv_iadd hx hb dL_law_355 ?_
  refine x_top (nI_add (5 * j) 2) ?_
  refine va_sld hx hb hX hbl hbA hH.2 (vp_in_nI (show (5 * j) + 2 < L by omega) (by omega)) dL_law_356 ?_
  rw [nI_clamp (by omega)]
  refine lv_aload_n hx hb dL_law_357 rfl (lv_at hl 0 rfl) ?_
  refine lv_iload_n hx hb dL_law_358 rfl (lv_at hl 3 rfl) ?_
  refine lv_iconst (v := 3) hx hb dL_law_359 (by decide) ?_
  refine lv_iadd hx hb dL_law_360 ?_
  refine x_top (nI_add (5 * j) 3) ?_
  refine va_sld hx hb hX hbl hbA hH.2 (vp_in_nI (show (5 * j) + 3 < L by omega) (by omega)) dL_law_361 ?_
  rw [nI_clamp (by omega)]
  refine lv_if_eq (tgt := 369) hx hb dL_law_362 (by decide) (fun c_1 => ?_) (fun c_1 => ?_)
  · refine lv_iconst (v := 0) hx hb dL_law_369 (by decide) ?_
    refine x_top bz_0.symm ?_
    refine x_calliX F hH 0 (F.lt (by omega)) (vv0 (by decide)) rfl (c_X3_pass l F.ad σ μ (xs ((5 * j) + 1)) (xs ((5 * j) + 2)) 0) cw_L_42 rfl rfl ⟨Nat.le_of_ble_eq_true rfl, Nat.le_of_ble_eq_true rfl⟩ rfl hl.1 rfl (Nat.le_of_ble_eq_true rfl) ⟨(show 54 + j ≤ 680474 by omega), (show 285 + 5 * j ≤ 7060826 by omega)⟩ dL_law_370 (fun r_2 s_3 H locs e_4 hH => ?_)
    refine lv_aload_n hx hb dL_law_373 rfl (lv_at hl 2 rfl) ?_
    refine lv_aload_n hx hb dL_law_374 rfl (lv_at hl 0 rfl) ?_
    refine lv_iload_n hx hb dL_law_375 rfl (lv_at hl 3 rfl) ?_
    refine lv_iconst (v := 1) hx hb dL_law_376 (by decide) ?_
    refine lv_iadd hx hb dL_law_377 ?_
    refine x_top (nI_add (5 * j) 1) ?_
    refine va_sld hx hb hX hbl hbA hH.2 (vp_in_nI (show (5 * j) + 1 < L by omega) (by omega)) dL_law_378 ?_
    rw [nI_clamp (by omega)]
    refine lv_aload_n hx hb dL_law_379 rfl (lv_at hl 0 rfl) ?_
    refine lv_iload_n hx hb dL_law_380 rfl (lv_at hl 3 rfl) ?_
    refine lv_iconst (v := 2) hx hb dL_law_381 (by decide) ?_
    refine lv_iadd hx hb dL_law_382 ?_
    refine x_top (nI_add (5 * j) 2) ?_
    refine va_sld hx hb hX hbl hbA hH.2 (vp_in_nI (show (5 * j) + 2 < L by omega) (by omega)) dL_law_383 ?_
    rw [nI_clamp (by omega)]
    refine lv_aload_n hx hb dL_law_384 rfl (lv_at hl 0 rfl) ?_
    refine lv_iload_n hx hb dL_law_385 rfl (lv_at hl 3 rfl) ?_
    refine lv_iconst (v := 3) hx hb dL_law_386 (by decide) ?_
    refine lv_iadd hx hb dL_law_387 ?_
    refine x_top (nI_add (5 * j) 3) ?_
    refine va_sld hx hb hX hbl hbA hH.2 (vp_in_nI (show (5 * j) + 3 < L by omega) (by omega)) dL_law_388 ?_
    rw [nI_clamp (by omega)]
    refine lv_if_eq (tgt := 396) hx hb dL_law_389 (by decide) (fun _ => ?_) (fun h => absurd c_1 h)
    refine lv_iconst (v := 0) hx hb dL_law_396 (by decide) ?_
    refine x_top bz_0.symm ?_
    refine x_calliM F hH 47 (F.lt (by omega)) (vv4 0) rfl (c_X4_pass l F.ad s_3 μ (xs ((5 * j) + 1)) (xs ((5 * j) + 2)) 0) cw_L_46 rfl rfl ⟨Nat.le_of_ble_eq_true rfl, Nat.le_of_ble_eq_true rfl⟩ rfl hl.1 rfl (Nat.le_of_ble_eq_true rfl) ⟨(show 54 + j ≤ 680474 by omega), (show 285 + 5 * j ≤ 7060826 by omega)⟩ dL_law_397 (fun r_5 s_6 H locs e_7 hH => ?_)
    have hr := rel_pass hR (xs ((5 * j) + 1)) (xs ((5 * j) + 2)) 0
    rw [e_4, e_7] at hr
    obtain ⟨hq, hR⟩ := hr
    refine lv_icmp_eq (tgt := 550) hx hb dL_law_400 (by decide) (fun _ => ?_) (fun h => absurd hq h)
    refine lv_iinc (v := nI (5 * (j + 1))) (lv' := [(3, .int (nI (5 * (j + 1)))), (0, .ref b), (1, .ref (ea E 0)), (2, .ref (ea E 47))]) hx hb dL_law_550 hl (k := 3) rfl ((nI_add (5 * j) 5).trans (by rw [Nat.mul_succ])) (by decide) rfl (fun ls hl => ?_)
    refine lv_goto (tgt := 18) hx hb dL_law_553 (by decide) ?_
    refine W.widen (k := 54 + (j + 1)) (n := 285 + 5 * (j + 1)) (by omega) (by omega) ?_
    exact ih (j + 1) s_3 s_6 _ _ ls (by omega) (by omega) hR hH (lv_sub hl [1, 2, 3, 0] rfl)
  · refine lv_iconst (v := 1) hx hb dL_law_365 (by decide) ?_
    refine lv_goto (tgt := 370) hx hb dL_law_366 (by decide) ?_
    refine x_top bz_1.symm ?_
    refine x_calliX F hH 0 (F.lt (by omega)) (vv0 (by decide)) rfl (c_X3_pass l F.ad σ μ (xs ((5 * j) + 1)) (xs ((5 * j) + 2)) 1) cw_L_42 rfl rfl ⟨Nat.le_of_ble_eq_true rfl, Nat.le_of_ble_eq_true rfl⟩ rfl hl.1 rfl (Nat.le_of_ble_eq_true rfl) ⟨(show 54 + j ≤ 680474 by omega), (show 285 + 5 * j ≤ 7060826 by omega)⟩ dL_law_370 (fun r_8 s_9 H locs e_10 hH => ?_)
    refine lv_aload_n hx hb dL_law_373 rfl (lv_at hl 2 rfl) ?_
    refine lv_aload_n hx hb dL_law_374 rfl (lv_at hl 0 rfl) ?_
    refine lv_iload_n hx hb dL_law_375 rfl (lv_at hl 3 rfl) ?_
    refine lv_iconst (v := 1) hx hb dL_law_376 (by decide) ?_
    refine lv_iadd hx hb dL_law_377 ?_
    refine x_top (nI_add (5 * j) 1) ?_
    refine va_sld hx hb hX hbl hbA hH.2 (vp_in_nI (show (5 * j) + 1 < L by omega) (by omega)) dL_law_378 ?_
    rw [nI_clamp (by omega)]
    refine lv_aload_n hx hb dL_law_379 rfl (lv_at hl 0 rfl) ?_
    refine lv_iload_n hx hb dL_law_380 rfl (lv_at hl 3 rfl) ?_
    refine lv_iconst (v := 2) hx hb dL_law_381 (by decide) ?_
    refine lv_iadd hx hb dL_law_382 ?_
    refine x_top (nI_add (5 * j) 2) ?_
    refine va_sld hx hb hX hbl hbA hH.2 (vp_in_nI (show (5 * j) + 2 < L by omega) (by omega)) dL_law_383 ?_
    rw [nI_clamp (by omega)]
    refine lv_aload_n hx hb dL_law_384 rfl (lv_at hl 0 rfl) ?_
    refine lv_iload_n hx hb dL_law_385 rfl (lv_at hl 3 rfl) ?_
    refine lv_iconst (v := 3) hx hb dL_law_386 (by decide) ?_
    refine lv_iadd hx hb dL_law_387 ?_
    refine x_top (nI_add (5 * j) 3) ?_
    refine va_sld hx hb hX hbl hbA hH.2 (vp_in_nI (show (5 * j) + 3 < L by omega) (by omega)) dL_law_388 ?_
    rw [nI_clamp (by omega)]
    refine lv_if_eq (tgt := 396) hx hb dL_law_389 (by decide) (fun h => absurd h c_1) (fun _ => ?_)
    refine lv_iconst (v := 1) hx hb dL_law_392 (by decide) ?_
    refine lv_goto (tgt := 397) hx hb dL_law_393 (by decide) ?_
    refine x_top bz_1.symm ?_
    refine x_calliM F hH 47 (F.lt (by omega)) (vv4 0) rfl (c_X4_pass l F.ad s_9 μ (xs ((5 * j) + 1)) (xs ((5 * j) + 2)) 1) cw_L_46 rfl rfl ⟨Nat.le_of_ble_eq_true rfl, Nat.le_of_ble_eq_true rfl⟩ rfl hl.1 rfl (Nat.le_of_ble_eq_true rfl) ⟨(show 54 + j ≤ 680474 by omega), (show 285 + 5 * j ≤ 7060826 by omega)⟩ dL_law_397 (fun r_11 s_12 H locs e_13 hH => ?_)
    have hr := rel_pass hR (xs ((5 * j) + 1)) (xs ((5 * j) + 2)) 1
    rw [e_10, e_13] at hr
    obtain ⟨hq, hR⟩ := hr
    refine lv_icmp_eq (tgt := 550) hx hb dL_law_400 (by decide) (fun _ => ?_) (fun h => absurd hq h)
    refine lv_iinc (v := nI (5 * (j + 1))) (lv' := [(3, .int (nI (5 * (j + 1)))), (0, .ref b), (1, .ref (ea E 0)), (2, .ref (ea E 47))]) hx hb dL_law_550 hl (k := 3) rfl ((nI_add (5 * j) 5).trans (by rw [Nat.mul_succ])) (by decide) rfl (fun ls hl => ?_)
    refine lv_goto (tgt := 18) hx hb dL_law_553 (by decide) ?_
    refine W.widen (k := 54 + (j + 1)) (n := 285 + 5 * (j + 1)) (by omega) (by omega) ?_
    exact ih (j + 1) s_9 s_12 _ _ ls (by omega) (by omega) hR hH (lv_sub hl [1, 2, 3, 0] rfl)
set_option maxRecDepth 100000 in
set_option maxHeartbeats 8000000 in
theorem law_c7 {p : Program} {l : Launch} {e : Env} {s : State} {m : MethodId} {below : List Frame} {meth : Method} {c : Code} {b L : Nat} {xs : Nat → Int32} (hL : L ≤ 2560) (C0 : lw_At p s m meth c b L xs) {E : EV} (F : Fx E p s m #[Value.ref b] c code RL 4) (h54 : en E = 54) (hAE : eA E = fun q => s.heap.size ≤ q) (n : Nat) (ih : ∀ (j : Nat) (σ μ : St) (H : Heap) (locs : List Loc) (ls : Array Slot), 5 * j ≤ L → j + n = 513 → Rel σ μ → HS E s σ μ H locs → lv_has ls 4 [(0, .ref b), (1, .ref (ea E 0)), (2, .ref (ea E 47)), (3, .int (nI (5 * j)))] → W p l e room_1 s m #[Value.ref b] below meth c H locs (54 + j) (285 + 5 * j) (lw_Z below #[Value.ref b] s) (F0 m 18 ls [])) (j : Nat) (σ μ : St) (H : Heap) (locs : List Loc) (ls : Array Slot) (hj : 5 * j ≤ L) (hjn : j + (n + 1) = 513) (hR : Rel σ μ) (hH : HS E s σ μ H locs) (hl : lv_has ls 4 [(0, .ref b), (1, .ref (ea E 0)), (2, .ref (ea E 47)), (3, .int (nI (5 * j)))]) (hmore : 5 * j + 5 ≤ L) (x : Int32) (hv : x = nI 7) : W p l e room_1 s m #[Value.ref b] below meth c H locs (54 + j) (285 + 5 * j) (lw_Z below #[Value.ref b] s) (F0 m 32 ls [.int x]) := by
  obtain ⟨hx, hb, hr, hml, hown, hts, hX, hbl, hlocks, hgv⟩ := C0
  have hbA : ¬ eA E b := by rw [hAE]; exact Nat.not_le.mpr hbl
  refine lv_tableIn (off := 373) (tgt := 405) hx hb dL_law_32 (by rw [hv]; decide) (by rw [hv]; decide) (by rw [hv]; rfl) (by decide) ?_
  refine W.eq (g2 := F0 m 405 ls []) rfl ?_
  refine lv_aload_n hx hb dL_law_405 rfl (lv_at hl 1 rfl) ?_
  refine lv_aload_n hx hb dL_law_406 rfl (lv_at hl 0 rfl) ?_
  refine lv_iload_n hx hb dL_law_407 rfl (lv_at hl 3 rfl) ?_
  refine lv_iconst (v := 1) hx hb dL_law_408 (by decide) ?_
  refine lv_iadd hx hb dL_law_409 ?_
  refine x_top (nI_add (5 * j) 1) ?_
  refine va_sld hx hb hX hbl hbA hH.2 (vp_in_nI (show (5 * j) + 1 < L by omega) (by omega)) dL_law_410 ?_
  rw [nI_clamp (by omega)]
  refine lv_aload_n hx hb dL_law_411 rfl (lv_at hl 0 rfl) ?_
  refine lv_iload_n hx hb dL_law_412 rfl (lv_at hl 3 rfl) ?_
  refine lv_iconst (v := 2) hx hb dL_law_413 (by decide) ?_
  refine lv_iadd hx hb dL_law_414 ?_
  refine x_top (nI_add (5 * j) 2) ?_
  refine va_sld hx hb hX hbl hbA hH.2 (vp_in_nI (show (5 * j) + 2 < L by omega) (by omega)) dL_law_415 ?_
  rw [nI_clamp (by omega)]
  refine lv_aload_n hx hb dL_law_416 rfl (lv_at hl 0 rfl) ?_
  refine lv_iload_n hx hb dL_law_417 rfl (lv_at hl 3 rfl) ?_
  refine lv_iconst (v := 3) hx hb dL_law_418 (by decide) ?_
  refine lv_iadd hx hb dL_law_419 ?_
  refine x_top (nI_add (5 * j) 3) ?_
  refine va_sld hx hb hX hbl hbA hH.2 (vp_in_nI (show (5 * j) + 3 < L by omega) (by omega)) dL_law_420 ?_
  rw [nI_clamp (by omega)]
  refine x_calliX F hH 0 (F.lt (by omega)) (vv0 (by decide)) rfl (c_X3_share l F.ad σ μ (xs ((5 * j) + 1)) (xs ((5 * j) + 2)) (xs ((5 * j) + 3))) cw_L_47 rfl rfl ⟨Nat.le_of_ble_eq_true rfl, Nat.le_of_ble_eq_true rfl⟩ rfl hl.1 rfl (Nat.le_of_ble_eq_true rfl) ⟨(show 54 + j ≤ 680474 by omega), (show 285 + 5 * j ≤ 7060826 by omega)⟩ dL_law_421 (fun r_1 s_2 H locs e_3 hH => ?_)
  refine lv_aload_n hx hb dL_law_424 rfl (lv_at hl 2 rfl) ?_
  refine lv_aload_n hx hb dL_law_425 rfl (lv_at hl 0 rfl) ?_
  refine lv_iload_n hx hb dL_law_426 rfl (lv_at hl 3 rfl) ?_
  refine lv_iconst (v := 1) hx hb dL_law_427 (by decide) ?_
  refine lv_iadd hx hb dL_law_428 ?_
  refine x_top (nI_add (5 * j) 1) ?_
  refine va_sld hx hb hX hbl hbA hH.2 (vp_in_nI (show (5 * j) + 1 < L by omega) (by omega)) dL_law_429 ?_
  rw [nI_clamp (by omega)]
  refine lv_aload_n hx hb dL_law_430 rfl (lv_at hl 0 rfl) ?_
  refine lv_iload_n hx hb dL_law_431 rfl (lv_at hl 3 rfl) ?_
  refine lv_iconst (v := 2) hx hb dL_law_432 (by decide) ?_
  refine lv_iadd hx hb dL_law_433 ?_
  refine x_top (nI_add (5 * j) 2) ?_
  refine va_sld hx hb hX hbl hbA hH.2 (vp_in_nI (show (5 * j) + 2 < L by omega) (by omega)) dL_law_434 ?_
  rw [nI_clamp (by omega)]
  refine lv_aload_n hx hb dL_law_435 rfl (lv_at hl 0 rfl) ?_
  refine lv_iload_n hx hb dL_law_436 rfl (lv_at hl 3 rfl) ?_
  refine lv_iconst (v := 3) hx hb dL_law_437 (by decide) ?_
  refine lv_iadd hx hb dL_law_438 ?_
  refine x_top (nI_add (5 * j) 3) ?_
  refine va_sld hx hb hX hbl hbA hH.2 (vp_in_nI (show (5 * j) + 3 < L by omega) (by omega)) dL_law_439 ?_
  rw [nI_clamp (by omega)]
  refine x_calliM F hH 47 (F.lt (by omega)) (vv4 0) rfl (c_X4_share l F.ad s_2 μ (xs ((5 * j) + 1)) (xs ((5 * j) + 2)) (xs ((5 * j) + 3))) cw_L_50 rfl rfl ⟨Nat.le_of_ble_eq_true rfl, Nat.le_of_ble_eq_true rfl⟩ rfl hl.1 rfl (Nat.le_of_ble_eq_true rfl) ⟨(show 54 + j ≤ 680474 by omega), (show 285 + 5 * j ≤ 7060826 by omega)⟩ dL_law_440 (fun r_4 s_5 H locs e_6 hH => ?_)
  have hr := rel_share hR (xs ((5 * j) + 1)) (xs ((5 * j) + 2)) (xs ((5 * j) + 3))
  rw [e_3, e_6] at hr
  obtain ⟨hq, hR⟩ := hr
  refine lv_icmp_eq (tgt := 550) hx hb dL_law_443 (by decide) (fun _ => ?_) (fun h => absurd hq h)
  refine lv_iinc (v := nI (5 * (j + 1))) (lv' := [(3, .int (nI (5 * (j + 1)))), (0, .ref b), (1, .ref (ea E 0)), (2, .ref (ea E 47))]) hx hb dL_law_550 hl (k := 3) rfl ((nI_add (5 * j) 5).trans (by rw [Nat.mul_succ])) (by decide) rfl (fun ls hl => ?_)
  refine lv_goto (tgt := 18) hx hb dL_law_553 (by decide) ?_
  refine W.widen (k := 54 + (j + 1)) (n := 285 + 5 * (j + 1)) (by omega) (by omega) ?_
  exact ih (j + 1) s_2 s_5 _ _ ls (by omega) (by omega) hR hH (lv_sub hl [1, 2, 3, 0] rfl)
set_option maxRecDepth 100000 in
set_option maxHeartbeats 8000000 in
theorem law_c8 {p : Program} {l : Launch} {e : Env} {s : State} {m : MethodId} {below : List Frame} {meth : Method} {c : Code} {b L : Nat} {xs : Nat → Int32} (hL : L ≤ 2560) (C0 : lw_At p s m meth c b L xs) {E : EV} (F : Fx E p s m #[Value.ref b] c code RL 4) (h54 : en E = 54) (hAE : eA E = fun q => s.heap.size ≤ q) (n : Nat) (ih : ∀ (j : Nat) (σ μ : St) (H : Heap) (locs : List Loc) (ls : Array Slot), 5 * j ≤ L → j + n = 513 → Rel σ μ → HS E s σ μ H locs → lv_has ls 4 [(0, .ref b), (1, .ref (ea E 0)), (2, .ref (ea E 47)), (3, .int (nI (5 * j)))] → W p l e room_1 s m #[Value.ref b] below meth c H locs (54 + j) (285 + 5 * j) (lw_Z below #[Value.ref b] s) (F0 m 18 ls [])) (j : Nat) (σ μ : St) (H : Heap) (locs : List Loc) (ls : Array Slot) (hj : 5 * j ≤ L) (hjn : j + (n + 1) = 513) (hR : Rel σ μ) (hH : HS E s σ μ H locs) (hl : lv_has ls 4 [(0, .ref b), (1, .ref (ea E 0)), (2, .ref (ea E 47)), (3, .int (nI (5 * j)))]) (hmore : 5 * j + 5 ≤ L) (x : Int32) (hv : x = nI 8) : W p l e room_1 s m #[Value.ref b] below meth c H locs (54 + j) (285 + 5 * j) (lw_Z below #[Value.ref b] s) (F0 m 32 ls [.int x]) := by
  obtain ⟨hx, hb, hr, hml, hown, hts, hX, hbl, hlocks, hgv⟩ := C0
  have hbA : ¬ eA E b := by rw [hAE]; exact Nat.not_le.mpr hbl
  refine lv_tableIn (off := 416) (tgt := 448) hx hb dL_law_32 (by rw [hv]; decide) (by rw [hv]; decide) (by rw [hv]; rfl) (by decide) ?_
  refine W.eq (g2 := F0 m 448 ls []) rfl ?_
  refine lv_aload_n hx hb dL_law_448 rfl (lv_at hl 1 rfl) ?_
  refine lv_aload_n hx hb dL_law_449 rfl (lv_at hl 0 rfl) ?_
  refine lv_iload_n hx hb dL_law_450 rfl (lv_at hl 3 rfl) ?_
  refine lv_iconst (v := 1) hx hb dL_law_451 (by decide) ?_
  refine lv_iadd hx hb dL_law_452 ?_
  refine x_top (nI_add (5 * j) 1) ?_
  refine va_sld hx hb hX hbl hbA hH.2 (vp_in_nI (show (5 * j) + 1 < L by omega) (by omega)) dL_law_453 ?_
  rw [nI_clamp (by omega)]
  refine x_calliX F hH 0 (F.lt (by omega)) (vv0 (by decide)) rfl (c_X3_first l F.ad σ μ (xs ((5 * j) + 1))) cw_L_51 rfl rfl ⟨Nat.le_of_ble_eq_true rfl, Nat.le_of_ble_eq_true rfl⟩ rfl hl.1 rfl (Nat.le_of_ble_eq_true rfl) ⟨(show 54 + j ≤ 680474 by omega), (show 285 + 5 * j ≤ 7060826 by omega)⟩ dL_law_454 (fun r_1 s_2 H locs e_3 hH => ?_)
  refine lv_aload_n hx hb dL_law_457 rfl (lv_at hl 2 rfl) ?_
  refine lv_aload_n hx hb dL_law_458 rfl (lv_at hl 0 rfl) ?_
  refine lv_iload_n hx hb dL_law_459 rfl (lv_at hl 3 rfl) ?_
  refine lv_iconst (v := 1) hx hb dL_law_460 (by decide) ?_
  refine lv_iadd hx hb dL_law_461 ?_
  refine x_top (nI_add (5 * j) 1) ?_
  refine va_sld hx hb hX hbl hbA hH.2 (vp_in_nI (show (5 * j) + 1 < L by omega) (by omega)) dL_law_462 ?_
  rw [nI_clamp (by omega)]
  refine x_calliM F hH 47 (F.lt (by omega)) (vv4 0) rfl (c_X4_first l F.ad s_2 μ (xs ((5 * j) + 1))) cw_L_54 rfl rfl ⟨Nat.le_of_ble_eq_true rfl, Nat.le_of_ble_eq_true rfl⟩ rfl hl.1 rfl (Nat.le_of_ble_eq_true rfl) ⟨(show 54 + j ≤ 680474 by omega), (show 285 + 5 * j ≤ 7060826 by omega)⟩ dL_law_463 (fun r_4 s_5 H locs e_6 hH => ?_)
  have hr := rel_first hR (xs ((5 * j) + 1))
  rw [e_3, e_6] at hr
  obtain ⟨hq, hR⟩ := hr
  refine lv_icmp_eq (tgt := 550) hx hb dL_law_466 (by decide) (fun _ => ?_) (fun h => absurd hq h)
  refine lv_iinc (v := nI (5 * (j + 1))) (lv' := [(3, .int (nI (5 * (j + 1)))), (0, .ref b), (1, .ref (ea E 0)), (2, .ref (ea E 47))]) hx hb dL_law_550 hl (k := 3) rfl ((nI_add (5 * j) 5).trans (by rw [Nat.mul_succ])) (by decide) rfl (fun ls hl => ?_)
  refine lv_goto (tgt := 18) hx hb dL_law_553 (by decide) ?_
  refine W.widen (k := 54 + (j + 1)) (n := 285 + 5 * (j + 1)) (by omega) (by omega) ?_
  exact ih (j + 1) s_2 s_5 _ _ ls (by omega) (by omega) hR hH (lv_sub hl [1, 2, 3, 0] rfl)
set_option maxRecDepth 100000 in
set_option maxHeartbeats 8000000 in
theorem law_c9 {p : Program} {l : Launch} {e : Env} {s : State} {m : MethodId} {below : List Frame} {meth : Method} {c : Code} {b L : Nat} {xs : Nat → Int32} (hL : L ≤ 2560) (C0 : lw_At p s m meth c b L xs) {E : EV} (F : Fx E p s m #[Value.ref b] c code RL 4) (h54 : en E = 54) (hAE : eA E = fun q => s.heap.size ≤ q) (n : Nat) (ih : ∀ (j : Nat) (σ μ : St) (H : Heap) (locs : List Loc) (ls : Array Slot), 5 * j ≤ L → j + n = 513 → Rel σ μ → HS E s σ μ H locs → lv_has ls 4 [(0, .ref b), (1, .ref (ea E 0)), (2, .ref (ea E 47)), (3, .int (nI (5 * j)))] → W p l e room_1 s m #[Value.ref b] below meth c H locs (54 + j) (285 + 5 * j) (lw_Z below #[Value.ref b] s) (F0 m 18 ls [])) (j : Nat) (σ μ : St) (H : Heap) (locs : List Loc) (ls : Array Slot) (hj : 5 * j ≤ L) (hjn : j + (n + 1) = 513) (hR : Rel σ μ) (hH : HS E s σ μ H locs) (hl : lv_has ls 4 [(0, .ref b), (1, .ref (ea E 0)), (2, .ref (ea E 47)), (3, .int (nI (5 * j)))]) (hmore : 5 * j + 5 ≤ L) (x : Int32) (hv : x = nI 9) : W p l e room_1 s m #[Value.ref b] below meth c H locs (54 + j) (285 + 5 * j) (lw_Z below #[Value.ref b] s) (F0 m 32 ls [.int x]) := by
  obtain ⟨hx, hb, hr, hml, hown, hts, hX, hbl, hlocks, hgv⟩ := C0
  have hbA : ¬ eA E b := by rw [hAE]; exact Nat.not_le.mpr hbl
  refine lv_tableIn (off := 439) (tgt := 471) hx hb dL_law_32 (by rw [hv]; decide) (by rw [hv]; decide) (by rw [hv]; rfl) (by decide) ?_
  refine W.eq (g2 := F0 m 471 ls []) rfl ?_
  refine lv_aload_n hx hb dL_law_471 rfl (lv_at hl 1 rfl) ?_
  refine lv_aload_n hx hb dL_law_472 rfl (lv_at hl 0 rfl) ?_
  refine lv_iload_n hx hb dL_law_473 rfl (lv_at hl 3 rfl) ?_
  refine lv_iconst (v := 1) hx hb dL_law_474 (by decide) ?_
  refine lv_iadd hx hb dL_law_475 ?_
  refine x_top (nI_add (5 * j) 1) ?_
  refine va_sld hx hb hX hbl hbA hH.2 (vp_in_nI (show (5 * j) + 1 < L by omega) (by omega)) dL_law_476 ?_
  rw [nI_clamp (by omega)]
  refine lv_aload_n hx hb dL_law_477 rfl (lv_at hl 0 rfl) ?_
  refine lv_iload_n hx hb dL_law_478 rfl (lv_at hl 3 rfl) ?_
  refine lv_iconst (v := 2) hx hb dL_law_479 (by decide) ?_
  refine lv_iadd hx hb dL_law_480 ?_
  refine x_top (nI_add (5 * j) 2) ?_
  refine va_sld hx hb hX hbl hbA hH.2 (vp_in_nI (show (5 * j) + 2 < L by omega) (by omega)) dL_law_481 ?_
  rw [nI_clamp (by omega)]
  refine x_calliX F hH 0 (F.lt (by omega)) (vv0 (by decide)) rfl (c_X3_look l F.ad σ μ (xs ((5 * j) + 1)) (xs ((5 * j) + 2))) cw_L_55 rfl rfl ⟨Nat.le_of_ble_eq_true rfl, Nat.le_of_ble_eq_true rfl⟩ rfl hl.1 rfl (Nat.le_of_ble_eq_true rfl) ⟨(show 54 + j ≤ 680474 by omega), (show 285 + 5 * j ≤ 7060826 by omega)⟩ dL_law_482 (fun r_1 s_2 H locs e_3 hH => ?_)
  refine lv_aload_n hx hb dL_law_485 rfl (lv_at hl 2 rfl) ?_
  refine lv_aload_n hx hb dL_law_486 rfl (lv_at hl 0 rfl) ?_
  refine lv_iload_n hx hb dL_law_487 rfl (lv_at hl 3 rfl) ?_
  refine lv_iconst (v := 1) hx hb dL_law_488 (by decide) ?_
  refine lv_iadd hx hb dL_law_489 ?_
  refine x_top (nI_add (5 * j) 1) ?_
  refine va_sld hx hb hX hbl hbA hH.2 (vp_in_nI (show (5 * j) + 1 < L by omega) (by omega)) dL_law_490 ?_
  rw [nI_clamp (by omega)]
  refine lv_aload_n hx hb dL_law_491 rfl (lv_at hl 0 rfl) ?_
  refine lv_iload_n hx hb dL_law_492 rfl (lv_at hl 3 rfl) ?_
  refine lv_iconst (v := 2) hx hb dL_law_493 (by decide) ?_
  refine lv_iadd hx hb dL_law_494 ?_
  refine x_top (nI_add (5 * j) 2) ?_
  refine va_sld hx hb hX hbl hbA hH.2 (vp_in_nI (show (5 * j) + 2 < L by omega) (by omega)) dL_law_495 ?_
  rw [nI_clamp (by omega)]
  refine x_calliM F hH 47 (F.lt (by omega)) (vv4 0) rfl (c_X4_look l F.ad s_2 μ (xs ((5 * j) + 1)) (xs ((5 * j) + 2))) cw_L_58 rfl rfl ⟨Nat.le_of_ble_eq_true rfl, Nat.le_of_ble_eq_true rfl⟩ rfl hl.1 rfl (Nat.le_of_ble_eq_true rfl) ⟨(show 54 + j ≤ 680474 by omega), (show 285 + 5 * j ≤ 7060826 by omega)⟩ dL_law_496 (fun r_4 s_5 H locs e_6 hH => ?_)
  have hr := rel_look hR (xs ((5 * j) + 1)) (xs ((5 * j) + 2))
  rw [e_3, e_6] at hr
  obtain ⟨hq, hR⟩ := hr
  refine lv_icmp_eq (tgt := 550) hx hb dL_law_499 (by decide) (fun _ => ?_) (fun h => absurd hq h)
  refine lv_iinc (v := nI (5 * (j + 1))) (lv' := [(3, .int (nI (5 * (j + 1)))), (0, .ref b), (1, .ref (ea E 0)), (2, .ref (ea E 47))]) hx hb dL_law_550 hl (k := 3) rfl ((nI_add (5 * j) 5).trans (by rw [Nat.mul_succ])) (by decide) rfl (fun ls hl => ?_)
  refine lv_goto (tgt := 18) hx hb dL_law_553 (by decide) ?_
  refine W.widen (k := 54 + (j + 1)) (n := 285 + 5 * (j + 1)) (by omega) (by omega) ?_
  exact ih (j + 1) s_2 s_5 _ _ ls (by omega) (by omega) hR hH (lv_sub hl [1, 2, 3, 0] rfl)
set_option maxRecDepth 100000 in
set_option maxHeartbeats 8000000 in
theorem law_c10 {p : Program} {l : Launch} {e : Env} {s : State} {m : MethodId} {below : List Frame} {meth : Method} {c : Code} {b L : Nat} {xs : Nat → Int32} (hL : L ≤ 2560) (C0 : lw_At p s m meth c b L xs) {E : EV} (F : Fx E p s m #[Value.ref b] c code RL 4) (h54 : en E = 54) (hAE : eA E = fun q => s.heap.size ≤ q) (n : Nat) (ih : ∀ (j : Nat) (σ μ : St) (H : Heap) (locs : List Loc) (ls : Array Slot), 5 * j ≤ L → j + n = 513 → Rel σ μ → HS E s σ μ H locs → lv_has ls 4 [(0, .ref b), (1, .ref (ea E 0)), (2, .ref (ea E 47)), (3, .int (nI (5 * j)))] → W p l e room_1 s m #[Value.ref b] below meth c H locs (54 + j) (285 + 5 * j) (lw_Z below #[Value.ref b] s) (F0 m 18 ls [])) (j : Nat) (σ μ : St) (H : Heap) (locs : List Loc) (ls : Array Slot) (hj : 5 * j ≤ L) (hjn : j + (n + 1) = 513) (hR : Rel σ μ) (hH : HS E s σ μ H locs) (hl : lv_has ls 4 [(0, .ref b), (1, .ref (ea E 0)), (2, .ref (ea E 47)), (3, .int (nI (5 * j)))]) (hmore : 5 * j + 5 ≤ L) (x : Int32) (hv : x = nI 10) : W p l e room_1 s m #[Value.ref b] below meth c H locs (54 + j) (285 + 5 * j) (lw_Z below #[Value.ref b] s) (F0 m 32 ls [.int x]) := by
  obtain ⟨hx, hb, hr, hml, hown, hts, hX, hbl, hlocks, hgv⟩ := C0
  have hbA : ¬ eA E b := by rw [hAE]; exact Nat.not_le.mpr hbl
  refine lv_tableIn (off := 472) (tgt := 504) hx hb dL_law_32 (by rw [hv]; decide) (by rw [hv]; decide) (by rw [hv]; rfl) (by decide) ?_
  refine W.eq (g2 := F0 m 504 ls []) rfl ?_
  refine lv_aload_n hx hb dL_law_504 rfl (lv_at hl 1 rfl) ?_
  refine lv_aload_n hx hb dL_law_505 rfl (lv_at hl 0 rfl) ?_
  refine lv_iload_n hx hb dL_law_506 rfl (lv_at hl 3 rfl) ?_
  refine lv_iconst (v := 1) hx hb dL_law_507 (by decide) ?_
  refine lv_iadd hx hb dL_law_508 ?_
  refine x_top (nI_add (5 * j) 1) ?_
  refine va_sld hx hb hX hbl hbA hH.2 (vp_in_nI (show (5 * j) + 1 < L by omega) (by omega)) dL_law_509 ?_
  rw [nI_clamp (by omega)]
  refine x_calliX F hH 0 (F.lt (by omega)) (vv0 (by decide)) rfl (c_X3_hand l F.ad σ μ (xs ((5 * j) + 1))) cw_L_59 rfl rfl ⟨Nat.le_of_ble_eq_true rfl, Nat.le_of_ble_eq_true rfl⟩ rfl hl.1 rfl (Nat.le_of_ble_eq_true rfl) ⟨(show 54 + j ≤ 680474 by omega), (show 285 + 5 * j ≤ 7060826 by omega)⟩ dL_law_510 (fun r_1 s_2 H locs e_3 hH => ?_)
  refine lv_aload_n hx hb dL_law_513 rfl (lv_at hl 2 rfl) ?_
  refine lv_aload_n hx hb dL_law_514 rfl (lv_at hl 0 rfl) ?_
  refine lv_iload_n hx hb dL_law_515 rfl (lv_at hl 3 rfl) ?_
  refine lv_iconst (v := 1) hx hb dL_law_516 (by decide) ?_
  refine lv_iadd hx hb dL_law_517 ?_
  refine x_top (nI_add (5 * j) 1) ?_
  refine va_sld hx hb hX hbl hbA hH.2 (vp_in_nI (show (5 * j) + 1 < L by omega) (by omega)) dL_law_518 ?_
  rw [nI_clamp (by omega)]
  refine x_calliM F hH 47 (F.lt (by omega)) (vv4 0) rfl (c_X4_hand l F.ad s_2 μ (xs ((5 * j) + 1))) cw_L_62 rfl rfl ⟨Nat.le_of_ble_eq_true rfl, Nat.le_of_ble_eq_true rfl⟩ rfl hl.1 rfl (Nat.le_of_ble_eq_true rfl) ⟨(show 54 + j ≤ 680474 by omega), (show 285 + 5 * j ≤ 7060826 by omega)⟩ dL_law_519 (fun r_4 s_5 H locs e_6 hH => ?_)
  have hr := rel_hand hR (xs ((5 * j) + 1))
  rw [e_3, e_6] at hr
  obtain ⟨hq, hR⟩ := hr
  refine lv_icmp_eq (tgt := 550) hx hb dL_law_522 (by decide) (fun _ => ?_) (fun h => absurd hq h)
  refine lv_iinc (v := nI (5 * (j + 1))) (lv' := [(3, .int (nI (5 * (j + 1)))), (0, .ref b), (1, .ref (ea E 0)), (2, .ref (ea E 47))]) hx hb dL_law_550 hl (k := 3) rfl ((nI_add (5 * j) 5).trans (by rw [Nat.mul_succ])) (by decide) rfl (fun ls hl => ?_)
  refine lv_goto (tgt := 18) hx hb dL_law_553 (by decide) ?_
  refine W.widen (k := 54 + (j + 1)) (n := 285 + 5 * (j + 1)) (by omega) (by omega) ?_
  exact ih (j + 1) s_2 s_5 _ _ ls (by omega) (by omega) hR hH (lv_sub hl [1, 2, 3, 0] rfl)
set_option maxRecDepth 100000 in
set_option maxHeartbeats 8000000 in
theorem law_c11 {p : Program} {l : Launch} {e : Env} {s : State} {m : MethodId} {below : List Frame} {meth : Method} {c : Code} {b L : Nat} {xs : Nat → Int32} (hL : L ≤ 2560) (C0 : lw_At p s m meth c b L xs) {E : EV} (F : Fx E p s m #[Value.ref b] c code RL 4) (h54 : en E = 54) (hAE : eA E = fun q => s.heap.size ≤ q) (n : Nat) (ih : ∀ (j : Nat) (σ μ : St) (H : Heap) (locs : List Loc) (ls : Array Slot), 5 * j ≤ L → j + n = 513 → Rel σ μ → HS E s σ μ H locs → lv_has ls 4 [(0, .ref b), (1, .ref (ea E 0)), (2, .ref (ea E 47)), (3, .int (nI (5 * j)))] → W p l e room_1 s m #[Value.ref b] below meth c H locs (54 + j) (285 + 5 * j) (lw_Z below #[Value.ref b] s) (F0 m 18 ls [])) (j : Nat) (σ μ : St) (H : Heap) (locs : List Loc) (ls : Array Slot) (hj : 5 * j ≤ L) (hjn : j + (n + 1) = 513) (hR : Rel σ μ) (hH : HS E s σ μ H locs) (hl : lv_has ls 4 [(0, .ref b), (1, .ref (ea E 0)), (2, .ref (ea E 47)), (3, .int (nI (5 * j)))]) (hmore : 5 * j + 5 ≤ L) (x : Int32) (hv : x = nI 11) : W p l e room_1 s m #[Value.ref b] below meth c H locs (54 + j) (285 + 5 * j) (lw_Z below #[Value.ref b] s) (F0 m 32 ls [.int x]) := by
  obtain ⟨hx, hb, hr, hml, hown, hts, hX, hbl, hlocks, hgv⟩ := C0
  have hbA : ¬ eA E b := by rw [hAE]; exact Nat.not_le.mpr hbl
  refine lv_tableIn (off := 495) (tgt := 527) hx hb dL_law_32 (by rw [hv]; decide) (by rw [hv]; decide) (by rw [hv]; rfl) (by decide) ?_
  refine W.eq (g2 := F0 m 527 ls []) rfl ?_
  refine lv_aload_n hx hb dL_law_527 rfl (lv_at hl 1 rfl) ?_
  refine lv_aload_n hx hb dL_law_528 rfl (lv_at hl 0 rfl) ?_
  refine lv_iload_n hx hb dL_law_529 rfl (lv_at hl 3 rfl) ?_
  refine lv_iconst (v := 1) hx hb dL_law_530 (by decide) ?_
  refine lv_iadd hx hb dL_law_531 ?_
  refine x_top (nI_add (5 * j) 1) ?_
  refine va_sld hx hb hX hbl hbA hH.2 (vp_in_nI (show (5 * j) + 1 < L by omega) (by omega)) dL_law_532 ?_
  rw [nI_clamp (by omega)]
  refine x_calliR F hH 0 (F.lt (by omega)) (vv0 (by decide)) rfl (c_X3_count l F.ad σ μ (xs ((5 * j) + 1))) cw_L_63 rfl rfl ⟨Nat.le_of_ble_eq_true rfl, Nat.le_of_ble_eq_true rfl⟩ rfl hl.1 rfl (Nat.le_of_ble_eq_true rfl) ⟨(show 54 + j ≤ 680474 by omega), (show 285 + 5 * j ≤ 7060826 by omega)⟩ dL_law_533 (fun H locs hH => ?_)
  refine lv_aload_n hx hb dL_law_536 rfl (lv_at hl 2 rfl) ?_
  refine lv_aload_n hx hb dL_law_537 rfl (lv_at hl 0 rfl) ?_
  refine lv_iload_n hx hb dL_law_538 rfl (lv_at hl 3 rfl) ?_
  refine lv_iconst (v := 1) hx hb dL_law_539 (by decide) ?_
  refine lv_iadd hx hb dL_law_540 ?_
  refine x_top (nI_add (5 * j) 1) ?_
  refine va_sld hx hb hX hbl hbA hH.2 (vp_in_nI (show (5 * j) + 1 < L by omega) (by omega)) dL_law_541 ?_
  rw [nI_clamp (by omega)]
  refine x_calliM F hH 47 (F.lt (by omega)) (vv4 0) rfl (c_X4_count l F.ad σ μ (xs ((5 * j) + 1))) cw_L_66 rfl rfl ⟨Nat.le_of_ble_eq_true rfl, Nat.le_of_ble_eq_true rfl⟩ rfl hl.1 rfl (Nat.le_of_ble_eq_true rfl) ⟨(show 54 + j ≤ 680474 by omega), (show 285 + 5 * j ≤ 7060826 by omega)⟩ dL_law_542 (fun r_1 s_2 H locs e_3 hH => ?_)
  have hr := rel_count hR (xs ((5 * j) + 1))
  rw [e_3] at hr
  obtain ⟨hq, hR⟩ := hr
  refine lv_icmp_eq (tgt := 550) hx hb dL_law_545 (by decide) (fun _ => ?_) (fun h => absurd hq h)
  refine lv_iinc (v := nI (5 * (j + 1))) (lv' := [(3, .int (nI (5 * (j + 1)))), (0, .ref b), (1, .ref (ea E 0)), (2, .ref (ea E 47))]) hx hb dL_law_550 hl (k := 3) rfl ((nI_add (5 * j) 5).trans (by rw [Nat.mul_succ])) (by decide) rfl (fun ls hl => ?_)
  refine lv_goto (tgt := 18) hx hb dL_law_553 (by decide) ?_
  refine W.widen (k := 54 + (j + 1)) (n := 285 + 5 * (j + 1)) (by omega) (by omega) ?_
  exact ih (j + 1) σ s_2 _ _ ls (by omega) (by omega) hR hH (lv_sub hl [1, 2, 3, 0] rfl)
set_option maxRecDepth 100000 in
set_option maxHeartbeats 8000000 in
theorem law_cO {p : Program} {l : Launch} {e : Env} {s : State} {m : MethodId} {below : List Frame} {meth : Method} {c : Code} {b L : Nat} {xs : Nat → Int32} (hL : L ≤ 2560) (C0 : lw_At p s m meth c b L xs) {E : EV} (F : Fx E p s m #[Value.ref b] c code RL 4) (h54 : en E = 54) (hAE : eA E = fun q => s.heap.size ≤ q) (n : Nat) (ih : ∀ (j : Nat) (σ μ : St) (H : Heap) (locs : List Loc) (ls : Array Slot), 5 * j ≤ L → j + n = 513 → Rel σ μ → HS E s σ μ H locs → lv_has ls 4 [(0, .ref b), (1, .ref (ea E 0)), (2, .ref (ea E 47)), (3, .int (nI (5 * j)))] → W p l e room_1 s m #[Value.ref b] below meth c H locs (54 + j) (285 + 5 * j) (lw_Z below #[Value.ref b] s) (F0 m 18 ls [])) (j : Nat) (σ μ : St) (H : Heap) (locs : List Loc) (ls : Array Slot) (hj : 5 * j ≤ L) (hjn : j + (n + 1) = 513) (hR : Rel σ μ) (hH : HS E s σ μ H locs) (hl : lv_has ls 4 [(0, .ref b), (1, .ref (ea E 0)), (2, .ref (ea E 47)), (3, .int (nI (5 * j)))]) (hmore : 5 * j + 5 ≤ L) (x : Int32) (v : Nat) (h11 : 11 < v) (h16 : v < 16) (hv : x = nI v) : W p l e room_1 s m #[Value.ref b] below meth c H locs (54 + j) (285 + 5 * j) (lw_Z below #[Value.ref b] s) (F0 m 32 ls [.int x]) := by
  obtain ⟨hx, hb, hr, hml, hown, hts, hX, hbl, hlocks, hgv⟩ := C0
  have hbA : ¬ eA E b := by rw [hAE]; exact Nat.not_le.mpr hbl
  refine lv_tableOut (tgt := 550) hx hb dL_law_32 (by right; rw [hv, nI_toInt (by omega)]; omega) (by decide) ?_
  refine W.eq (g2 := F0 m 550 ls []) rfl ?_
  refine lv_iinc (v := nI (5 * (j + 1))) (lv' := [(3, .int (nI (5 * (j + 1)))), (0, .ref b), (1, .ref (ea E 0)), (2, .ref (ea E 47))]) hx hb dL_law_550 hl (k := 3) rfl ((nI_add (5 * j) 5).trans (by rw [Nat.mul_succ])) (by decide) rfl (fun ls hl => ?_)
  refine lv_goto (tgt := 18) hx hb dL_law_553 (by decide) ?_
  refine W.widen (k := 54 + (j + 1)) (n := 285 + 5 * (j + 1)) (by omega) (by omega) ?_
  exact ih (j + 1) σ μ _ _ ls (by omega) (by omega) hR hH (lv_sub hl [1, 2, 3, 0] rfl)
theorem law_loop {p : Program} {l : Launch} {e : Env} {s : State} {m : MethodId} {below : List Frame} {meth : Method} {c : Code} {b L : Nat} {xs : Nat → Int32} (hL : L ≤ 2560) (C0 : lw_At p s m meth c b L xs) {E : EV} (F : Fx E p s m #[Value.ref b] c code RL 4) (h54 : en E = 54) (hAE : eA E = fun q => s.heap.size ≤ q) : ∀ (n : Nat), ∀ (j : Nat) (σ μ : St) (H : Heap) (locs : List Loc) (ls : Array Slot), 5 * j ≤ L → j + n = 513 → Rel σ μ → HS E s σ μ H locs → lv_has ls 4 [(0, .ref b), (1, .ref (ea E 0)), (2, .ref (ea E 47)), (3, .int (nI (5 * j)))] → W p l e room_1 s m #[Value.ref b] below meth c H locs (54 + j) (285 + 5 * j) (lw_Z below #[Value.ref b] s) (F0 m 18 ls []) := by
  intro n
  induction n with
  | zero => intro j σ μ H locs ls hj hjn; exact absurd hjn (by omega)
  | succ n ih =>
    intro j σ μ H locs ls hj hjn hR hH hl
    obtain ⟨hx, hb, hr, hml, hown, hts, hX, hbl, hlocks, hgv⟩ := id C0
    have hbA : ¬ eA E b := by rw [hAE]; exact Nat.not_le.mpr hbl
    refine lv_iload_n hx hb dL_law_18 rfl (lv_at hl 3 rfl) ?_
    refine lv_aload_n hx hb dL_law_19 rfl (lv_at hl 0 rfl) ?_
    refine va_slen hx hb hX hbl hbA hH.2 dL_law_20 ?_
    refine lv_iconst (v := 5) hx hb dL_law_21 (by decide) ?_
    refine lv_isub hx hb dL_law_22 ?_
    refine lv_icmp_gt (tgt := 556) hx hb dL_law_23 (by decide) (fun c_0 => ?_) (fun c_0 => ?_)
    · refine lv_iconst (v := 1) hx hb dL_law_556 (by decide) ?_
      refine va_forget (fun q hq => ?_) ?_
      · have := hH.2.2.2 q hq
        rw [hAE] at this
        exact this
      · refine W.widen (k := 680474) (n := 7060826) (by omega) (by omega) ?_
        exact lw_ret hx hb hr hlocks dL_law_557
    · have hmore : 5 * j + 5 ≤ L := law_more hL hj c_0
      refine lv_aload_n hx hb dL_law_26 rfl (lv_at hl 0 rfl) ?_
      refine lv_iload_n hx hb dL_law_27 rfl (lv_at hl 3 rfl) ?_
      refine va_sld hx hb hX hbl hbA hH.2 (vp_in_nI (show 5 * j < L by omega) (by omega)) dL_law_28 ?_
      refine lv_bipush (v := 15) hx hb dL_law_29 (by decide) ?_
      refine lv_iand hx hb dL_law_31 ?_
      obtain ⟨v, hv16, hv⟩ := pk_andE (xs (nI (5 * j)).toNatClampNeg) (m := 15) 4 (by decide)
      rcases Nat.lt_or_ge 11 v with h11 | h11
      · exact law_cO hL C0 F h54 hAE n ih j σ μ H locs ls hj hjn hR hH hl hmore _ v h11 (by omega) hv
      · match v, h11, hv with
        | 0, _, hv => exact law_c0 hL C0 F h54 hAE n ih j σ μ H locs ls hj hjn hR hH hl hmore _ hv
        | 1, _, hv => exact law_c1 hL C0 F h54 hAE n ih j σ μ H locs ls hj hjn hR hH hl hmore _ hv
        | 2, _, hv => exact law_c2 hL C0 F h54 hAE n ih j σ μ H locs ls hj hjn hR hH hl hmore _ hv
        | 3, _, hv => exact law_c3 hL C0 F h54 hAE n ih j σ μ H locs ls hj hjn hR hH hl hmore _ hv
        | 4, _, hv => exact law_c4 hL C0 F h54 hAE n ih j σ μ H locs ls hj hjn hR hH hl hmore _ hv
        | 5, _, hv => exact law_c5 hL C0 F h54 hAE n ih j σ μ H locs ls hj hjn hR hH hl hmore _ hv
        | 6, _, hv => exact law_c6 hL C0 F h54 hAE n ih j σ μ H locs ls hj hjn hR hH hl hmore _ hv
        | 7, _, hv => exact law_c7 hL C0 F h54 hAE n ih j σ μ H locs ls hj hjn hR hH hl hmore _ hv
        | 8, _, hv => exact law_c8 hL C0 F h54 hAE n ih j σ μ H locs ls hj hjn hR hH hl hmore _ hv
        | 9, _, hv => exact law_c9 hL C0 F h54 hAE n ih j σ μ H locs ls hj hjn hR hH hl hmore _ hv
        | 10, _, hv => exact law_c10 hL C0 F h54 hAE n ih j σ μ H locs ls hj hjn hR hH hl hmore _ hv
        | 11, _, hv => exact law_c11 hL C0 F h54 hAE n ih j σ μ H locs ls hj hjn hR hH hl hmore _ hv
        | v + 12, h11, _ => exact absurd h11 (by omega)
