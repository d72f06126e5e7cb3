section G8
variable {p : Program} {l : Launch} {e : Env} {R : Room} {s : State} {m : MethodId} {args : Array Value} {below : List Frame} {meth : Method} {c : Code} {H : Heap} {locs : List Loc} {cells slots : Nat} {Q : State → Prop}
variable {cc : ByteArray} {nL : Nat} {ret : Option FieldType} {Ts : List Cond} {own : String} {D : va_G} {tys : List (ClassId × FieldType)} {A : Nat → Prop} {pc : Nat} {ls : Array Slot} {rest : List Value} {ws : va_W}
/-- a public constructor's call; what else it wants of the tables is E -/
theorem x_callI (X : Fx p s m args meth c cc nL ret Ts own D tys A) (hW : Wd D A s.heap H locs ws) {y : MethodName} {bytes : ByteArray} {maxL n index mc ms : Nat} {wsy : List Cond} {rm : Room} {b : Nat} {As st0 : List Value} {wc : va_W} {S : Type} {w1 wz : S → va_W} {post : S → Prop} {E : State → Prop} (hM : Met l y wsy rm (va_Pc (.ref b :: As) (fun U => st_W D tys wc H.size U ∧ E U)) (va_Qv post (fun u t => at_W D tys (va_A wc H.size) (w1 u) t) (va_A wc H.size)) mc ms (va_A wc H.size)) (cw : CallB R s args own index y bytes maxL none wsy rm mc ms n ∧ y.name = "<init>" ∧ (Cond.instanceMethod y).before args s = true) (hEb : ∀ (a : Array Value) (U : State) (g : JFrame) (mk : MethodId), E U → E (U.calling g mk a)) (hE : ∀ U : State, s.WarmedH U.vm → E U) (isC isR pm : List Nat) (hC : isC.map (fun i => ws[i]?) = wc.map some) (hRr : isR.map (fun i => ws[i]?) = (isR.filterMap (fun i => ws[i]?)).map some) (hdis : va_nd isR = true ∧ va_nd isC = true ∧ va_nd pm = true ∧ (∀ i ∈ isR, i ∉ isC)) (hz : ∀ u, pm.map (fun i => (isR.filterMap (fun i => ws[i]?) ++ w1 u)[i]?) = (wz u).map some) (hn : As.length = n) (hsz : ls.size = nL) (hst : st0 = As.reverse ++ .ref b :: rest) (hrm : (rest.map fun v => v.category).sum ≤ 8) (hcs : cells + mc ≤ R.cells ∧ slots + ms ≤ R.slots) (hd : decode cc pc = .ok (.invokespecial index, 3)) (kk : ∀ (u : S) (H1 : Heap) (locs1 : List Loc), post u → Wd D A s.heap H1 locs1 (wz u) → W p l e R s m args below meth c H1 locs1 (cells + mc) (slots + ms) Q (F0 m (pc + 3) ls rest)) : W p l e R s m args below meth c H locs cells slots Q (F0 m pc ls st0) := by
  have hF := va_free (wc := wc) hW.2.1 hW.2.2 X.2.2.2.2.2.2.2.2 isC hC
  refine va_callv (va_runI (As := As) (rest := rest) ⟨X.1, X.2.1, X.2.2.2.1, X.2.2.2.2.1, X.2.2.2.2.2.1⟩ hM cw ⟨fun a U g mk q => by obtain ⟨q0, ⟨q1, qP, qK, qD⟩, qE⟩ := q; exact ⟨q0, ⟨q1, qP, va_K.moved (u := U) (U := U.calling g mk a) (Vm.Alike.refl U.vm) qK, qD⟩, hEb a U g mk qE⟩, fun U hU hWm => ⟨rfl, ⟨by rw [hU], by rw [hU]; exact hW.1.sub isC (fm_of hC), va_K.moved hWm.alike X.2.2.2.2.2.2.2.1, (hW.2.1.sub isC hdis.2.1 hC).weaken (fun _ _ _ _ => trivial)⟩, hE U hWm⟩⟩ rfl hn hsz hst (lv_room hrm) hd hcs) hW.2.2 (fun q _ h => hF q h) hF (fun u t H1 locs1 ht hvm hw hB hz1 hk1 hS => ?_)
  obtain ⟨hP1, hK1, hD1⟩ := hB
  rw [ht] at hP1
  obtain ⟨hP2, hD2⟩ := va_join hW.1 hW.2.1 isC isR hC hRr hdis.1 hdis.2.2.2 hk1 hF hP1 hD1
  exact kk u H1 locs1 hw (Wd.sub (ws := isR.filterMap (fun i => ws[i]?) ++ w1 u) ⟨hP2, hD2, hS⟩ pm hdis.2.2.1 (hz u))
end G8
theorem e5_calling (a : Array Value) (U : State) (g : JFrame) (mk : MethodId) (h : e5_N U) : e5_N (U.calling g mk a) :=
  ⟨va_AO.moved (Vm.Alike.refl U.vm) h.1, va_Nw.same rfl rfl h.2.1, va_Nw.same rfl rfl h.2.2.1, va_Nw.same rfl rfl h.2.2.2.1, va_Nw.same rfl rfl h.2.2.2.2⟩
theorem e5_warm {s U : State} (hW : s.WarmedH U.vm) (h : e5_N s) : e5_N U :=
  ⟨va_AO.moved hW.alike h.1, va_Nw.warmM hW h.2.1, va_Nw.warmM hW h.2.2.1, va_Nw.warmM hW h.2.2.2.1, va_Nw.warmM hW h.2.2.2.2⟩
theorem lw_known {args : Array Value} {s : State} (hts : ∀ w ∈ lw_tbl, w.before args s = true) : ∃ (D : va_G) (cI cZ cO : ClassId), va_K D vwCl (ty3 cI cZ cO) s := by
  obtain ⟨c0, i0, k0⟩ := u_known (C := RX0) (T := TX0) (N := 5) (n := 5) hts inX0 (hts (.instantiable RX0 5) (List.mem_append_right _ (List.mem_of_getElem? (i := 23) (by decide +kernel))))
  obtain ⟨c1, i1, k1⟩ := u_known (C := RX1) (T := TX1) (N := 4) (n := 4) hts inX1 (hts (.instantiable RX1 4) (List.mem_append_right _ (List.mem_of_getElem? (i := 51) (by decide +kernel))))
  obtain ⟨c2, i2, k2⟩ := u_known (C := RX2) (T := TX2) (N := 12) (n := 12) hts inX2 (hts (.instantiable RX2 12) (List.mem_append_right _ (List.mem_of_getElem? (i := 72) (by decide +kernel))))
  obtain ⟨c3, i3, k3⟩ := u_known (C := RX3) (T := TX3) (N := 4) (n := 4) hts inX3 (hts (.instantiable RX3 4) (List.mem_append_right _ (List.mem_of_getElem? (i := 116) (by decide +kernel))))
  obtain ⟨c5, i5, k5⟩ := u_known (C := RX5) (T := TX5) (N := 7) (n := 7) hts inX5 (hts (.instantiable RX5 7) (List.mem_append_right _ (List.mem_of_getElem? (i := 13) (by decide +kernel))))
  obtain ⟨c6, i6, k6⟩ := u_known (C := RX6) (T := TX6) (N := 30) (n := 30) hts inX6 (hts (.instantiable RX6 30) (List.mem_append_right _ (List.mem_of_getElem? (i := 548) (by decide +kernel))))
  obtain ⟨cI, kI, pI, a1, a2, a3⟩ := Cond.arrayClass_spec (type := .int) (hts (.arrayClass .int) (List.mem_append_right _ (List.mem_of_getElem? (i := 49) (by decide +kernel))))
  obtain ⟨cZ, kZ, pZ, z1, z2, z3⟩ := Cond.arrayClass_spec (type := .boolean) (hts (.arrayClass .boolean) (List.mem_append_right _ (List.mem_of_getElem? (i := 70) (by decide +kernel))))
  obtain ⟨pO, cO, kO, b1, b2, b3, b4, b5⟩ := Cond.arrayOver_spec (n := "WaterConsent$Sheet") (hts (.arrayOver (.object "WaterConsent$Sheet")) (List.mem_append_right _ (List.mem_of_getElem? (i := 21) (by decide +kernel))))
  refine ⟨(fun k => match k with | 0 => c0 | 1 => c1 | 2 => c2 | 3 => c3 | 4 => c5 | _ => c6, fun k => match k with | 0 => i0 | 1 => i1 | 2 => i2 | 3 => i3 | 4 => i5 | _ => i6), cI, cZ, cO, fun k q hq => ?_, fun k q hq => ?_⟩
  · match k, hq with
    | 0, hq => cases hq; exact k0
    | 1, hq => cases hq; exact k1
    | 2, hq => cases hq; exact k2
    | 3, hq => cases hq; exact k3
    | 4, hq => cases hq; exact k5
    | 5, hq => cases hq; exact k6
    | k + 6, hq => cases hq
  · match k, hq with
    | 0, hq => cases hq; exact ⟨fun N z => ⟨(fun k h => by cases h), kI, a2, pI, a3⟩, a1⟩
    | 1, hq => cases hq; exact ⟨fun N z => ⟨(fun k h => by cases h), kZ, z2, pZ, z3⟩, z1⟩
    | 2, hq => cases hq; exact ⟨fun N z => ⟨(fun k h => by cases h), kO, b3, pO, b4⟩, kO, pO, b3, b4, b1, b5⟩
    | k + 3, hq => cases hq
theorem lw_e5 {args : Array Value} {s : State} (hts : ∀ w ∈ lw_tbl, w.before args s = true) : e5_N s :=
  ⟨va_AO.of (hts (.arrayOver (.object "WaterConsent$Sheet")) (List.mem_append_right _ (List.mem_of_getElem? (i := 21) (by decide +kernel)))), va_Nw.of rfl (hts (.methodLinkNest RX5 19 yX0_init "WaterConsent") (List.mem_append_right _ (List.mem_of_getElem? (i := 24) (by decide +kernel)))), va_Nw.of rfl (hts (.methodLinkNest RX5 29 yX1_init "WaterConsent") (List.mem_append_right _ (List.mem_of_getElem? (i := 52) (by decide +kernel)))), va_Nw.of rfl (hts (.methodLinkNest RX5 36 yX2_init "WaterConsent") (List.mem_append_right _ (List.mem_of_getElem? (i := 73) (by decide +kernel)))), va_Nw.of rfl (hts (.methodLinkNest RX5 41 yX3_init "WaterConsent") (List.mem_append_right _ (List.mem_of_getElem? (i := 117) (by decide +kernel))))⟩
theorem sub6 {L : Nat} (h : L ≤ 3072) : (nI L - nI 6).toInt = (L : Int) - 6 := by
  by_cases q : 6 ≤ L
  · rw [pk_sub q, nI_toInt (by omega)]; omega
  · rcases (show L = 0 ∨ L = 1 ∨ L = 2 ∨ L = 3 ∨ L = 4 ∨ L = 5 by omega) with rfl | rfl | rfl | rfl | rfl | rfl <;> decide
/-! THE CLAIM OUT OF ONE WALK OF THE LAW'S BODY. Your part is whole_start (and what it stands on); all else here is the same for every law, but numbers. -/
def R_law : String := "WaterConsentLaw"
def lw_P (b : Addr) (xs : List Int32) (args : Array Value) (s : State) : Prop := args = #[.ref b] ∧ s.IntsAt b xs ∧ xs.length ≤ 3072 ∧ (Jvm.Cond.and given_1 narrow_1).before args s = true
def lw_Q (_ : Array Value) (s : State) (o : Outcome) (t : State) : Prop := o = .returned (some (.int 1)) ∧ Framed s o t [] 600000 7302250
def lw_Z (below : List Frame) (a : Array Value) (s : State) : State → Prop := fun t => ∃ o, t.status = .running ∧ Ended t below o ∧ lw_Q a s o t
/-- the law's own end, with 1 on the stack, nothing written that was there before, its room as the claim has it -/
theorem lw_ret {p : Program} {l : Launch} {e : Env} {s : State} {m : MethodId} {below : List Frame} {meth : Method} {c : Code} {b : Nat} (hx : p.tables.exec = Jvm.exec) (hb : c.code = code) (hr : meth.sig.returnType = ret) (hlocks : meth.locks = false) {pc : Nat} {H : Heap} {ls : Array Slot} (hdg : decode code pc = .ok (.ireturn, 1)) : W p l e room_1 s m #[Value.ref b] below meth c H [] 600000 7302250 (lw_Z below #[Value.ref b] s) (F0 m pc ls [.int 1]) := by
  intro T hT X
  obtain ⟨fs, hret, hrun, hended, hW, hframe⟩ := X.leave (v := some (.int 1)) (hlocks := hlocks) (fun h => by rw [hr] at h; cases h)
  have hmeth' : T.vm.method? m = some meth := X.method'
  refine ⟨T.setFrames fs, ?_, .returned (some (.int 1)), hrun, hended, rfl, ⟨_, rfl⟩, hW, hframe⟩
  jvm_step X.here [X.here.top, hx, hb, hdg, hmeth', hr, ret, narrow_b1]
  (try refine ⟨rfl, ?_⟩); (try refine ⟨rfl, ?_⟩)
  first | (intro acts; rw [hret _ acts rfl rfl rfl]) | rw [hret _ _ rfl rfl rfl]
  exact Steps.refl _
/-- what holds at the law's entry: the machine, the code, the tables' words (any of lw_tbl by 'hts w (by decide +kernel)'), the script of L ints xs at the cell b, what the Statement gives of the start (any of its parts by flat_of_before) -/
def lw_At (p : Program) (s : State) (m : MethodId) (meth : Method) (c : Code) (b L : Nat) (xs : Nat → Int32) : Prop :=
  p.tables.exec = Jvm.exec ∧ c.code = code ∧ meth.sig.returnType = ret ∧ c.maxLocals = 4 ∧ s.vm.findClass R_law = some m.cls ∧ (∀ w ∈ lw_tbl, w.before #[Value.ref b] s = true) ∧ va_X b L xs s s.heap ∧ b < s.heap.size ∧ meth.locks = false ∧ (Jvm.Cond.and given_1 narrow_1).before #[Value.ref b] s = true
set_option maxHeartbeats 4000000 in
set_option maxRecDepth 100000 in
theorem law_switch {p : Program} {e : Env} {s : State} {m : MethodId} {below : List Frame} {meth : Method} {c : Code} {D : va_G} {cI cZ cO : ClassId} {l : Launch} {b L xq mq : Nat} {xs : Nat → Int32} (X : Fx p s m #[Value.ref b] meth c code 4 ret wsL_law RL D (ty3 cI cZ cO) (fun q : Nat => s.heap.size ≤ q)) (hX : va_X b L xs s s.heap) (hbl : b < s.heap.size) (hbA : ¬ (fun q : Nat => s.heap.size ≤ q) b) (hL : L ≤ 3072) {i : Nat} {H : Heap} {locs : List Loc} {ls : Array Slot} (hi : i + 6 ≤ L) (hI : lw_I D cI cZ cO (fun q : Nat => s.heap.size ≤ q) s.heap xq mq H locs) (hl : lv_has ls 4 [(3, .int (nI i)), (2, .ref mq), (1, .ref xq), (0, .ref b)]) (next : ∀ (H : Heap) (locs : List Loc) (ls : Array Slot), lw_I D cI cZ cO (fun q : Nat => s.heap.size ≤ q) s.heap xq mq H locs → lv_has ls 4 [(3, .int (nI i)), (2, .ref mq), (1, .ref xq), (0, .ref b)] → W p l e room_1 s m #[Value.ref b] below meth c H locs 600000 7302250 (lw_Z below #[Value.ref b] s) (F0 m 1045 ls [])) {j : Nat} (hj : j < 32) : W p l e room_1 s m #[Value.ref b] below meth c H locs 600000 7302250 (lw_Z below #[Value.ref b] s) (F0 m 33 ls [.int (nI j)]) := by
  rcases (show j = 0 ∨ j = 1 ∨ j = 2 ∨ j = 3 ∨ j = 4 ∨ j = 5 ∨ j = 6 ∨ j = 7 ∨ j = 8 ∨ j = 9 ∨ j = 10 ∨ j = 11 ∨ j = 12 ∨ j = 13 ∨ j = 14 ∨ j = 15 ∨ j = 16 ∨ j = 17 ∨ j = 18 ∨ j = 19 ∨ j = 20 ∨ j = 21 ∨ j = 22 ∨ j = 23 ∨ j = 24 ∨ j = 25 ∨ j = 26 ∨ j = 27 ∨ j = 28 ∨ j = 29 ∨ j = 30 ∨ j = 31 by omega) with rfl | rfl | rfl | rfl | rfl | rfl | rfl | rfl | rfl | rfl | rfl | rfl | rfl | rfl | rfl | rfl | rfl | rfl | rfl | rfl | rfl | rfl | rfl | rfl | rfl | rfl | rfl | rfl | rfl | rfl | rfl | rfl
  · refine lv_tableIn (off := 123) (tgt := 156) X.1 X.2.1 dL_law_33 (by decide) (by decide) (by decide) (by decide) ?_
    exact law_canal X hX hbl hbA hL hi hI hl next
  · refine lv_tableIn (off := 176) (tgt := 209) X.1 X.2.1 dL_law_33 (by decide) (by decide) (by decide) (by decide) ?_
    exact law_ofReach X hX hbl hbA hL hi hI hl next
  · refine lv_tableIn (off := 209) (tgt := 242) X.1 X.2.1 dL_law_33 (by decide) (by decide) (by decide) (by decide) ?_
    exact law_fill X hX hbl hbA hL hi hI hl next
  · refine lv_tableIn (off := 242) (tgt := 275) X.1 X.2.1 dL_law_33 (by decide) (by decide) (by decide) (by decide) ?_
    exact law_rain X hX hbl hbA hL hi hI hl next
  · refine lv_tableIn (off := 265) (tgt := 298) X.1 X.2.1 dL_law_33 (by decide) (by decide) (by decide) (by decide) ?_
    exact law_gates X hX hbl hbA hL hi hI hl next
  · refine lv_tableIn (off := 278) (tgt := 311) X.1 X.2.1 dL_law_33 (by decide) (by decide) (by decide) (by decide) ?_
    exact law_open X hX hbl hbA hL hi hI hl next
  · refine lv_tableIn (off := 301) (tgt := 334) X.1 X.2.1 dL_law_33 (by decide) (by decide) (by decide) (by decide) ?_
    exact law_nights X hX hbl hbA hL hi hI hl next
  · refine lv_tableIn (off := 324) (tgt := 357) X.1 X.2.1 dL_law_33 (by decide) (by decide) (by decide) (by decide) ?_
    exact law_acts X hX hbl hbA hL hi hI hl next
  · refine lv_tableIn (off := 387) (tgt := 420) X.1 X.2.1 dL_law_33 (by decide) (by decide) (by decide) (by decide) ?_
    exact law_boat X hX hbl hbA hL hi hI hl next
  · refine lv_tableIn (off := 430) (tgt := 463) X.1 X.2.1 dL_law_33 (by decide) (by decide) (by decide) (by decide) ?_
    exact law_raise X hX hbl hbA hL hi hI hl next
  · refine lv_tableIn (off := 473) (tgt := 506) X.1 X.2.1 dL_law_33 (by decide) (by decide) (by decide) (by decide) ?_
    exact law_reading X hX hbl hbA hL hi hI hl next
  · refine lv_tableIn (off := 532) (tgt := 565) X.1 X.2.1 dL_law_33 (by decide) (by decide) (by decide) (by decide) ?_
    exact law_back X hX hbl hbA hL hi hI hl next
  · refine lv_tableIn (off := 555) (tgt := 588) X.1 X.2.1 dL_law_33 (by decide) (by decide) (by decide) (by decide) ?_
    exact law_limits X hX hbl hbA hL hi hI hl next
  · refine lv_tableIn (off := 578) (tgt := 611) X.1 X.2.1 dL_law_33 (by decide) (by decide) (by decide) (by decide) ?_
    exact law_kinds X hX hbl hbA hL hi hI hl next
  · refine lv_tableIn (off := 601) (tgt := 634) X.1 X.2.1 dL_law_33 (by decide) (by decide) (by decide) (by decide) ?_
    exact law_levels X hX hbl hbA hL hi hI hl next
  · refine lv_tableIn (off := 624) (tgt := 657) X.1 X.2.1 dL_law_33 (by decide) (by decide) (by decide) (by decide) ?_
    exact law_odds X hX hbl hbA hL hi hI hl next
  · refine lv_tableIn (off := 668) (tgt := 701) X.1 X.2.1 dL_law_33 (by decide) (by decide) (by decide) (by decide) ?_
    exact law_sheet X hX hbl hbA hL hi hI hl next
  · refine lv_tableIn (off := 711) (tgt := 744) X.1 X.2.1 dL_law_33 (by decide) (by decide) (by decide) (by decide) ?_
    exact law_lose X hX hbl hbA hL hi hI hl next
  · refine lv_tableIn (off := 734) (tgt := 767) X.1 X.2.1 dL_law_33 (by decide) (by decide) (by decide) (by decide) ?_
    exact law_put X hX hbl hbA hL hi hI hl next
  · refine lv_tableIn (off := 777) (tgt := 810) X.1 X.2.1 dL_law_33 (by decide) (by decide) (by decide) (by decide) ?_
    exact law_cell X hX hbl hbA hL hi hI hl next
  · refine lv_tableIn (off := 821) (tgt := 854) X.1 X.2.1 dL_law_33 (by decide) (by decide) (by decide) (by decide) ?_
    exact law_copy X hX hbl hbA hL hi hI hl next
  · refine lv_tableIn (off := 884) (tgt := 917) X.1 X.2.1 dL_law_33 (by decide) (by decide) (by decide) (by decide) ?_
    exact law_tell X hX hbl hbA hL hi hI hl next
  · refine lv_tableIn (off := 907) (tgt := 940) X.1 X.2.1 dL_law_33 (by decide) (by decide) (by decide) (by decide) ?_
    exact law_flatter X hX hbl hbA hL hi hI hl next
  · refine lv_tableIn (off := 930) (tgt := 963) X.1 X.2.1 dL_law_33 (by decide) (by decide) (by decide) (by decide) ?_
    exact law_as X hX hbl hbA hL hi hI hl next
  · refine lv_tableIn (off := 963) (tgt := 996) X.1 X.2.1 dL_law_33 (by decide) (by decide) (by decide) (by decide) ?_
    exact law_trace X hX hbl hbA hL hi hI hl next
  · refine lv_tableIn (off := 976) (tgt := 1009) X.1 X.2.1 dL_law_33 (by decide) (by decide) (by decide) (by decide) ?_
    exact law_fault X hX hbl hbA hL hi hI hl next
  · refine lv_tableIn (off := 989) (tgt := 1022) X.1 X.2.1 dL_law_33 (by decide) (by decide) (by decide) (by decide) ?_
    exact law_many X hX hbl hbA hL hi hI hl next
  · refine lv_tableOut (tgt := 1045) X.1 X.2.1 dL_law_33 (by decide) (by decide) ?_
    exact next H locs ls hI hl
  · refine lv_tableOut (tgt := 1045) X.1 X.2.1 dL_law_33 (by decide) (by decide) ?_
    exact next H locs ls hI hl
  · refine lv_tableOut (tgt := 1045) X.1 X.2.1 dL_law_33 (by decide) (by decide) ?_
    exact next H locs ls hI hl
  · refine lv_tableOut (tgt := 1045) X.1 X.2.1 dL_law_33 (by decide) (by decide) ?_
    exact next H locs ls hI hl
  · refine lv_tableOut (tgt := 1045) X.1 X.2.1 dL_law_33 (by decide) (by decide) ?_
    exact next H locs ls hI hl
set_option maxHeartbeats 4000000 in
set_option maxRecDepth 100000 in
theorem law_loop {p : Program} {e : Env} {s : State} {m : MethodId} {below : List Frame} {meth : Method} {c : Code} {D : va_G} {cI cZ cO : ClassId} {l : Launch} {b L xq mq : Nat} {xs : Nat → Int32} (X : Fx p s m #[Value.ref b] meth c code 4 ret wsL_law RL D (ty3 cI cZ cO) (fun q : Nat => s.heap.size ≤ q)) (hX : va_X b L xs s s.heap) (hbl : b < s.heap.size) (hbA : ¬ (fun q : Nat => s.heap.size ≤ q) b) (hL : L ≤ 3072) : ∀ (n i : Nat) (H : Heap) (locs : List Loc) (ls : Array Slot), L < i + n → i ≤ L → lw_I D cI cZ cO (fun q : Nat => s.heap.size ≤ q) s.heap xq mq H locs → lv_has ls 4 [(3, .int (nI i)), (2, .ref mq), (1, .ref xq), (0, .ref b)] → W p l e room_1 s m #[Value.ref b] below meth c H locs 600000 7302250 (lw_Z below #[Value.ref b] s) (F0 m 18 ls []) := by
  intro n
  induction n with
  | zero => intro i H locs ls h1 h2; omega
  | succ n ih =>
    intro i H locs ls h1 h2 hI hl
    obtain ⟨wx, hW⟩ : ∃ wx : va_W, Wd D (fun q : Nat => s.heap.size ≤ q) s.heap H locs wx := by
      obtain ⟨xa, xg, xh, ys, ca, cg, cF, da, dg, dF, ra, rg, rF, rE, za, zg, zh, zk, zF, ma, mg, mh, mF, mE, ta, tg, tf, hW, -⟩ := hI
      exact ⟨_, hW⟩
    refine x_iload_n X dL_law_18 rfl (lv_at hl 0 rfl) ?_
    refine x_aload_n X dL_law_19 rfl (lv_at hl 3 rfl) ?_
    refine x_slen X hW hX hbl hbA dL_law_20 ?_
    refine x_bipush (v := nI 6) X dL_law_21 (by decide) ?_
    refine x_isub (v := nI L - nI 6) X dL_law_23 rfl ?_
    refine x_icmp_gt X 1051 dL_law_24 (by decide) (fun c24 => ?_) (fun c24 => ?_)
    · refine x_iconst (v := nI 1) X dL_law_1051 (by decide) ?_
      refine va_forget (fun q hq => hW.2.2.2.2 q hq) ?_
      exact lw_ret X.1 X.2.1 X.2.2.1 X.2.2.2.2.2.2.1 dL_law_1052
    · have hi : i + 6 ≤ L := by
        rw [i_lt, sub6 hL, nI_toInt (by omega)] at c24
        omega
      refine x_aload_n X dL_law_27 rfl (lv_at hl 3 rfl) ?_
      refine x_iload_n X dL_law_28 rfl (lv_at hl 0 rfl) ?_
      refine x_sld X hW hX hbl hbA (j := i) (by omega) (by omega) dL_law_29 ?_
      refine x_bipush (v := nI 31) X dL_law_30 (by decide) ?_
      obtain ⟨j, hj, ej⟩ := pk_andE (xs i) (m := nI 31) 5 (by decide)
      refine x_iand (v := nI j) X dL_law_32 ej ?_
      refine law_switch X hX hbl hbA hL hi hI hl (fun H locs ls hI hl => ?_) hj
      refine x_iinc X [(3, .int (nI (i + 6))), (2, .ref mq), (1, .ref xq), (0, .ref b)] (k := 0) dL_law_1045 hl rfl (nI_incK i 6) (by decide) rfl (fun ls hl => ?_)
      refine x_goto X 18 dL_law_1048 (by decide) ?_
      exact ih (i + 6) H locs ls (by omega) hi hI hl
theorem SK_0 : SK (fun _ => 0) (fun _ => 0) 0 (-9) (-1) (fun _ => 0) := ⟨⟨Nat.zero_le _, fun i h => absurd h (Nat.not_lt_zero i), fun w _ h => absurd rfl h⟩, Or.inl rfl⟩
theorem RT_0 : RT (fun _ _ => 0) (fun _ _ => nI 0) (sF (sF (sF (sF (fun _ => nI 0) 0 (-1)) 1 (-1)) 2 (-1)) 3 (-1)) (fun _ => 0) (fun _ => nI 0) := by
  refine ⟨fun _ => Nat.zero_le _, fun _ => Nat.zero_le _, fun _ => Nat.zero_le _, fun _ => rfl, fun k hk => Or.inl ⟨rfl, ?_⟩, fun _ _ h => absurd (show (0 : Nat) = 1 from h) (by decide)⟩
  rcases (show k = 0 ∨ k = 1 ∨ k = 2 ∨ k = 3 by omega) with rfl | rfl | rfl | rfl <;> rfl
set_option maxHeartbeats 4000000 in
set_option maxRecDepth 100000 in
/-- YOUR PART: from the entry, for every script of at most 3072 ints, the law comes to its end with true ('hflags': the launch's flags, for a law that throws: no stack traces) -/
theorem whole_start {p : Program} {e : Env} {s : State} {m : MethodId} {below : List Frame} {meth : Method} {c : Code} (l : Launch) (hflags : l.flags = flags0) {b L : Nat} {xs : Nat → Int32} (hL : L ≤ 3072) (C0 : lw_At p s m meth c b L xs) : W p l e room_1 s m #[Value.ref b] below meth c s.heap [] 0 0 (lw_Z below #[Value.ref b] s) (entryFrame m ([Value.ref b] : List Value).toArray 4) := by
  obtain ⟨hx, hb, hr, hml, hown, hts, hX, hbl, hlocks, hgv⟩ := id C0
  have hbA : ¬ (fun q : Nat => s.heap.size ≤ q) b := Nat.not_le.mpr hbl
  obtain ⟨D, cI, cZ, cO, hK⟩ := lw_known hts
  have hE := lw_e5 hts
  have X : Fx p s m #[Value.ref b] meth c code 4 ret wsL_law RL D (ty3 cI cZ cO) (fun q : Nat => s.heap.size ≤ q) := ⟨hx, hb, hr, hml, hown, fun w h => hts w (wsL_law_in w h), hlocks, hK, fun _ h => h⟩
  have hW : Wd D (fun q : Nat => s.heap.size ≤ q) s.heap s.heap [] ([] : va_W) := ⟨fun k q h => by simp at h, ⟨fun i j p q h => by simp at h, fun k q h => by simp at h⟩, va_S.rf⟩
  have hl := lv_entry ([.ref b]) (n := 4) (Nat.le_of_ble_eq_true rfl)
  rw [lg_entry_eq]
  generalize (lg_sl ([.ref b]) ++ List.replicate (4 - (lg_sl ([.ref b])).length) Slot.unset).toArray = ls at hl ⊢
  have hl : lv_has ls 4 [(0, .ref b)] := hl
  refine x_new X hW inlX5 tyX5 tyX5_ok (List.mem_of_getElem? (i := 0) rfl) (List.mem_of_getElem? (i := 1) rfl) (List.mem_of_getElem? (i := 2) rfl) (ci := 4) rfl [.null, .null, .null, .null, .null, .int (nI 0), .int (nI 0)] (by decide) (Nat.le_of_ble_eq_true rfl) (Nat.le_of_ble_eq_true rfl) dL_law_0 (fun xq H hW => ?_)
  have hW : Wd D (fun q : Nat => s.heap.size ≤ q) s.heap H [] ([(xq, .inr (4, [.null, .null, .null, .null, .null, .int (nI 0), .int (nI 0)]))] : va_W) := hW
  refine W.widen (k := 1) (n := 7) (Nat.le_of_ble_eq_true rfl) (Nat.le_of_ble_eq_true rfl) ?_
  refine x_dup X dL_law_3 rfl ?_
  refine x_callI X hW (As := []) (rest := [.ref xq]) (wz := fun u => (wX cI cZ xq u.1 (fun _ => 0) (fun _ => nI 0) ++ (wA cO (u.1 0) u.2.1 ++ (wC cI cZ (u.1 1) u.2.2.1 (fun _ => 0) (fun _ _ => 0) ++ (wC cI cZ (u.1 2) u.2.2.2.1 (fun _ => 0) (fun _ _ => 0) ++ (wR cI cZ (u.1 3) u.2.2.2.2.1 (fun _ => 0) (fun _ _ => 0) (fun _ _ => nI 0) ++ (wS cI cZ (u.1 4) u.2.2.2.2.2.1 (fun _ => 0) (fun _ => (-9)) (-1) (fun _ _ => 0) ++ (wT cI cZ (u.2.1 0) ((sF (sF (sF (sF (fun _ _ => 0) 0 (fun _ => u.2.2.2.2.2.2.1)) 1 (fun _ => u.2.2.2.2.2.2.2.1)) 2 (fun _ => u.2.2.2.2.2.2.2.2.1)) 3 (fun _ => u.2.2.2.2.2.2.2.2.2)) 0) ((fun _ _ => 0) 0) ++ (wB cI (((sF (sF (sF (sF (fun _ _ => 0) 0 (fun _ => u.2.2.2.2.2.2.1)) 1 (fun _ => u.2.2.2.2.2.2.2.1)) 2 (fun _ => u.2.2.2.2.2.2.2.2.1)) 3 (fun _ => u.2.2.2.2.2.2.2.2.2)) 0) 3) ((fun _ _ => nI 0) 0) ++ (wT cI cZ (u.2.1 1) ((sF (sF (sF (sF (fun _ _ => 0) 0 (fun _ => u.2.2.2.2.2.2.1)) 1 (fun _ => u.2.2.2.2.2.2.2.1)) 2 (fun _ => u.2.2.2.2.2.2.2.2.1)) 3 (fun _ => u.2.2.2.2.2.2.2.2.2)) 1) ((fun _ _ => 0) 1) ++ (wB cI (((sF (sF (sF (sF (fun _ _ => 0) 0 (fun _ => u.2.2.2.2.2.2.1)) 1 (fun _ => u.2.2.2.2.2.2.2.1)) 2 (fun _ => u.2.2.2.2.2.2.2.2.1)) 3 (fun _ => u.2.2.2.2.2.2.2.2.2)) 1) 3) ((fun _ _ => nI 0) 1) ++ (wT cI cZ (u.2.1 2) ((sF (sF (sF (sF (fun _ _ => 0) 0 (fun _ => u.2.2.2.2.2.2.1)) 1 (fun _ => u.2.2.2.2.2.2.2.1)) 2 (fun _ => u.2.2.2.2.2.2.2.2.1)) 3 (fun _ => u.2.2.2.2.2.2.2.2.2)) 2) ((fun _ _ => 0) 2) ++ (wB cI (((sF (sF (sF (sF (fun _ _ => 0) 0 (fun _ => u.2.2.2.2.2.2.1)) 1 (fun _ => u.2.2.2.2.2.2.2.1)) 2 (fun _ => u.2.2.2.2.2.2.2.2.1)) 3 (fun _ => u.2.2.2.2.2.2.2.2.2)) 2) 3) ((fun _ _ => nI 0) 2) ++ (wT cI cZ (u.2.1 3) ((sF (sF (sF (sF (fun _ _ => 0) 0 (fun _ => u.2.2.2.2.2.2.1)) 1 (fun _ => u.2.2.2.2.2.2.2.1)) 2 (fun _ => u.2.2.2.2.2.2.2.2.1)) 3 (fun _ => u.2.2.2.2.2.2.2.2.2)) 3) ((fun _ _ => 0) 3) ++ (wB cI (((sF (sF (sF (sF (fun _ _ => 0) 0 (fun _ => u.2.2.2.2.2.2.1)) 1 (fun _ => u.2.2.2.2.2.2.2.1)) 2 (fun _ => u.2.2.2.2.2.2.2.2.1)) 3 (fun _ => u.2.2.2.2.2.2.2.2.2)) 3) 3) ((fun _ _ => nI 0) 3)))))))))))))))) (c_X5_init l D cI cZ cO xq _) (cwI 0 X.2.2.2.2.2.1 gL_law_X5_init rfl rfl rfl (X.2.2.2.2.2.1 _ (List.mem_of_getElem? (i := 2) rfl)) (X.2.2.2.2.2.1 _ (List.mem_of_getElem? (i := 6) rfl)) (X.2.2.2.2.2.1 _ (List.mem_of_getElem? (i := 7) rfl)) rfl (by decide +kernel) ⟨Nat.le_of_ble_eq_true rfl, Nat.le_of_ble_eq_true rfl⟩) e5_calling (fun U hU => e5_warm hU hE) [0] [] [0, 1, 2, 3, 4, 5, 6, 7, 8, 9, 10, 11, 12, 13, 14, 15, 16, 17, 18, 19, 20, 21, 22, 23, 24, 25] rfl rfl (by decide) (fun _ => rfl) rfl hl.1 rfl (Nat.le_of_ble_eq_true rfl) ⟨Nat.le_of_ble_eq_true rfl, Nat.le_of_ble_eq_true rfl⟩ dL_law_4 (fun ux H locs _ hW => ?_)
  have hW : Wd D (fun q : Nat => s.heap.size ≤ q) s.heap H locs (wX cI cZ xq ux.1 (fun _ => 0) (fun _ => nI 0) ++ (wA cO (ux.1 0) ux.2.1 ++ (wC cI cZ (ux.1 1) ux.2.2.1 (fun _ => 0) (fun _ _ => 0) ++ (wC cI cZ (ux.1 2) ux.2.2.2.1 (fun _ => 0) (fun _ _ => 0) ++ (wR cI cZ (ux.1 3) ux.2.2.2.2.1 (fun _ => 0) (fun _ _ => 0) (fun _ _ => nI 0) ++ (wS cI cZ (ux.1 4) ux.2.2.2.2.2.1 (fun _ => 0) (fun _ => (-9)) (-1) (fun _ _ => 0) ++ (wT cI cZ (ux.2.1 0) ((sF (sF (sF (sF (fun _ _ => 0) 0 (fun _ => ux.2.2.2.2.2.2.1)) 1 (fun _ => ux.2.2.2.2.2.2.2.1)) 2 (fun _ => ux.2.2.2.2.2.2.2.2.1)) 3 (fun _ => ux.2.2.2.2.2.2.2.2.2)) 0) ((fun _ _ => 0) 0) ++ (wB cI (((sF (sF (sF (sF (fun _ _ => 0) 0 (fun _ => ux.2.2.2.2.2.2.1)) 1 (fun _ => ux.2.2.2.2.2.2.2.1)) 2 (fun _ => ux.2.2.2.2.2.2.2.2.1)) 3 (fun _ => ux.2.2.2.2.2.2.2.2.2)) 0) 3) ((fun _ _ => nI 0) 0) ++ (wT cI cZ (ux.2.1 1) ((sF (sF (sF (sF (fun _ _ => 0) 0 (fun _ => ux.2.2.2.2.2.2.1)) 1 (fun _ => ux.2.2.2.2.2.2.2.1)) 2 (fun _ => ux.2.2.2.2.2.2.2.2.1)) 3 (fun _ => ux.2.2.2.2.2.2.2.2.2)) 1) ((fun _ _ => 0) 1) ++ (wB cI (((sF (sF (sF (sF (fun _ _ => 0) 0 (fun _ => ux.2.2.2.2.2.2.1)) 1 (fun _ => ux.2.2.2.2.2.2.2.1)) 2 (fun _ => ux.2.2.2.2.2.2.2.2.1)) 3 (fun _ => ux.2.2.2.2.2.2.2.2.2)) 1) 3) ((fun _ _ => nI 0) 1) ++ (wT cI cZ (ux.2.1 2) ((sF (sF (sF (sF (fun _ _ => 0) 0 (fun _ => ux.2.2.2.2.2.2.1)) 1 (fun _ => ux.2.2.2.2.2.2.2.1)) 2 (fun _ => ux.2.2.2.2.2.2.2.2.1)) 3 (fun _ => ux.2.2.2.2.2.2.2.2.2)) 2) ((fun _ _ => 0) 2) ++ (wB cI (((sF (sF (sF (sF (fun _ _ => 0) 0 (fun _ => ux.2.2.2.2.2.2.1)) 1 (fun _ => ux.2.2.2.2.2.2.2.1)) 2 (fun _ => ux.2.2.2.2.2.2.2.2.1)) 3 (fun _ => ux.2.2.2.2.2.2.2.2.2)) 2) 3) ((fun _ _ => nI 0) 2) ++ (wT cI cZ (ux.2.1 3) ((sF (sF (sF (sF (fun _ _ => 0) 0 (fun _ => ux.2.2.2.2.2.2.1)) 1 (fun _ => ux.2.2.2.2.2.2.2.1)) 2 (fun _ => ux.2.2.2.2.2.2.2.2.1)) 3 (fun _ => ux.2.2.2.2.2.2.2.2.2)) 3) ((fun _ _ => 0) 3) ++ (wB cI (((sF (sF (sF (sF (fun _ _ => 0) 0 (fun _ => ux.2.2.2.2.2.2.1)) 1 (fun _ => ux.2.2.2.2.2.2.2.1)) 2 (fun _ => ux.2.2.2.2.2.2.2.2.1)) 3 (fun _ => ux.2.2.2.2.2.2.2.2.2)) 3) 3) ((fun _ _ => nI 0) 3))))))))))))))) := hW
  refine W.widen (k := 26) (n := 80381) (Nat.le_of_ble_eq_true rfl) (Nat.le_of_ble_eq_true rfl) ?_
  refine x_astore_n X [(1, .ref xq), (0, .ref b)] dL_law_7 rfl hl (by decide) rfl (fun ls hl => ?_)
  refine x_new X hW inlX6 tyX6 tyX6_ok (List.mem_of_getElem? (i := 3) rfl) (List.mem_of_getElem? (i := 4) rfl) (List.mem_of_getElem? (i := 5) rfl) (ci := 5) rfl [.int (nI 0), .int (nI 0), .int (nI 0), .null, .null, .null, .int (nI 0), .int (nI 0), .int (nI 0), .null, .null, .null, .null, .int (nI 0), .int (nI 0), .null, .null, .int (nI 0), .int (nI 0), .null, .int (nI 0), .int (nI 0), .null, .null, .null, .null, .null, .null, .null, .int (nI 0)] (by decide) (Nat.le_of_ble_eq_true rfl) (Nat.le_of_ble_eq_true rfl) dL_law_8 (fun mq H hW => ?_)
  refine W.widen (k := 27) (n := 80411) (Nat.le_of_ble_eq_true rfl) (Nat.le_of_ble_eq_true rfl) ?_
  refine x_dup X dL_law_11 rfl ?_
  refine x_callI X hW (As := []) (rest := [.ref mq]) (E := fun _ => True) (wz := fun u => (wX cI cZ xq ux.1 (fun _ => 0) (fun _ => nI 0) ++ (wA cO (ux.1 0) ux.2.1 ++ (wC cI cZ (ux.1 1) ux.2.2.1 (fun _ => 0) (fun _ _ => 0) ++ (wC cI cZ (ux.1 2) ux.2.2.2.1 (fun _ => 0) (fun _ _ => 0) ++ (wR cI cZ (ux.1 3) ux.2.2.2.2.1 (fun _ => 0) (fun _ _ => 0) (fun _ _ => nI 0) ++ (wS cI cZ (ux.1 4) ux.2.2.2.2.2.1 (fun _ => 0) (fun _ => (-9)) (-1) (fun _ _ => 0) ++ (wT cI cZ (ux.2.1 0) ((sF (sF (sF (sF (fun _ _ => 0) 0 (fun _ => ux.2.2.2.2.2.2.1)) 1 (fun _ => ux.2.2.2.2.2.2.2.1)) 2 (fun _ => ux.2.2.2.2.2.2.2.2.1)) 3 (fun _ => ux.2.2.2.2.2.2.2.2.2)) 0) ((fun _ _ => 0) 0) ++ (wB cI (((sF (sF (sF (sF (fun _ _ => 0) 0 (fun _ => ux.2.2.2.2.2.2.1)) 1 (fun _ => ux.2.2.2.2.2.2.2.1)) 2 (fun _ => ux.2.2.2.2.2.2.2.2.1)) 3 (fun _ => ux.2.2.2.2.2.2.2.2.2)) 0) 3) ((fun _ _ => nI 0) 0) ++ (wT cI cZ (ux.2.1 1) ((sF (sF (sF (sF (fun _ _ => 0) 0 (fun _ => ux.2.2.2.2.2.2.1)) 1 (fun _ => ux.2.2.2.2.2.2.2.1)) 2 (fun _ => ux.2.2.2.2.2.2.2.2.1)) 3 (fun _ => ux.2.2.2.2.2.2.2.2.2)) 1) ((fun _ _ => 0) 1) ++ (wB cI (((sF (sF (sF (sF (fun _ _ => 0) 0 (fun _ => ux.2.2.2.2.2.2.1)) 1 (fun _ => ux.2.2.2.2.2.2.2.1)) 2 (fun _ => ux.2.2.2.2.2.2.2.2.1)) 3 (fun _ => ux.2.2.2.2.2.2.2.2.2)) 1) 3) ((fun _ _ => nI 0) 1) ++ (wT cI cZ (ux.2.1 2) ((sF (sF (sF (sF (fun _ _ => 0) 0 (fun _ => ux.2.2.2.2.2.2.1)) 1 (fun _ => ux.2.2.2.2.2.2.2.1)) 2 (fun _ => ux.2.2.2.2.2.2.2.2.1)) 3 (fun _ => ux.2.2.2.2.2.2.2.2.2)) 2) ((fun _ _ => 0) 2) ++ (wB cI (((sF (sF (sF (sF (fun _ _ => 0) 0 (fun _ => ux.2.2.2.2.2.2.1)) 1 (fun _ => ux.2.2.2.2.2.2.2.1)) 2 (fun _ => ux.2.2.2.2.2.2.2.2.1)) 3 (fun _ => ux.2.2.2.2.2.2.2.2.2)) 2) 3) ((fun _ _ => nI 0) 2) ++ (wT cI cZ (ux.2.1 3) ((sF (sF (sF (sF (fun _ _ => 0) 0 (fun _ => ux.2.2.2.2.2.2.1)) 1 (fun _ => ux.2.2.2.2.2.2.2.1)) 2 (fun _ => ux.2.2.2.2.2.2.2.2.1)) 3 (fun _ => ux.2.2.2.2.2.2.2.2.2)) 3) ((fun _ _ => 0) 3) ++ (wB cI (((sF (sF (sF (sF (fun _ _ => 0) 0 (fun _ => ux.2.2.2.2.2.2.1)) 1 (fun _ => ux.2.2.2.2.2.2.2.1)) 2 (fun _ => ux.2.2.2.2.2.2.2.2.1)) 3 (fun _ => ux.2.2.2.2.2.2.2.2.2)) 3) 3) ((fun _ _ => nI 0) 3) ++ (wM cI cZ mq u (fun _ => 0) (fun _ => nI 0) (fun _ _ => 0) (sF (fun _ _ => nI 0) 25 (sF (sF (sF (sF (fun _ => nI 0) 0 (-1)) 1 (-1)) 2 (-1)) 3 (-1))))))))))))))))))) (c_X6_init l D cI cZ cO mq _) (cwI 0 X.2.2.2.2.2.1 gL_law_X6_init rfl rfl rfl (X.2.2.2.2.2.1 _ (List.mem_of_getElem? (i := 5) rfl)) (X.2.2.2.2.2.1 _ (List.mem_of_getElem? (i := 57) rfl)) (X.2.2.2.2.2.1 _ (List.mem_of_getElem? (i := 58) rfl)) rfl (by decide +kernel) ⟨Nat.le_of_ble_eq_true rfl, Nat.le_of_ble_eq_true rfl⟩) (fun _ _ _ _ h => h) (fun _ _ => trivial) [26] [0, 1, 2, 3, 4, 5, 6, 7, 8, 9, 10, 11, 12, 13, 14, 15, 16, 17, 18, 19, 20, 21, 22, 23, 24, 25] [0, 1, 2, 3, 4, 5, 6, 7, 8, 9, 10, 11, 12, 13, 14, 15, 16, 17, 18, 19, 20, 21, 22, 23, 24, 25, 26, 27, 28, 29, 30, 31, 32, 33, 34, 35, 36, 37, 38, 39, 40, 41, 42, 43] rfl rfl (by decide +kernel) (fun _ => rfl) rfl hl.1 rfl (Nat.le_of_ble_eq_true rfl) ⟨Nat.le_of_ble_eq_true rfl, Nat.le_of_ble_eq_true rfl⟩ dL_law_12 (fun um H locs _ hW => ?_)
  have hW : Wd D (fun q : Nat => s.heap.size ≤ q) s.heap H locs (wX cI cZ xq ux.1 (fun _ => 0) (fun _ => nI 0) ++ (wA cO (ux.1 0) ux.2.1 ++ (wC cI cZ (ux.1 1) ux.2.2.1 (fun _ => 0) (fun _ _ => 0) ++ (wC cI cZ (ux.1 2) ux.2.2.2.1 (fun _ => 0) (fun _ _ => 0) ++ (wR cI cZ (ux.1 3) ux.2.2.2.2.1 (fun _ => 0) (fun _ _ => 0) (fun _ _ => nI 0) ++ (wS cI cZ (ux.1 4) ux.2.2.2.2.2.1 (fun _ => 0) (fun _ => (-9)) (-1) (fun _ _ => 0) ++ (wT cI cZ (ux.2.1 0) ((sF (sF (sF (sF (fun _ _ => 0) 0 (fun _ => ux.2.2.2.2.2.2.1)) 1 (fun _ => ux.2.2.2.2.2.2.2.1)) 2 (fun _ => ux.2.2.2.2.2.2.2.2.1)) 3 (fun _ => ux.2.2.2.2.2.2.2.2.2)) 0) ((fun _ _ => 0) 0) ++ (wB cI (((sF (sF (sF (sF (fun _ _ => 0) 0 (fun _ => ux.2.2.2.2.2.2.1)) 1 (fun _ => ux.2.2.2.2.2.2.2.1)) 2 (fun _ => ux.2.2.2.2.2.2.2.2.1)) 3 (fun _ => ux.2.2.2.2.2.2.2.2.2)) 0) 3) ((fun _ _ => nI 0) 0) ++ (wT cI cZ (ux.2.1 1) ((sF (sF (sF (sF (fun _ _ => 0) 0 (fun _ => ux.2.2.2.2.2.2.1)) 1 (fun _ => ux.2.2.2.2.2.2.2.1)) 2 (fun _ => ux.2.2.2.2.2.2.2.2.1)) 3 (fun _ => ux.2.2.2.2.2.2.2.2.2)) 1) ((fun _ _ => 0) 1) ++ (wB cI (((sF (sF (sF (sF (fun _ _ => 0) 0 (fun _ => ux.2.2.2.2.2.2.1)) 1 (fun _ => ux.2.2.2.2.2.2.2.1)) 2 (fun _ => ux.2.2.2.2.2.2.2.2.1)) 3 (fun _ => ux.2.2.2.2.2.2.2.2.2)) 1) 3) ((fun _ _ => nI 0) 1) ++ (wT cI cZ (ux.2.1 2) ((sF (sF (sF (sF (fun _ _ => 0) 0 (fun _ => ux.2.2.2.2.2.2.1)) 1 (fun _ => ux.2.2.2.2.2.2.2.1)) 2 (fun _ => ux.2.2.2.2.2.2.2.2.1)) 3 (fun _ => ux.2.2.2.2.2.2.2.2.2)) 2) ((fun _ _ => 0) 2) ++ (wB cI (((sF (sF (sF (sF (fun _ _ => 0) 0 (fun _ => ux.2.2.2.2.2.2.1)) 1 (fun _ => ux.2.2.2.2.2.2.2.1)) 2 (fun _ => ux.2.2.2.2.2.2.2.2.1)) 3 (fun _ => ux.2.2.2.2.2.2.2.2.2)) 2) 3) ((fun _ _ => nI 0) 2) ++ (wT cI cZ (ux.2.1 3) ((sF (sF (sF (sF (fun _ _ => 0) 0 (fun _ => ux.2.2.2.2.2.2.1)) 1 (fun _ => ux.2.2.2.2.2.2.2.1)) 2 (fun _ => ux.2.2.2.2.2.2.2.2.1)) 3 (fun _ => ux.2.2.2.2.2.2.2.2.2)) 3) ((fun _ _ => 0) 3) ++ (wB cI (((sF (sF (sF (sF (fun _ _ => 0) 0 (fun _ => ux.2.2.2.2.2.2.1)) 1 (fun _ => ux.2.2.2.2.2.2.2.1)) 2 (fun _ => ux.2.2.2.2.2.2.2.2.1)) 3 (fun _ => ux.2.2.2.2.2.2.2.2.2)) 3) 3) ((fun _ _ => nI 0) 3) ++ (wM cI cZ mq um (fun _ => 0) (fun _ => nI 0) (fun _ _ => 0) (sF (fun _ _ => nI 0) 25 (sF (sF (sF (sF (fun _ => nI 0) 0 (-1)) 1 (-1)) 2 (-1)) 3 (-1)))))))))))))))))) := hW
  refine W.widen (k := 600000) (n := 7302250) (Nat.le_of_ble_eq_true rfl) (Nat.le_of_ble_eq_true rfl) ?_
  refine x_astore_n X [(2, .ref mq), (1, .ref xq), (0, .ref b)] dL_law_15 rfl hl (by decide) rfl (fun ls hl => ?_)
  refine x_iconst (v := nI 0) X dL_law_16 (by decide) ?_
  refine x_istore_n X [(3, .int (nI 0)), (2, .ref mq), (1, .ref xq), (0, .ref b)] dL_law_17 rfl hl (by decide) rfl (fun ls hl => ?_)
  exact law_loop X hX hbl hbA hL (L + 1) 0 H locs ls (by omega) (Nat.zero_le L) ⟨ux.1, (fun _ => 0), (fun _ => nI 0), ux.2.1, ux.2.2.1, (fun _ => 0), (fun _ _ => 0), ux.2.2.2.1, (fun _ => 0), (fun _ _ => 0), ux.2.2.2.2.1, (fun _ => 0), (fun _ _ => 0), (fun _ _ => nI 0), ux.2.2.2.2.2.1, (fun _ => 0), (fun _ => (-9)), (-1), (fun _ _ => 0), um, (fun _ => 0), (fun _ => nI 0), (fun _ _ => 0), (sF (fun _ _ => nI 0) 25 (sF (sF (sF (sF (fun _ => nI 0) 0 (-1)) 1 (-1)) 2 (-1)) 3 (-1))), (sF (sF (sF (sF (fun _ _ => 0) 0 (fun _ => ux.2.2.2.2.2.2.1)) 1 (fun _ => ux.2.2.2.2.2.2.2.1)) 2 (fun _ => ux.2.2.2.2.2.2.2.2.1)) 3 (fun _ => ux.2.2.2.2.2.2.2.2.2)), (fun _ _ => 0), (fun _ _ => nI 0), hW, ⟨Or.inl rfl, Nat.zero_le _, Nat.zero_le _, fun _ => Nat.zero_le _, fun _ => Nat.zero_le _, fun _ => Nat.zero_le _, rfl, rfl, rfl, rfl, rfl⟩, ⟨Nat.zero_le _, fun z h => absurd h (Nat.not_lt_zero z), fun z h => absurd h (Nat.not_lt_zero z), fun _ => Nat.zero_le _, rfl, rfl, rfl, rfl⟩, ⟨Nat.zero_le _, Nat.zero_le _, fun _ => Nat.zero_le _, fun _ => Nat.zero_le _, fun _ => Nat.zero_le _⟩, SK_0, RT_0, ⟨rfl, rfl⟩, fun _ => Nat.zero_le _⟩ hl
-- ===== YOUR PART ENDS =====
set_option maxHeartbeats 4000000 in
theorem lw_walk (l : Launch) (hflags : l.flags = flags0) (b : Addr) (xs : List Int32) : MetFree l x (headSpec (Jvm.Cond.code x code maxLocals ret :: tables_1) room_1) (lw_P b xs) (fun _ _ _ _ _ => True) lw_Q := by
  refine MetFree.of_bodyS (code := code) (maxLocals := maxLocals) (ret := ret) (by decide) ?_ ?_
  · intro args s m h hn
    obtain ⟨meth, c, h1, h2, h3, h4, h5, h6, -, -⟩ := Cond.code_spec hn (atoms_spec (ws := Jvm.Cond.code x code maxLocals ret :: tables_1) h _ List.mem_cons_self)
    exact ⟨meth, c, h1, h2, h3, h4, h5, h6⟩
  · intro p e s m args below meth c s₁ B hml0 hP _
    obtain ⟨rfl, hx, hbd, hgv⟩ := hP
    obtain ⟨scr, harrAt, hlist, hof, hsmall⟩ := hx
    obtain ⟨hcb, hkn, -, -⟩ := State.arrayAt?_spec harrAt
    have hown : s.vm.findClass R_law = some m.cls := findClass_of_methodNamed B.named
    have hts0 : ∀ c ∈ (Jvm.Cond.code x code maxLocals ret :: tables_1), c.before #[Value.ref b] s = true := atoms_spec (ws := Jvm.Cond.code x code maxLocals ret :: tables_1) B.pre
    have hts : ∀ w ∈ lw_tbl, w.before #[Value.ref b] s = true := k2_hts_sels lw_privs (fun w hw => hts0 w (List.mem_cons_of_mem _ hw)) lw_privs_ok
    have hml : c.maxLocals = 4 := B.maxLocals_eq (hts0 _ List.mem_cons_self)
    have X₀ : Stand p l e room_1 s m #[Value.ref b] below meth c s₁ [] 0 0 := Stand.of_body B
    have hh0 : s₁.heap = s.heap := by rw [B.state]; rfl
    have hsz : scr.slots.size = xs.length := by rw [← Array.length_toList, hlist, List.length_map]
    have hval : ∀ j : Nat, j < xs.length → scr.slots[j]? = some (.int (xs.getD j 0)) := fun j hj => by
      rw [← Array.getElem?_toList, hlist]
      simp [hj]
    have hbl : b < s.heap.size := (Array.getElem?_eq_some_iff.mp hcb).1
    have hX : va_X b xs.length (fun j => xs.getD j 0) s s.heap := ⟨scr, hcb, hof, hkn, hsz, hval⟩
    have K : W p l e room_1 s m #[Value.ref b] below meth c s₁.heap [] 0 0 (lw_Z below #[Value.ref b] s) (entryFrame m ([Value.ref b] : List Value).toArray 4) := by
      rw [hh0]
      exact whole_start l hflags hbd ⟨B.exec, B.bytes, B.returns, hml, hown, hts, hX, hbl, B.notSynchronized, hgv⟩
    obtain ⟨t, a1, o, b1, b2, b3⟩ := K s₁ rfl X₀
    exact ⟨t, o, a1, b1, b2, b3⟩
theorem lw_pre_spec {args : Array Value} {s : State} (h : (Jvm.Cond.and given_1 narrow_1).before args s = true) (hr : rest_1_c.before args s = true) : ∃ (b : Addr) (xs : List Int32), lw_P b xs args s := by
  have hs := flat_of_before _ h
  have hq := flat_of_before _ hr
  have hc : (Cond.count 1).before args s = true := hs _ (by decide +kernel)
  have harr : (Cond.arrayOf (.arg 0) .int).before args s = true := hs _ (by decide +kernel)
  have hle : (Cond.le (.length (.arg 0)) (.int 3072)).before args s = true := hs _ (by decide +kernel)
  have hlen : (Cond.isInt (.length (.arg 0))).before args s = true := hq _ (by decide +kernel)
  have hall : (Cond.all (.arg 0) (.isInt (.elem (.arg 0) (.index 0)))).before args s = true := hq _ (by decide +kernel)
  obtain ⟨b, xs, hb, hx⟩ := State.ints_of_pre rfl harr hlen hall
  have hsm : xs.length < 2 ^ 31 := hx.choose_spec.2.2.2
  have hev : (Term.length (.arg 0)).eval args s none [] s = some (.int xs.length.toInt32) := hx.length_eval hb
  have hv := Cond.le_ints hev (show (Term.int 3072).eval args s none [] s = some (.int 3072) from rfl)
  have hd : xs.length.toInt32 ≤ 3072 := by
    simpa [Cond.before, Cond.holds, hv] using hle
  have hN : xs.length ≤ 3072 := (Int32.ofNat_le_ofNat hsm (by decide)).mp (show Int32.ofNat xs.length ≤ Int32.ofNat 3072 from hd)
  exact ⟨b, xs, Cond.one_arg hc (show args[0]? = some (.ref b) from hb), hx, hN, h⟩
theorem lw_comes (l : Launch) (hflags : l.flags = flags0) : Comes l x (Jvm.Cond.code x code maxLocals ret :: tables_1) room_1 (fun tb e args s => Calls_1 tb e args s ∧ rest_1 tb e args s ∧ Pre_1 tb e args s)
    (fun _ _ args s o t => lw_Q args s o t) := by
  intro p e ha hc hk s m args below hf hfit hheap happ hpre
  obtain ⟨b, xs, hP⟩ := lw_pre_spec hpre.2.2 hpre.2.1
  obtain ⟨k, o, h1, h2, h3, hQ⟩ := lw_walk l hflags b xs p e ha hc hk s m args below hf ((Spec.applies_iff_loose hf).mp happ).1 hP trivial
  exact ⟨k, o, h1, h2, h3, hQ⟩
theorem lw_frame {s t : State} {o : Outcome} {args : Array Value} (h : Framed s o t [] 600000 7302250) :
    Framed s o t (fieldLocs frame_1_writes args s ++ arrayLocs frame_1_arrays args s ++ staticLocs frame_1_statics s) 600000 7302250 := h
theorem lw_limb (L : Cond) (hL : ∀ (args : Array Value) (s t : State), L.after args s (.returned (some (.int 1))) t = true) :
    ArmFor flags0 classFile x code maxLocals ret World_1 tables_1 room_1 Calls_1 rest_1 Pre_1
      (fun tb e a s o t => postC L tb e a s o t ∧ Framed s o t (fieldLocs frame_1_writes a s ++ arrayLocs frame_1_arrays a s ++ staticLocs frame_1_statics s) 600000 7302250) := by
  intro l hflags _ _ p e ha hc hk s m args below hf hfit hheap happ hpre
  obtain ⟨k, o, h1, h2, h3, rfl, hF⟩ := lw_comes l hflags p e ha hc hk s m args below hf hfit hheap happ hpre
  exact ⟨k, _, h1, h2, h3, hL args s _, lw_frame hF⟩
theorem i_vc : Claimed_1_1 ∧ Claimed_1_2 := ⟨lw_limb limb_1_1 (fun args s t => by simp [limb_1_1, Cond.after, Cond.holds, Cond.value]), lw_limb limb_1_2 (fun args s t => Cond.after_iff.mpr (by
  first | (rw [show limb_1_2 = Cond.eq .result (.int 1) from rfl, Cond.eq_ints (x := 1) (y := 1) rfl rfl]; simp; done) | (simp [limb_1_2, Cond.value, Term.eval]; done)))⟩

