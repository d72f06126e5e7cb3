section G3
variable {p : Program} {l : Launch} {e : Env} {R : Room} {s : State} {m : MethodId} {args : Array Value} {below : List Frame} {meth : Method} {c : Code} {H : Heap} {locs : List Loc} {cells slots : Nat} {Q : State → Prop}
variable {cc : ByteArray} {nL : Nat} {ret : Option FieldType} {Ts : List Cond} {own : String} {D : va_G} {tys : List (ClassId × FieldType)} {A : Nat → Prop} {pc : Nat} {ls : Array Slot} {rest : List Value} {ws : va_W}
theorem x_acopy (X : Fx p s m args meth c cc nL ret Ts own D tys A) (hW : Wd D A s.heap H locs ws) {index : Nat} (hZ : ls.size = nL) (h1 : Cond.methodLink own index arraycopyName ∈ Ts) (h2 : Cond.native arraycopyName ∈ Ts) (h3 : Cond.static arraycopyName ∈ Ts) (h4 : Cond.initialized "java/lang/System" ∈ Ts) (hR : 1 ≤ R.frames ∧ (rest.map fun v => v.category).sum + 60 ≤ R.locals) (q0 q1 t0 : Nat) {a0 a n0 n1 sp dp n : Nat} {c0 c1 : ClassId} {f g : Nat → Int32} (ha0 : ws[q0]? = some (a0, .inl (c0, n0, .inl f))) (ha1 : ws[q1]? = some (a, .inl (c1, n1, .inl g))) (ht0 : tys[t0]? = some (c0, .int)) (ht1 : tys[t0]? = some (c1, .int)) (h5 : sp + n ≤ n0) (h6 : dp + n ≤ n1) (h7 : n0 < 2 ^ 31) (h8 : n1 < 2 ^ 31) (hd : decode cc pc = .ok (.invokestatic index, 3)) (ws' : va_W) (hws : ws.set q1 (a, .inl (c1, n1, .inl (va_cpy f g sp dp n))) = ws') (kk : ∀ (H1 : Heap) (locs1 : List Loc), Wd D A s.heap H1 locs1 ws' → W p l e R s m args below meth c H1 locs1 cells slots Q (F0 m (pc + 3) ls rest)) : W p l e R s m args below meth c H locs cells slots Q (F0 m pc ls (.int (nI n) :: .int (nI dp) :: .ref a :: .int (nI sp) :: .ref a0 :: rest)) := by
  have en : (nI n).toNatClampNeg = n := nI_clamp (by omega)
  have es : (nI sp).toNatClampNeg = sp := nI_clamp (by omega)
  have ed : (nI dp).toNatClampNeg = dp := nI_clamp (by omega)
  have ng : ∀ z : Nat, z < 2 ^ 31 → ¬ nI z < 0 := fun z hz => nI_pos hz
  refine va_copyi (D := D) (cl := vwCl) X.1 X.2.1 (by rw [X.2.2.2.1, hZ]) X.2.2.2.2.1 (X.2.2.2.2.2.1 _ h1) (X.2.2.2.2.2.1 _ h2) (X.2.2.2.2.2.1 _ h3) (X.2.2.2.2.2.1 _ h4) X.2.2.2.2.2.2.2.1 hW.1 hW.2.1 hW.2.2 q0 q1 t0 t0 ha0 ha1 ht0 ht1 rfl (ng _ (by omega)) (ng _ (by omega)) (ng _ (by omega)) (by rw [es, en]; exact h5) (by rw [ed, en]; exact h6) (fun _ _ => rfl) hR.1 (Nat.le_trans (Nat.add_le_add_left (by decide) _) hR.2) hd (fun H1 locs1 hP hD hS => kk H1 locs1 ?_)
  rw [en, es, ed] at hP hD
  exact ⟨hws ▸ hP, hws ▸ hD, hS⟩
end G3

theorem wh_cg {cf cf' : Nat → Int32} {n : Nat} (h : ∀ z, z < n → cf z = cf' z) : wholeP cf n ↔ wholeP cf' n := by
  unfold wholeP okTo
  constructor
  · rintro ⟨a, b⟩; exact ⟨fun q hq => by rw [← h q hq]; exact a q hq, b⟩
  · rintro ⟨a, b⟩; exact ⟨fun q hq => by rw [h q hq]; exact a q hq, b⟩
theorem ffP_cg {cf cf' : Nat → Int32} {n p : Nat} (h : ∀ z, z < n → cf z = cf' z) (q : ffP cf n p) : ffP cf' n p := by
  obtain ⟨a, b, c, d⟩ := q
  exact ⟨fun z hz => by rw [← h z (by omega)]; exact a z hz, b, c, fun h1 h2 => by rw [← h p h1]; exact d h1 h2⟩
theorem ff_ex (cf : Nat → Int32) (n : Nat) (h : ¬ wholeP cf n) : ∃ p, ffP cf n p := by
  apply Classical.byContradiction
  intro hno
  have key : ∀ p, p ≤ min n 18 → okTo cf p := by
    intro p
    induction p with
    | zero => intro _; exact okTo_0 cf
    | succ p ih =>
      intro hp
      have ok := ih (by omega)
      refine okTo_s ok (Classical.byContradiction fun hb => hno ⟨p, ff_bad ok (by omega) (by omega) hb⟩)
  by_cases q : n ≤ 18
  · exact hno ⟨n, ff_end (key n (by omega)) rfl q⟩
  · exact hno ⟨18, ff_big (key 18 (by omega)) (by omega) rfl⟩
theorem ffN_cg {cf cf' : Nat → Int32} {n : Nat} (h : ∀ z, z < n → cf z = cf' z) (hw : ¬ wholeP cf n) : ffN cf n = ffN cf' n := by
  obtain ⟨p, hp⟩ := ff_ex cf n hw
  rw [ffN_eq hp, ffN_eq (ffP_cg h hp)]
theorem txA_cg {cf cf' : Nat → Int32} {n : Nat} (h : ∀ z, z < n → cf z = cf' z) : txA cf n = txA cf' n := by
  by_cases q : wholeP cf n
  · rw [txA_y q, txA_y ((wh_cg h).mp q)]
  · unfold txA
    rw [if_neg q, if_neg (fun z => q ((wh_cg h).mpr z)), ffN_cg h q]
/-- what a sheet's call leaves of one sheet -/
def sSh {α : Type} (k lane n : Int32) (old : α) (new : Nat → Nat → α) : α := onR k 4 old (fun _ => onR lane 3 old (fun ln => onR n 61 old (fun m => new ln m)))

set_option maxHeartbeats 4000000 in
set_option maxRecDepth 100000 in
theorem c_X5_sheetAt (l : Launch) (D : va_G) (cI cZ cO : ClassId) (xq : Nat) (xa : Nat → Nat) (xg : Nat → Nat) (xh : Nat → Int32) (ys : Nat → Nat) (sz : Nat) (k : Nat)  (hk : k < 4) : Met l yX5_sheetAt wsX5_sheetAt ({ frames := 0, cells := 0, slots := 0, locals := 0 }) (va_Pc [.ref xq, .int (nI k)] (st_W D (ty3 cI cZ cO) (wX cI cZ xq xa xg xh ++ (wA cO (xa 0) ys)) sz)) (va_Qq (fun (rr : Option Nat) (u : Unit) => rr = some (ys k)) (fun u t => at_W D (ty3 cI cZ cO) (va_A (wX cI cZ xq xa xg xh ++ (wA cO (xa 0) ys)) sz) (wX cI cZ xq xa xg xh ++ (wA cO (xa 0) ys)) t) (va_A (wX cI cZ xq xa xg xh ++ (wA cO (xa 0) ys)) sz)) 0 0 (va_A (wX cI cZ xq xa xg xh ++ (wA cO (xa 0) ys)) sz) := by
  refine Met.goq (cc := cX5_sheetAt) (maxL := 2) (ret := (some (.object "WaterConsent$Sheet"))) (by decide) rfl (Nat.le_of_ble_eq_true rfl) (fun p e s m below meth c A ls X hW hl => ?_)
  have hi5 : ∀ w ∈ wsX50, w ∈ wsX5_sheetAt := fun w h => List.mem_cons_of_mem _ (List.mem_append_right _ h)
  have hl : lv_has ls 2 [(0, .ref xq), (1, .int (nI k))] := hl
  refine x_iload_n X dX5_sheetAt_0 rfl (lv_at hl 1 rfl) ?_
  refine n_if_lt X 22 dX5_sheetAt_1 (by decide) (by omega) ?_
  refine x_iload_n X dX5_sheetAt_4 rfl (lv_at hl 1 rfl) ?_
  refine x_aload_n X dX5_sheetAt_5 rfl (lv_at hl 0 rfl) ?_
  refine x_get X hW (v := .ref (xa 0)) hi5 0 rfl rfl 0 (by decide) (List.mem_of_getElem? (i := 1) rfl) rfl rfl dX5_sheetAt_6 ?_
  refine n_alenq X hW 1 2 rfl rfl dX5_sheetAt_9 ?_
  refine n_icmp_ge X 22 dX5_sheetAt_10 (by decide) (by omega) (by decide) (fun c10 => by omega) (fun c10 => ?_)
  refine x_aload_n X dX5_sheetAt_13 rfl (lv_at hl 0 rfl) ?_
  refine x_get X hW (v := .ref (xa 0)) hi5 0 rfl rfl 0 (by decide) (List.mem_of_getElem? (i := 1) rfl) rfl rfl dX5_sheetAt_14 ?_
  refine x_iload_n X dX5_sheetAt_17 rfl (lv_at hl 1 rfl) ?_
  refine n_aald X hW (x := ys k) 1 2 rfl rfl (by omega) (by decide) rfl dX5_sheetAt_18 ?_
  refine x_goto X 23 dX5_sheetAt_19 (by decide) ?_
  exact x_aretq X (r := some (ys k)) rfl hW rfl (Or.inl ⟨_, rfl⟩) () ((rfl)) rfl dX5_sheetAt_23
set_option maxHeartbeats 4000000 in
set_option maxRecDepth 100000 in
theorem c_X5_sheetAt0 (l : Launch) (D : va_G) (cI cZ cO : ClassId) (xq : Nat) (xa : Nat → Nat) (xg : Nat → Nat) (xh : Nat → Int32) (ys : Nat → Nat) (sz : Nat) (k : Int32)  (hk : ¬ inR k 4) : Met l yX5_sheetAt wsX5_sheetAt ({ frames := 0, cells := 0, slots := 0, locals := 0 }) (va_Pc [.ref xq, .int k] (st_W D (ty3 cI cZ cO) (wX cI cZ xq xa xg xh ++ (wA cO (xa 0) ys)) sz)) (va_Qq (fun (rr : Option Nat) (u : Unit) => rr = none) (fun u t => at_W D (ty3 cI cZ cO) (va_A (wX cI cZ xq xa xg xh ++ (wA cO (xa 0) ys)) sz) (wX cI cZ xq xa xg xh ++ (wA cO (xa 0) ys)) t) (va_A (wX cI cZ xq xa xg xh ++ (wA cO (xa 0) ys)) sz)) 0 0 (va_A (wX cI cZ xq xa xg xh ++ (wA cO (xa 0) ys)) sz) := by
  refine Met.goq (cc := cX5_sheetAt) (maxL := 2) (ret := (some (.object "WaterConsent$Sheet"))) (by decide) rfl (Nat.le_of_ble_eq_true rfl) (fun p e s m below meth c A ls X hW hl => ?_)
  have hi5 : ∀ w ∈ wsX50, w ∈ wsX5_sheetAt := fun w h => List.mem_cons_of_mem _ (List.mem_append_right _ h)
  have hl : lv_has ls 2 [(0, .ref xq), (1, .int k)] := hl
  refine x_iload_n X dX5_sheetAt_0 rfl (lv_at hl 1 rfl) ?_
  refine x_if_lt X 22 dX5_sheetAt_1 (by decide) (fun c1 => ?_) (fun c1 => ?_)
  · refine x_null X dX5_sheetAt_22 ?_
    exact x_aretq X (r := none) rfl hW rfl (Or.inl ⟨_, rfl⟩) () ((rfl)) rfl dX5_sheetAt_23
  · refine x_iload_n X dX5_sheetAt_4 rfl (lv_at hl 1 rfl) ?_
    refine x_aload_n X dX5_sheetAt_5 rfl (lv_at hl 0 rfl) ?_
    refine x_get X hW (v := .ref (xa 0)) hi5 0 rfl rfl 0 (by decide) (List.mem_of_getElem? (i := 1) rfl) rfl rfl dX5_sheetAt_6 ?_
    refine n_alenq X hW 1 2 rfl rfl dX5_sheetAt_9 ?_
    refine x_icmp_ge X 22 dX5_sheetAt_10 (by decide) (fun c10 => ?_) (fun c10 => by exact absurd (inR_of c1 c10 (by decide)) hk)
    refine x_null X dX5_sheetAt_22 ?_
    exact x_aretq X (r := none) rfl hW rfl (Or.inl ⟨_, rfl⟩) () ((rfl)) rfl dX5_sheetAt_23
set_option maxHeartbeats 4000000 in
set_option maxRecDepth 100000 in
theorem c_X5_sheet (l : Launch) (D : va_G) (cI cZ cO : ClassId) (xq : Nat) (xa : Nat → Nat) (xg : Nat → Nat) (xh : Nat → Int32) (ys : Nat → Nat) (ta : Nat → Nat) (tg : Nat → Nat) (bf : Nat → Int32) (sz : Nat) (k0 : Int32) (lane : Int32) (n0 : Int32) (j : Nat) (hj4 : j < 4) (hkj : ¬ inR k0 4 ∨ k0 = nI j) : Met l yX5_sheet wsX5_sheet ({ frames := 2, cells := 0, slots := 0, locals := 45 }) (va_Pc [.ref xq, .int k0, .int lane, .int n0] (st_W D (ty3 cI cZ cO) (wX cI cZ xq xa xg xh ++ (wA cO (xa 0) ys ++ (wT cI cZ (ys j) ta tg ++ (wB cI (ta 3) bf)))) sz)) (va_Qi (fun (rr : Int32) (u : Unit) => rr = aSheet k0 lane n0) (fun u t => at_W D (ty3 cI cZ cO) (va_A (wX cI cZ xq xa xg xh ++ (wA cO (xa 0) ys ++ (wT cI cZ (ys j) ta tg ++ (wB cI (ta 3) bf)))) sz) (wX cI cZ xq xa (sF xg 6 (fSheet k0 lane n0)) xh ++ (wA cO (xa 0) ys ++ (wT cI cZ (ys j) ta (sF (sF (sF tg 0 (sSh k0 lane n0 (tg 0) (fun _ _ => 1))) 1 (sSh k0 lane n0 (tg 1) (fun ln _ => ln))) 2 (sSh k0 lane n0 (tg 2) (fun _ m => m))) ++ (wB cI (ta 3) (sSh k0 lane n0 (bf) (fun _ _ => fill60 (nI 0) bf)))))) t) (va_A (wX cI cZ xq xa xg xh ++ (wA cO (xa 0) ys ++ (wT cI cZ (ys j) ta tg ++ (wB cI (ta 3) bf)))) sz)) 0 0 (va_A (wX cI cZ xq xa xg xh ++ (wA cO (xa 0) ys ++ (wT cI cZ (ys j) ta tg ++ (wB cI (ta 3) bf)))) sz) := by
  refine Met.goi (cc := cX5_sheet) (maxL := 5) (ret := (some .int)) (by decide) rfl (Nat.le_of_ble_eq_true rfl) (fun p e s m below meth c A ls X hW hl => ?_)
  have hi5 : ∀ w ∈ wsX50, w ∈ wsX5_sheet := fun w h => List.mem_cons_of_mem _ (List.mem_append_left _ (List.mem_append_right _ h))
  have hi3 : ∀ w ∈ wsX30, w ∈ wsX5_sheet := fun w h => List.mem_cons_of_mem _ (List.mem_append_right _ h)
  have hl : lv_has ls 5 [(0, .ref xq), (1, .int k0), (2, .int lane), (3, .int n0)] := hl
  rcases hkj with hq | rfl
  · refine x_aload_n X dX5_sheet_0 rfl (lv_at hl 0 rfl) ?_
    refine x_iconst (v := nI 0) X dX5_sheet_1 (by decide) ?_
    refine x_put X hW (v := .int (nI 0)) hi5 tyX5 tyX5_ok nmX5 0 rfl rfl 6 (by decide) (List.mem_of_getElem? (i := 1) rfl) rfl rfl rfl rfl (Nat.le_of_ble_eq_true rfl) dX5_sheet_2 (wX cI cZ xq xa (sF xg 6 0) xh ++ (wA cO (xa 0) ys ++ (wT cI cZ (ys j) ta tg ++ (wB cI (ta 3) bf)))) rfl (fun H locs hW => ?_)
    refine x_aload_n X dX5_sheet_5 rfl (lv_at hl 0 rfl) ?_
    refine x_iload_n X dX5_sheet_6 rfl (lv_at hl 1 rfl) ?_
    refine x_callVq X hW (As := [.int k0]) (rest := []) (wz := fun u => (wX cI cZ xq xa (sF xg 6 0) xh ++ (wA cO (xa 0) ys ++ (wT cI cZ (ys j) ta tg ++ (wB cI (ta 3) bf))))) (c_X5_sheetAt0 l D cI cZ cO xq xa (sF xg 6 0) xh ys _ k0 (show ¬ inR k0 4 from (by first | assumption | omega))) (cwV 1 X.2.2.2.2.2.1 gX5_sheet_X5_sheetAt rfl rfl rfl (by decide +kernel) ⟨Nat.le_of_ble_eq_true rfl, Nat.le_of_ble_eq_true rfl⟩) 0 4 rfl rfl rfl [0, 1] [2, 3] [2, 3, 0, 1] rfl rfl (by decide) (fun _ => rfl) rfl hl.1 rfl (Nat.le_of_ble_eq_true rfl) ⟨Nat.le_of_ble_eq_true rfl, Nat.le_of_ble_eq_true rfl⟩ dX5_sheet_7 (fun r1 u2 H locs w7 hW => ?_)
    have hW : Wd D A s.heap H locs (wX cI cZ xq xa (sF xg 6 0) xh ++ (wA cO (xa 0) ys ++ (wT cI cZ (ys j) ta tg ++ (wB cI (ta 3) bf)))) := hW
    replace w7 : r1 = none := w7
    subst w7
    refine lv_astoreN (lv' := [(4, .null), (0, .ref xq), (1, .int k0), (2, .int lane), (3, .int n0)]) X.1 X.2.1 dX5_sheet_10 hl (by decide) rfl (fun ls hl => ?_)
    refine lv_aloadN X.1 X.2.1 dX5_sheet_12 (lv_at hl 0 rfl) ?_
    refine lv_ifnonnullN X.1 X.2.1 dX5_sheet_14 ?_
    refine x_iconst (v := (-1 : Int32)) X dX5_sheet_17 (by decide) ?_
    exact x_iret X hW rfl () ((by unfold aSheet; (try rw [onR_out hq]); (try rfl))) (Eq.trans (Eq.trans (Eq.trans (Eq.trans (congrArg (fun z => (wX cI cZ xq xa (sF xg 6 z) xh ++ (wA cO (xa 0) ys ++ (wT cI cZ (ys j) ta tg ++ (wB cI (ta 3) bf))))) (show 0 = (fSheet k0 lane n0) from by unfold fSheet; (try rw [onR_out hq]); (try rfl))) (congrArg (fun z => (wX cI cZ xq xa (sF xg 6 (fSheet k0 lane n0)) xh ++ (wA cO (xa 0) ys ++ (wT cI cZ (ys j) ta (sF tg 0 z) ++ (wB cI (ta 3) bf))))) (show (tg 0) = (sSh k0 lane n0 (tg 0) (fun _ _ => 1)) from by unfold sSh; (try rw [onR_out hq]); (try rfl)))) (congrArg (fun z => (wX cI cZ xq xa (sF xg 6 (fSheet k0 lane n0)) xh ++ (wA cO (xa 0) ys ++ (wT cI cZ (ys j) ta (sF (sF tg 0 (sSh k0 lane n0 (tg 0) (fun _ _ => 1))) 1 z) ++ (wB cI (ta 3) bf))))) (show (tg 1) = (sSh k0 lane n0 (tg 1) (fun ln _ => ln)) from by unfold sSh; (try rw [onR_out hq]); (try rfl)))) (congrArg (fun z => (wX cI cZ xq xa (sF xg 6 (fSheet k0 lane n0)) xh ++ (wA cO (xa 0) ys ++ (wT cI cZ (ys j) ta (sF (sF (sF tg 0 (sSh k0 lane n0 (tg 0) (fun _ _ => 1))) 1 (sSh k0 lane n0 (tg 1) (fun ln _ => ln))) 2 z) ++ (wB cI (ta 3) bf))))) (show (tg 2) = (sSh k0 lane n0 (tg 2) (fun _ m => m)) from by unfold sSh; (try rw [onR_out hq]); (try rfl)))) (congrArg (fun z => (wX cI cZ xq xa (sF xg 6 (fSheet k0 lane n0)) xh ++ (wA cO (xa 0) ys ++ (wT cI cZ (ys j) ta (sF (sF (sF tg 0 (sSh k0 lane n0 (tg 0) (fun _ _ => 1))) 1 (sSh k0 lane n0 (tg 1) (fun ln _ => ln))) 2 (sSh k0 lane n0 (tg 2) (fun _ m => m))) ++ (wB cI (ta 3) z))))) (show bf = (sSh k0 lane n0 (bf) (fun _ _ => fill60 (nI 0) bf)) from by unfold sSh; (try rw [onR_out hq]); (try rfl)))) dX5_sheet_18
  · refine x_aload_n X dX5_sheet_0 rfl (lv_at hl 0 rfl) ?_
    refine x_iconst (v := nI 0) X dX5_sheet_1 (by decide) ?_
    refine x_put X hW (v := .int (nI 0)) hi5 tyX5 tyX5_ok nmX5 0 rfl rfl 6 (by decide) (List.mem_of_getElem? (i := 1) rfl) rfl rfl rfl rfl (Nat.le_of_ble_eq_true rfl) dX5_sheet_2 (wX cI cZ xq xa (sF xg 6 0) xh ++ (wA cO (xa 0) ys ++ (wT cI cZ (ys j) ta tg ++ (wB cI (ta 3) bf)))) rfl (fun H locs hW => ?_)
    refine x_aload_n X dX5_sheet_5 rfl (lv_at hl 0 rfl) ?_
    refine x_iload_n X dX5_sheet_6 rfl (lv_at hl 1 rfl) ?_
    refine x_callVq X hW (As := [.int (nI j)]) (rest := []) (wz := fun u => (wX cI cZ xq xa (sF xg 6 0) xh ++ (wA cO (xa 0) ys ++ (wT cI cZ (ys j) ta tg ++ (wB cI (ta 3) bf))))) (c_X5_sheetAt l D cI cZ cO xq xa (sF xg 6 0) xh ys _ j (show j < 4 from (by first | assumption | omega))) (cwV 1 X.2.2.2.2.2.1 gX5_sheet_X5_sheetAt rfl rfl rfl (by decide +kernel) ⟨Nat.le_of_ble_eq_true rfl, Nat.le_of_ble_eq_true rfl⟩) 0 4 rfl rfl rfl [0, 1] [2, 3] [2, 3, 0, 1] rfl rfl (by decide) (fun _ => rfl) rfl hl.1 rfl (Nat.le_of_ble_eq_true rfl) ⟨Nat.le_of_ble_eq_true rfl, Nat.le_of_ble_eq_true rfl⟩ dX5_sheet_7 (fun r3 u4 H locs w7 hW => ?_)
    have hW : Wd D A s.heap H locs (wX cI cZ xq xa (sF xg 6 0) xh ++ (wA cO (xa 0) ys ++ (wT cI cZ (ys j) ta tg ++ (wB cI (ta 3) bf)))) := hW
    replace w7 : r3 = some (ys j) := w7
    subst w7
    refine x_astore X [(4, .ref (ys j)), (0, .ref xq), (1, .int (nI j)), (2, .int lane), (3, .int n0)] dX5_sheet_10 hl (by decide) rfl (fun ls hl => ?_)
    refine x_aload X dX5_sheet_12 (lv_at hl 0 rfl) ?_
    refine lv_ifnonnull (tgt := 19) X.1 X.2.1 dX5_sheet_14 (by decide) ?_
    refine x_iload_n X dX5_sheet_19 rfl (lv_at hl 3 rfl) ?_
    refine x_callSie X hW (As := [.int lane]) (rest := []) (c_X5_isLane l D cI cZ cO  _ lane) (va_cwS 1 X.2.2.2.2.2.1 gX5_sheet_X5_isLane rfl rfl rfl (by decide +kernel) ⟨Nat.le_of_ble_eq_true rfl, Nat.le_of_ble_eq_true rfl⟩) rfl hl.1 rfl (Nat.le_of_ble_eq_true rfl) ⟨Nat.le_of_ble_eq_true rfl, Nat.le_of_ble_eq_true rfl⟩ dX5_sheet_20 (fun r5 u6 H locs w20 hW => ?_)
    have hW : Wd D A s.heap H locs (wX cI cZ xq xa (sF xg 6 0) xh ++ (wA cO (xa 0) ys ++ (wT cI cZ (ys j) ta tg ++ (wB cI (ta 3) bf)))) := hW
    replace w20 : (r5 = nI 1 ∧ (inR lane 3) ∨ r5 = nI 0 ∧ ¬ (inR lane 3)) := w20
    rcases w20 with ⟨w20, h20⟩ | ⟨w20, h20⟩
    · subst w20
      obtain ⟨ln, hln, rfl⟩ := inR_ex ((Iff.refl (inR lane 3)).mp h20) (by omega)
      refine n_if_eq X 32 dX5_sheet_23 (by decide) (by decide) (fun c23 => by exact absurd c23 (by decide)) (fun c23 => ?_)
      refine x_iload_n X dX5_sheet_26 rfl (lv_at hl 4 rfl) ?_
      refine x_bipush (v := nI 60) X dX5_sheet_27 (by decide) ?_
      refine x_icmp_le X 35 dX5_sheet_29 (by decide) (fun c29 => ?_) (fun c29 => ?_)
      · refine x_iload_n X dX5_sheet_35 rfl (lv_at hl 4 rfl) ?_
        refine x_if_ge X 45 dX5_sheet_36 (by decide) (fun c36 => ?_) (fun c36 => ?_)
        · obtain ⟨n, hn, rfl⟩ := inR_ex (x := n0) (n := 61) (by have z := c36; have z2 := c29; rw [i_le, i_0] at z; rw [i_le, nI_toInt (by decide)] at z2; constructor <;> omega) (by decide)
          refine x_aload X dX5_sheet_45 (lv_at hl 0 rfl) ?_
          refine x_iload_n X dX5_sheet_47 rfl (lv_at hl 3 rfl) ?_
          refine x_iload_n X dX5_sheet_48 rfl (lv_at hl 4 rfl) ?_
          refine x_callVv X hW (As := [.int (nI ln), .int (nI n)]) (rest := []) (wz := fun u => (wX cI cZ xq xa (sF xg 6 0) xh ++ (wA cO (xa 0) ys ++ (wT cI cZ (ys j) ta (sF (sF (sF tg 0 1) 1 ln) 2 n) ++ (wB cI (ta 3) (fill60 (nI 0) bf)))))) (c_X3_becomeNew l D cI cZ cO (ys j) ta tg bf _ ln n) (cwV 2 X.2.2.2.2.2.1 gX5_sheet_X3_becomeNew rfl rfl rfl (by decide +kernel) ⟨Nat.le_of_ble_eq_true rfl, Nat.le_of_ble_eq_true rfl⟩) 2 3 rfl rfl rfl [2, 3] [0, 1] [0, 1, 2, 3] rfl rfl (by decide) (fun _ => rfl) rfl hl.1 rfl (Nat.le_of_ble_eq_true rfl) ⟨Nat.le_of_ble_eq_true rfl, Nat.le_of_ble_eq_true rfl⟩ dX5_sheet_49 (fun u8 H locs w49 hW => ?_)
          have hW : Wd D A s.heap H locs (wX cI cZ xq xa (sF xg 6 0) xh ++ (wA cO (xa 0) ys ++ (wT cI cZ (ys j) ta (sF (sF (sF tg 0 1) 1 ln) 2 n) ++ (wB cI (ta 3) (fill60 (nI 0) bf))))) := hW
          replace w49 : True := w49
          refine x_iconst (v := nI 1) X dX5_sheet_52 (by decide) ?_
          exact x_iret X hW rfl () ((by unfold aSheet; (try rw [onR_in hj4 (by decide)]); (try rw [onR_in hln (by omega)]); (try rw [onR_in hn (by decide)]); (try rfl))) (Eq.trans (Eq.trans (Eq.trans (Eq.trans (congrArg (fun z => (wX cI cZ xq xa (sF xg 6 z) xh ++ (wA cO (xa 0) ys ++ (wT cI cZ (ys j) ta (sF (sF (sF tg 0 1) 1 ln) 2 n) ++ (wB cI (ta 3) (fill60 (nI 0) bf)))))) (show 0 = (fSheet (nI j) (nI ln) (nI n)) from by unfold fSheet; (try rw [onR_in hj4 (by decide)]); (try rw [onR_in hln (by omega)]); (try rw [onR_in hn (by decide)]); (try rfl))) (congrArg (fun z => (wX cI cZ xq xa (sF xg 6 (fSheet (nI j) (nI ln) (nI n))) xh ++ (wA cO (xa 0) ys ++ (wT cI cZ (ys j) ta (sF (sF (sF tg 0 z) 1 ln) 2 n) ++ (wB cI (ta 3) (fill60 (nI 0) bf)))))) (show 1 = (sSh (nI j) (nI ln) (nI n) (tg 0) (fun _ _ => 1)) from by unfold sSh; (try rw [onR_in hj4 (by decide)]); (try rw [onR_in hln (by omega)]); (try rw [onR_in hn (by decide)]); (try rfl)))) (congrArg (fun z => (wX cI cZ xq xa (sF xg 6 (fSheet (nI j) (nI ln) (nI n))) xh ++ (wA cO (xa 0) ys ++ (wT cI cZ (ys j) ta (sF (sF (sF tg 0 (sSh (nI j) (nI ln) (nI n) (tg 0) (fun _ _ => 1))) 1 z) 2 n) ++ (wB cI (ta 3) (fill60 (nI 0) bf)))))) (show ln = (sSh (nI j) (nI ln) (nI n) (tg 1) (fun ln _ => ln)) from by unfold sSh; (try rw [onR_in hj4 (by decide)]); (try rw [onR_in hln (by omega)]); (try rw [onR_in hn (by decide)]); (try rfl)))) (congrArg (fun z => (wX cI cZ xq xa (sF xg 6 (fSheet (nI j) (nI ln) (nI n))) xh ++ (wA cO (xa 0) ys ++ (wT cI cZ (ys j) ta (sF (sF (sF tg 0 (sSh (nI j) (nI ln) (nI n) (tg 0) (fun _ _ => 1))) 1 (sSh (nI j) (nI ln) (nI n) (tg 1) (fun ln _ => ln))) 2 z) ++ (wB cI (ta 3) (fill60 (nI 0) bf)))))) (show n = (sSh (nI j) (nI ln) (nI n) (tg 2) (fun _ m => m)) from by unfold sSh; (try rw [onR_in hj4 (by decide)]); (try rw [onR_in hln (by omega)]); (try rw [onR_in hn (by decide)]); (try rfl)))) (congrArg (fun z => (wX cI cZ xq xa (sF xg 6 (fSheet (nI j) (nI ln) (nI n))) xh ++ (wA cO (xa 0) ys ++ (wT cI cZ (ys j) ta (sF (sF (sF tg 0 (sSh (nI j) (nI ln) (nI n) (tg 0) (fun _ _ => 1))) 1 (sSh (nI j) (nI ln) (nI n) (tg 1) (fun ln _ => ln))) 2 (sSh (nI j) (nI ln) (nI n) (tg 2) (fun _ m => m))) ++ (wB cI (ta 3) z))))) (show (fill60 (nI 0) bf) = (sSh (nI j) (nI ln) (nI n) (bf) (fun _ _ => fill60 (nI 0) bf)) from by unfold sSh; (try rw [onR_in hj4 (by decide)]); (try rw [onR_in hln (by omega)]); (try rw [onR_in hn (by decide)]); (try rfl)))) dX5_sheet_53
        · have gn : n0.toInt < 0 := by have z := c36; rw [i_le, i_0] at z; omega
          refine x_aload_n X dX5_sheet_39 rfl (lv_at hl 1 rfl) ?_
          refine x_iconst (v := nI 4) X dX5_sheet_40 (by decide) ?_
          refine x_callVi X hW (As := [.int (nI 4)]) (rest := []) (wz := fun u => (wX cI cZ xq xa (sF xg 6 4) xh ++ (wA cO (xa 0) ys ++ (wT cI cZ (ys j) ta tg ++ (wB cI (ta 3) bf))))) (c_X5_faulted l D cI cZ cO xq xa (sF xg 6 0) xh _ 4) (cwV 1 X.2.2.2.2.2.1 gX5_sheet_X5_faulted rfl rfl rfl (by decide +kernel) ⟨Nat.le_of_ble_eq_true rfl, Nat.le_of_ble_eq_true rfl⟩) 0 4 rfl rfl rfl [0] [1, 2, 3] [3, 0, 1, 2] rfl rfl (by decide) (fun _ => rfl) rfl hl.1 rfl (Nat.le_of_ble_eq_true rfl) ⟨Nat.le_of_ble_eq_true rfl, Nat.le_of_ble_eq_true rfl⟩ dX5_sheet_41 (fun r9 u10 H locs w41 hW => ?_)
          have hW : Wd D A s.heap H locs (wX cI cZ xq xa (sF xg 6 4) xh ++ (wA cO (xa 0) ys ++ (wT cI cZ (ys j) ta tg ++ (wB cI (ta 3) bf)))) := hW
          replace w41 : r9 = (-10) - nI 4 := w41
          subst w41
          exact x_iret X hW rfl () ((by unfold aSheet; (try rw [onR_in hj4 (by decide)]); (try rw [onR_in hln (by omega)]); (try rw [onR_out (by intro q; omega)]); (try rw [if_neg (by omega)]); (try rfl))) (Eq.trans (Eq.trans (Eq.trans (Eq.trans (congrArg (fun z => (wX cI cZ xq xa (sF xg 6 z) xh ++ (wA cO (xa 0) ys ++ (wT cI cZ (ys j) ta tg ++ (wB cI (ta 3) bf))))) (show 4 = (fSheet (nI j) (nI ln) n0) from by unfold fSheet; (try rw [onR_in hj4 (by decide)]); (try rw [onR_in hln (by omega)]); (try rw [onR_out (by intro q; omega)]); (try rw [if_neg (by omega)]); (try rfl))) (congrArg (fun z => (wX cI cZ xq xa (sF xg 6 (fSheet (nI j) (nI ln) n0)) xh ++ (wA cO (xa 0) ys ++ (wT cI cZ (ys j) ta (sF tg 0 z) ++ (wB cI (ta 3) bf))))) (show (tg 0) = (sSh (nI j) (nI ln) n0 (tg 0) (fun _ _ => 1)) from by unfold sSh; (try rw [onR_in hj4 (by decide)]); (try rw [onR_in hln (by omega)]); (try rw [onR_out (by intro q; omega)]); (try rw [if_neg (by omega)]); (try rfl)))) (congrArg (fun z => (wX cI cZ xq xa (sF xg 6 (fSheet (nI j) (nI ln) n0)) xh ++ (wA cO (xa 0) ys ++ (wT cI cZ (ys j) ta (sF (sF tg 0 (sSh (nI j) (nI ln) n0 (tg 0) (fun _ _ => 1))) 1 z) ++ (wB cI (ta 3) bf))))) (show (tg 1) = (sSh (nI j) (nI ln) n0 (tg 1) (fun ln _ => ln)) from by unfold sSh; (try rw [onR_in hj4 (by decide)]); (try rw [onR_in hln (by omega)]); (try rw [onR_out (by intro q; omega)]); (try rw [if_neg (by omega)]); (try rfl)))) (congrArg (fun z => (wX cI cZ xq xa (sF xg 6 (fSheet (nI j) (nI ln) n0)) xh ++ (wA cO (xa 0) ys ++ (wT cI cZ (ys j) ta (sF (sF (sF tg 0 (sSh (nI j) (nI ln) n0 (tg 0) (fun _ _ => 1))) 1 (sSh (nI j) (nI ln) n0 (tg 1) (fun ln _ => ln))) 2 z) ++ (wB cI (ta 3) bf))))) (show (tg 2) = (sSh (nI j) (nI ln) n0 (tg 2) (fun _ m => m)) from by unfold sSh; (try rw [onR_in hj4 (by decide)]); (try rw [onR_in hln (by omega)]); (try rw [onR_out (by intro q; omega)]); (try rw [if_neg (by omega)]); (try rfl)))) (congrArg (fun z => (wX cI cZ xq xa (sF xg 6 (fSheet (nI j) (nI ln) n0)) xh ++ (wA cO (xa 0) ys ++ (wT cI cZ (ys j) ta (sF (sF (sF tg 0 (sSh (nI j) (nI ln) n0 (tg 0) (fun _ _ => 1))) 1 (sSh (nI j) (nI ln) n0 (tg 1) (fun ln _ => ln))) 2 (sSh (nI j) (nI ln) n0 (tg 2) (fun _ m => m))) ++ (wB cI (ta 3) z))))) (show bf = (sSh (nI j) (nI ln) n0 (bf) (fun _ _ => fill60 (nI 0) bf)) from by unfold sSh; (try rw [onR_in hj4 (by decide)]); (try rw [onR_in hln (by omega)]); (try rw [onR_out (by intro q; omega)]); (try rw [if_neg (by omega)]); (try rfl)))) dX5_sheet_44
      · have gn : 60 < n0.toInt := by have z := c29; rw [i_le, nI_toInt (by decide)] at z; omega
        refine x_bipush (v := (-2 : Int32)) X dX5_sheet_32 (by decide) ?_
        exact x_iret X hW rfl () ((by unfold aSheet; (try rw [onR_in hj4 (by decide)]); (try rw [onR_in hln (by omega)]); (try rw [onR_out (by intro q; omega)]); (try rw [if_pos gn]); (try rfl))) (Eq.trans (Eq.trans (Eq.trans (Eq.trans (congrArg (fun z => (wX cI cZ xq xa (sF xg 6 z) xh ++ (wA cO (xa 0) ys ++ (wT cI cZ (ys j) ta tg ++ (wB cI (ta 3) bf))))) (show 0 = (fSheet (nI j) (nI ln) n0) from by unfold fSheet; (try rw [onR_in hj4 (by decide)]); (try rw [onR_in hln (by omega)]); (try rw [onR_out (by intro q; omega)]); (try rw [if_pos gn]); (try rfl))) (congrArg (fun z => (wX cI cZ xq xa (sF xg 6 (fSheet (nI j) (nI ln) n0)) xh ++ (wA cO (xa 0) ys ++ (wT cI cZ (ys j) ta (sF tg 0 z) ++ (wB cI (ta 3) bf))))) (show (tg 0) = (sSh (nI j) (nI ln) n0 (tg 0) (fun _ _ => 1)) from by unfold sSh; (try rw [onR_in hj4 (by decide)]); (try rw [onR_in hln (by omega)]); (try rw [onR_out (by intro q; omega)]); (try rw [if_pos gn]); (try rfl)))) (congrArg (fun z => (wX cI cZ xq xa (sF xg 6 (fSheet (nI j) (nI ln) n0)) xh ++ (wA cO (xa 0) ys ++ (wT cI cZ (ys j) ta (sF (sF tg 0 (sSh (nI j) (nI ln) n0 (tg 0) (fun _ _ => 1))) 1 z) ++ (wB cI (ta 3) bf))))) (show (tg 1) = (sSh (nI j) (nI ln) n0 (tg 1) (fun ln _ => ln)) from by unfold sSh; (try rw [onR_in hj4 (by decide)]); (try rw [onR_in hln (by omega)]); (try rw [onR_out (by intro q; omega)]); (try rw [if_pos gn]); (try rfl)))) (congrArg (fun z => (wX cI cZ xq xa (sF xg 6 (fSheet (nI j) (nI ln) n0)) xh ++ (wA cO (xa 0) ys ++ (wT cI cZ (ys j) ta (sF (sF (sF tg 0 (sSh (nI j) (nI ln) n0 (tg 0) (fun _ _ => 1))) 1 (sSh (nI j) (nI ln) n0 (tg 1) (fun ln _ => ln))) 2 z) ++ (wB cI (ta 3) bf))))) (show (tg 2) = (sSh (nI j) (nI ln) n0 (tg 2) (fun _ m => m)) from by unfold sSh; (try rw [onR_in hj4 (by decide)]); (try rw [onR_in hln (by omega)]); (try rw [onR_out (by intro q; omega)]); (try rw [if_pos gn]); (try rfl)))) (congrArg (fun z => (wX cI cZ xq xa (sF xg 6 (fSheet (nI j) (nI ln) n0)) xh ++ (wA cO (xa 0) ys ++ (wT cI cZ (ys j) ta (sF (sF (sF tg 0 (sSh (nI j) (nI ln) n0 (tg 0) (fun _ _ => 1))) 1 (sSh (nI j) (nI ln) n0 (tg 1) (fun ln _ => ln))) 2 (sSh (nI j) (nI ln) n0 (tg 2) (fun _ m => m))) ++ (wB cI (ta 3) z))))) (show bf = (sSh (nI j) (nI ln) n0 (bf) (fun _ _ => fill60 (nI 0) bf)) from by unfold sSh; (try rw [onR_in hj4 (by decide)]); (try rw [onR_in hln (by omega)]); (try rw [onR_out (by intro q; omega)]); (try rw [if_pos gn]); (try rfl)))) dX5_sheet_34
    · subst w20
      have glane := fun q => h20 ((Iff.refl (inR lane 3)).mpr q)
      refine n_if_eq X 32 dX5_sheet_23 (by decide) (by decide) (fun c23 => ?_) (fun c23 => by exact absurd c23 (by decide))
      refine x_bipush (v := (-2 : Int32)) X dX5_sheet_32 (by decide) ?_
      exact x_iret X hW rfl () ((by unfold aSheet; (try rw [onR_in hj4 (by decide)]); (try rw [onR_out glane]); (try rfl))) (Eq.trans (Eq.trans (Eq.trans (Eq.trans (congrArg (fun z => (wX cI cZ xq xa (sF xg 6 z) xh ++ (wA cO (xa 0) ys ++ (wT cI cZ (ys j) ta tg ++ (wB cI (ta 3) bf))))) (show 0 = (fSheet (nI j) lane n0) from by unfold fSheet; (try rw [onR_in hj4 (by decide)]); (try rw [onR_out glane]); (try rfl))) (congrArg (fun z => (wX cI cZ xq xa (sF xg 6 (fSheet (nI j) lane n0)) xh ++ (wA cO (xa 0) ys ++ (wT cI cZ (ys j) ta (sF tg 0 z) ++ (wB cI (ta 3) bf))))) (show (tg 0) = (sSh (nI j) lane n0 (tg 0) (fun _ _ => 1)) from by unfold sSh; (try rw [onR_in hj4 (by decide)]); (try rw [onR_out glane]); (try rfl)))) (congrArg (fun z => (wX cI cZ xq xa (sF xg 6 (fSheet (nI j) lane n0)) xh ++ (wA cO (xa 0) ys ++ (wT cI cZ (ys j) ta (sF (sF tg 0 (sSh (nI j) lane n0 (tg 0) (fun _ _ => 1))) 1 z) ++ (wB cI (ta 3) bf))))) (show (tg 1) = (sSh (nI j) lane n0 (tg 1) (fun ln _ => ln)) from by unfold sSh; (try rw [onR_in hj4 (by decide)]); (try rw [onR_out glane]); (try rfl)))) (congrArg (fun z => (wX cI cZ xq xa (sF xg 6 (fSheet (nI j) lane n0)) xh ++ (wA cO (xa 0) ys ++ (wT cI cZ (ys j) ta (sF (sF (sF tg 0 (sSh (nI j) lane n0 (tg 0) (fun _ _ => 1))) 1 (sSh (nI j) lane n0 (tg 1) (fun ln _ => ln))) 2 z) ++ (wB cI (ta 3) bf))))) (show (tg 2) = (sSh (nI j) lane n0 (tg 2) (fun _ m => m)) from by unfold sSh; (try rw [onR_in hj4 (by decide)]); (try rw [onR_out glane]); (try rfl)))) (congrArg (fun z => (wX cI cZ xq xa (sF xg 6 (fSheet (nI j) lane n0)) xh ++ (wA cO (xa 0) ys ++ (wT cI cZ (ys j) ta (sF (sF (sF tg 0 (sSh (nI j) lane n0 (tg 0) (fun _ _ => 1))) 1 (sSh (nI j) lane n0 (tg 1) (fun ln _ => ln))) 2 (sSh (nI j) lane n0 (tg 2) (fun _ m => m))) ++ (wB cI (ta 3) z))))) (show bf = (sSh (nI j) lane n0 (bf) (fun _ _ => fill60 (nI 0) bf)) from by unfold sSh; (try rw [onR_in hj4 (by decide)]); (try rw [onR_out glane]); (try rfl)))) dX5_sheet_34
set_option maxHeartbeats 4000000 in
set_option maxRecDepth 100000 in
theorem c_X5_lose (l : Launch) (D : va_G) (cI cZ cO : ClassId) (xq : Nat) (xa : Nat → Nat) (xg : Nat → Nat) (xh : Nat → Int32) (ys : Nat → Nat) (ta : Nat → Nat) (tg : Nat → Nat) (bf : Nat → Int32) (sz : Nat) (k0 : Int32) (j : Nat) (th : Nat → Nat) (hj4 : j < 4) (hkj : ¬ inR k0 4 ∨ k0 = nI j) (hct : tg 2 ≤ 60) (hth : tg 0 ≤ 1) (hln : tg 1 ≤ 2) (hthj : th j = tg 0) : Met l yX5_lose wsX5_lose ({ frames := 1, cells := 0, slots := 0, locals := 21 }) (va_Pc [.ref xq, .int k0] (st_W D (ty3 cI cZ cO) (wX cI cZ xq xa xg xh ++ (wA cO (xa 0) ys ++ (wT cI cZ (ys j) ta tg ++ (wB cI (ta 3) bf)))) sz)) (va_Qi (fun (rr : Int32) (u : Unit) => rr = aLose th k0) (fun u t => at_W D (ty3 cI cZ cO) (va_A (wX cI cZ xq xa xg xh ++ (wA cO (xa 0) ys ++ (wT cI cZ (ys j) ta tg ++ (wB cI (ta 3) bf)))) sz) (wX cI cZ xq xa xg xh ++ (wA cO (xa 0) ys ++ (wT cI cZ (ys j) ta (sF tg 0 (onR k0 4 (tg 0) (fun _ => 0))) ++ (wB cI (ta 3) bf)))) t) (va_A (wX cI cZ xq xa xg xh ++ (wA cO (xa 0) ys ++ (wT cI cZ (ys j) ta tg ++ (wB cI (ta 3) bf)))) sz)) 0 0 (va_A (wX cI cZ xq xa xg xh ++ (wA cO (xa 0) ys ++ (wT cI cZ (ys j) ta tg ++ (wB cI (ta 3) bf)))) sz) := by
  refine Met.goi (cc := cX5_lose) (maxL := 4) (ret := (some .int)) (by decide) rfl (Nat.le_of_ble_eq_true rfl) (fun p e s m below meth c A ls X hW hl => ?_)
  have hi3 : ∀ w ∈ wsX30, w ∈ wsX5_lose := fun w h => List.mem_cons_of_mem _ (List.mem_append_left _ (List.mem_append_right _ h))
  have hi5 : ∀ w ∈ wsX50, w ∈ wsX5_lose := fun w h => List.mem_cons_of_mem _ (List.mem_append_right _ h)
  have hl : lv_has ls 4 [(0, .ref xq), (1, .int k0)] := hl
  rcases hkj with hq | rfl
  · refine x_aload_n X dX5_lose_0 rfl (lv_at hl 0 rfl) ?_
    refine x_iload_n X dX5_lose_1 rfl (lv_at hl 1 rfl) ?_
    refine x_callVq X hW (As := [.int k0]) (rest := []) (wz := fun u => (wX cI cZ xq xa xg xh ++ (wA cO (xa 0) ys ++ (wT cI cZ (ys j) ta tg ++ (wB cI (ta 3) bf))))) (c_X5_sheetAt0 l D cI cZ cO xq xa xg xh ys _ k0 (show ¬ inR k0 4 from (by first | assumption | omega))) (cwV 1 X.2.2.2.2.2.1 gX5_lose_X5_sheetAt rfl rfl rfl (by decide +kernel) ⟨Nat.le_of_ble_eq_true rfl, Nat.le_of_ble_eq_true rfl⟩) 0 4 rfl rfl rfl [0, 1] [2, 3] [2, 3, 0, 1] rfl rfl (by decide) (fun _ => rfl) rfl hl.1 rfl (Nat.le_of_ble_eq_true rfl) ⟨Nat.le_of_ble_eq_true rfl, Nat.le_of_ble_eq_true rfl⟩ dX5_lose_2 (fun r1 u2 H locs w2 hW => ?_)
    have hW : Wd D A s.heap H locs (wX cI cZ xq xa xg xh ++ (wA cO (xa 0) ys ++ (wT cI cZ (ys j) ta tg ++ (wB cI (ta 3) bf)))) := hW
    replace w2 : r1 = none := w2
    subst w2
    refine lv_astore_nN (lv' := [(2, .null), (0, .ref xq), (1, .int k0)]) X.1 X.2.1 dX5_lose_5 rfl hl (by decide) rfl (fun ls hl => ?_)
    refine lv_aload_nN X.1 X.2.1 dX5_lose_6 rfl (lv_at hl 0 rfl) ?_
    refine lv_ifnonnullN X.1 X.2.1 dX5_lose_7 ?_
    refine x_iconst (v := (-1 : Int32)) X dX5_lose_10 (by decide) ?_
    exact x_iret X hW rfl () ((by unfold aLose; (try rw [onR_out hq]); (try rw [hthj]); (try rfl))) (congrArg (fun z => (wX cI cZ xq xa xg xh ++ (wA cO (xa 0) ys ++ (wT cI cZ (ys j) ta (sF tg 0 z) ++ (wB cI (ta 3) bf))))) (show (tg 0) = (onR k0 4 (tg 0) (fun _ => 0)) from by (try rw [onR_out hq]); (try rfl))) dX5_lose_11
  · refine x_aload_n X dX5_lose_0 rfl (lv_at hl 0 rfl) ?_
    refine x_iload_n X dX5_lose_1 rfl (lv_at hl 1 rfl) ?_
    refine x_callVq X hW (As := [.int (nI j)]) (rest := []) (wz := fun u => (wX cI cZ xq xa xg xh ++ (wA cO (xa 0) ys ++ (wT cI cZ (ys j) ta tg ++ (wB cI (ta 3) bf))))) (c_X5_sheetAt l D cI cZ cO xq xa xg xh ys _ j (show j < 4 from (by first | assumption | omega))) (cwV 1 X.2.2.2.2.2.1 gX5_lose_X5_sheetAt rfl rfl rfl (by decide +kernel) ⟨Nat.le_of_ble_eq_true rfl, Nat.le_of_ble_eq_true rfl⟩) 0 4 rfl rfl rfl [0, 1] [2, 3] [2, 3, 0, 1] rfl rfl (by decide) (fun _ => rfl) rfl hl.1 rfl (Nat.le_of_ble_eq_true rfl) ⟨Nat.le_of_ble_eq_true rfl, Nat.le_of_ble_eq_true rfl⟩ dX5_lose_2 (fun r3 u4 H locs w2 hW => ?_)
    have hW : Wd D A s.heap H locs (wX cI cZ xq xa xg xh ++ (wA cO (xa 0) ys ++ (wT cI cZ (ys j) ta tg ++ (wB cI (ta 3) bf)))) := hW
    replace w2 : r3 = some (ys j) := w2
    subst w2
    refine x_astore_n X [(2, .ref (ys j)), (0, .ref xq), (1, .int (nI j))] dX5_lose_5 rfl hl (by decide) rfl (fun ls hl => ?_)
    refine x_aload_n X dX5_lose_6 rfl (lv_at hl 0 rfl) ?_
    refine lv_ifnonnull (tgt := 12) X.1 X.2.1 dX5_lose_7 (by decide) ?_
    refine x_aload_n X dX5_lose_12 rfl (lv_at hl 0 rfl) ?_
    refine x_get X hW (v := .int (nI (tg 0))) hi3 2 rfl rfl 0 (by decide) (List.mem_of_getElem? (i := 1) rfl) rfl rfl dX5_lose_13 ?_
    refine n_if_eq X 23 dX5_lose_16 (by decide) (by omega) (fun c16 => ?_) (fun c16 => ?_)
    · refine x_iconst (v := nI 0) X dX5_lose_23 (by decide) ?_
      refine n_as0 (b := tg 0) (by omega) ?_
      refine x_istore_n X [(3, .int (nI (tg 0))), (2, .ref (ys j)), (0, .ref xq), (1, .int (nI j))] dX5_lose_24 rfl hl (by decide) rfl (fun ls hl => ?_)
      refine x_aload_n X dX5_lose_25 rfl (lv_at hl 1 rfl) ?_
      refine x_iconst (v := nI 0) X dX5_lose_26 (by decide) ?_
      refine x_put X hW (v := .int (nI 0)) hi3 tyX3 tyX3_ok nmX3 2 rfl rfl 0 (by decide) (List.mem_of_getElem? (i := 1) rfl) rfl rfl rfl rfl (Nat.le_of_ble_eq_true rfl) dX5_lose_27 (wX cI cZ xq xa xg xh ++ (wA cO (xa 0) ys ++ (wT cI cZ (ys j) ta (sF tg 0 0) ++ (wB cI (ta 3) bf)))) rfl (fun H locs hW => ?_)
      refine x_iload_n X dX5_lose_30 rfl (lv_at hl 0 rfl) ?_
      exact x_iret X hW rfl () ((by unfold aLose; (try rw [onR_in hj4 (by decide)]); (try rw [hthj]); (try rfl))) (congrArg (fun z => (wX cI cZ xq xa xg xh ++ (wA cO (xa 0) ys ++ (wT cI cZ (ys j) ta (sF tg 0 z) ++ (wB cI (ta 3) bf))))) (show 0 = (onR (nI j) 4 (tg 0) (fun _ => 0)) from by (try rw [onR_in hj4 (by decide)]); (try rfl))) dX5_lose_31
    · refine x_iconst (v := nI 1) X dX5_lose_19 (by decide) ?_
      refine x_goto X 24 dX5_lose_20 (by decide) ?_
      refine n_as0 (b := tg 0) (by omega) ?_
      refine x_istore_n X [(3, .int (nI (tg 0))), (2, .ref (ys j)), (0, .ref xq), (1, .int (nI j))] dX5_lose_24 rfl hl (by decide) rfl (fun ls hl => ?_)
      refine x_aload_n X dX5_lose_25 rfl (lv_at hl 1 rfl) ?_
      refine x_iconst (v := nI 0) X dX5_lose_26 (by decide) ?_
      refine x_put X hW (v := .int (nI 0)) hi3 tyX3 tyX3_ok nmX3 2 rfl rfl 0 (by decide) (List.mem_of_getElem? (i := 1) rfl) rfl rfl rfl rfl (Nat.le_of_ble_eq_true rfl) dX5_lose_27 (wX cI cZ xq xa xg xh ++ (wA cO (xa 0) ys ++ (wT cI cZ (ys j) ta (sF tg 0 0) ++ (wB cI (ta 3) bf)))) rfl (fun H locs hW => ?_)
      refine x_iload_n X dX5_lose_30 rfl (lv_at hl 0 rfl) ?_
      exact x_iret X hW rfl () ((by unfold aLose; (try rw [onR_in hj4 (by decide)]); (try rw [hthj]); (try rfl))) (congrArg (fun z => (wX cI cZ xq xa xg xh ++ (wA cO (xa 0) ys ++ (wT cI cZ (ys j) ta (sF tg 0 z) ++ (wB cI (ta 3) bf))))) (show 0 = (onR (nI j) 4 (tg 0) (fun _ => 0)) from by (try rw [onR_in hj4 (by decide)]); (try rfl))) dX5_lose_31
set_option maxHeartbeats 4000000 in
set_option maxRecDepth 100000 in
theorem c_X5_put (l : Launch) (D : va_G) (cI cZ cO : ClassId) (xq : Nat) (xa : Nat → Nat) (xg : Nat → Nat) (xh : Nat → Int32) (ys : Nat → Nat) (ta : Nat → Nat) (tg : Nat → Nat) (bf : Nat → Int32) (sz : Nat) (k0 : Int32) (i0 : Int32) (v : Int32) (j : Nat) (th : Nat → Nat) (ct : Nat → Nat) (hj4 : j < 4) (hkj : ¬ inR k0 4 ∨ k0 = nI j) (hct : tg 2 ≤ 60) (hth : tg 0 ≤ 1) (hln : tg 1 ≤ 2) (hthj : th j = tg 0) (hctj : ct j = tg 2) : Met l yX5_put wsX5_put ({ frames := 2, cells := 0, slots := 0, locals := 45 }) (va_Pc [.ref xq, .int k0, .int i0, .int v] (st_W D (ty3 cI cZ cO) (wX cI cZ xq xa xg xh ++ (wA cO (xa 0) ys ++ (wT cI cZ (ys j) ta tg ++ (wB cI (ta 3) bf)))) sz)) (va_Qi (fun (rr : Int32) (u : Unit) => rr = aPut th ct k0 i0) (fun u t => at_W D (ty3 cI cZ cO) (va_A (wX cI cZ xq xa xg xh ++ (wA cO (xa 0) ys ++ (wT cI cZ (ys j) ta tg ++ (wB cI (ta 3) bf)))) sz) (wX cI cZ xq xa (sF xg 6 (fPut th ct k0 i0)) xh ++ (wA cO (xa 0) ys ++ (wT cI cZ (ys j) ta tg ++ (wB cI (ta 3) (onR k0 4 bf (fun _ => if cellF (tg 0) (tg 2) i0 = 0 then sF bf i0.toNatClampNeg (cutI (tg 1) v) else bf)))))) t) (va_A (wX cI cZ xq xa xg xh ++ (wA cO (xa 0) ys ++ (wT cI cZ (ys j) ta tg ++ (wB cI (ta 3) bf)))) sz)) 0 0 (va_A (wX cI cZ xq xa xg xh ++ (wA cO (xa 0) ys ++ (wT cI cZ (ys j) ta tg ++ (wB cI (ta 3) bf)))) sz) := by
  refine Met.goi (cc := cX5_put) (maxL := 6) (ret := (some .int)) (by decide) rfl (Nat.le_of_ble_eq_true rfl) (fun p e s m below meth c A ls X hW hl => ?_)
  have hi5 : ∀ w ∈ wsX50, w ∈ wsX5_put := fun w h => List.mem_cons_of_mem _ (List.mem_append_left _ (List.mem_append_right _ h))
  have hi3 : ∀ w ∈ wsX30, w ∈ wsX5_put := fun w h => List.mem_cons_of_mem _ (List.mem_append_right _ h)
  have hl : lv_has ls 6 [(0, .ref xq), (1, .int k0), (2, .int i0), (3, .int v)] := hl
  rcases hkj with hq | rfl
  · refine x_aload_n X dX5_put_0 rfl (lv_at hl 0 rfl) ?_
    refine x_iconst (v := nI 0) X dX5_put_1 (by decide) ?_
    refine x_put X hW (v := .int (nI 0)) hi5 tyX5 tyX5_ok nmX5 0 rfl rfl 6 (by decide) (List.mem_of_getElem? (i := 1) rfl) rfl rfl rfl rfl (Nat.le_of_ble_eq_true rfl) dX5_put_2 (wX cI cZ xq xa (sF xg 6 0) xh ++ (wA cO (xa 0) ys ++ (wT cI cZ (ys j) ta tg ++ (wB cI (ta 3) bf)))) rfl (fun H locs hW => ?_)
    refine x_aload_n X dX5_put_5 rfl (lv_at hl 0 rfl) ?_
    refine x_iload_n X dX5_put_6 rfl (lv_at hl 1 rfl) ?_
    refine x_callVq X hW (As := [.int k0]) (rest := []) (wz := fun u => (wX cI cZ xq xa (sF xg 6 0) xh ++ (wA cO (xa 0) ys ++ (wT cI cZ (ys j) ta tg ++ (wB cI (ta 3) bf))))) (c_X5_sheetAt0 l D cI cZ cO xq xa (sF xg 6 0) xh ys _ k0 (show ¬ inR k0 4 from (by first | assumption | omega))) (cwV 1 X.2.2.2.2.2.1 gX5_put_X5_sheetAt rfl rfl rfl (by decide +kernel) ⟨Nat.le_of_ble_eq_true rfl, Nat.le_of_ble_eq_true rfl⟩) 0 4 rfl rfl rfl [0, 1] [2, 3] [2, 3, 0, 1] rfl rfl (by decide) (fun _ => rfl) rfl hl.1 rfl (Nat.le_of_ble_eq_true rfl) ⟨Nat.le_of_ble_eq_true rfl, Nat.le_of_ble_eq_true rfl⟩ dX5_put_7 (fun r1 u2 H locs w7 hW => ?_)
    have hW : Wd D A s.heap H locs (wX cI cZ xq xa (sF xg 6 0) xh ++ (wA cO (xa 0) ys ++ (wT cI cZ (ys j) ta tg ++ (wB cI (ta 3) bf)))) := hW
    replace w7 : r1 = none := w7
    subst w7
    refine lv_astoreN (lv' := [(4, .null), (0, .ref xq), (1, .int k0), (2, .int i0), (3, .int v)]) X.1 X.2.1 dX5_put_10 hl (by decide) rfl (fun ls hl => ?_)
    refine lv_aloadN X.1 X.2.1 dX5_put_12 (lv_at hl 0 rfl) ?_
    refine lv_ifnonnullN X.1 X.2.1 dX5_put_14 ?_
    refine x_iconst (v := (-1 : Int32)) X dX5_put_17 (by decide) ?_
    exact x_iret X hW rfl () (by unfold aPut; rw [onR_out hq]) (Eq.trans (congrArg (fun z => (wX cI cZ xq xa (sF xg 6 z) xh ++ (wA cO (xa 0) ys ++ (wT cI cZ (ys j) ta tg ++ (wB cI (ta 3) bf))))) (show 0 = (fPut th ct k0 i0) from by unfold fPut; rw [onR_out hq])) (congrArg (fun z => (wX cI cZ xq xa (sF xg 6 (fPut th ct k0 i0)) xh ++ (wA cO (xa 0) ys ++ (wT cI cZ (ys j) ta tg ++ (wB cI (ta 3) z))))) (show bf = (onR k0 4 bf (fun _ => if cellF (tg 0) (tg 2) i0 = 0 then sF bf i0.toNatClampNeg (cutI (tg 1) v) else bf)) from by rw [onR_out hq]))) dX5_put_18
  · refine x_aload_n X dX5_put_0 rfl (lv_at hl 0 rfl) ?_
    refine x_iconst (v := nI 0) X dX5_put_1 (by decide) ?_
    refine x_put X hW (v := .int (nI 0)) hi5 tyX5 tyX5_ok nmX5 0 rfl rfl 6 (by decide) (List.mem_of_getElem? (i := 1) rfl) rfl rfl rfl rfl (Nat.le_of_ble_eq_true rfl) dX5_put_2 (wX cI cZ xq xa (sF xg 6 0) xh ++ (wA cO (xa 0) ys ++ (wT cI cZ (ys j) ta tg ++ (wB cI (ta 3) bf)))) rfl (fun H locs hW => ?_)
    refine x_aload_n X dX5_put_5 rfl (lv_at hl 0 rfl) ?_
    refine x_iload_n X dX5_put_6 rfl (lv_at hl 1 rfl) ?_
    refine x_callVq X hW (As := [.int (nI j)]) (rest := []) (wz := fun u => (wX cI cZ xq xa (sF xg 6 0) xh ++ (wA cO (xa 0) ys ++ (wT cI cZ (ys j) ta tg ++ (wB cI (ta 3) bf))))) (c_X5_sheetAt l D cI cZ cO xq xa (sF xg 6 0) xh ys _ j (show j < 4 from (by first | assumption | omega))) (cwV 1 X.2.2.2.2.2.1 gX5_put_X5_sheetAt rfl rfl rfl (by decide +kernel) ⟨Nat.le_of_ble_eq_true rfl, Nat.le_of_ble_eq_true rfl⟩) 0 4 rfl rfl rfl [0, 1] [2, 3] [2, 3, 0, 1] rfl rfl (by decide) (fun _ => rfl) rfl hl.1 rfl (Nat.le_of_ble_eq_true rfl) ⟨Nat.le_of_ble_eq_true rfl, Nat.le_of_ble_eq_true rfl⟩ dX5_put_7 (fun r3 u4 H locs w7 hW => ?_)
    have hW : Wd D A s.heap H locs (wX cI cZ xq xa (sF xg 6 0) xh ++ (wA cO (xa 0) ys ++ (wT cI cZ (ys j) ta tg ++ (wB cI (ta 3) bf)))) := hW
    replace w7 : r3 = some (ys j) := w7
    subst w7
    refine x_astore X [(4, .ref (ys j)), (0, .ref xq), (1, .int (nI j)), (2, .int i0), (3, .int v)] dX5_put_10 hl (by decide) rfl (fun ls hl => ?_)
    refine x_aload X dX5_put_12 (lv_at hl 0 rfl) ?_
    refine lv_ifnonnull (tgt := 19) X.1 X.2.1 dX5_put_14 (by decide) ?_
    refine x_aload X dX5_put_19 (lv_at hl 0 rfl) ?_
    refine x_aload X dX5_put_21 (lv_at hl 0 rfl) ?_
    refine x_get X hW (v := .int (nI (tg 1))) hi3 2 rfl rfl 1 (by decide) (List.mem_of_getElem? (i := 2) rfl) rfl rfl dX5_put_23 ?_
    refine x_iload_n X dX5_put_26 rfl (lv_at hl 3 rfl) ?_
    refine x_iconst (v := nI 1) X dX5_put_27 (by decide) ?_
    refine x_callVi X hW (As := [.int (nI (tg 1)), .int i0, .int (nI 1)]) (rest := []) (wz := fun u => (wX cI cZ xq xa (sF xg 6 0) xh ++ (wA cO (xa 0) ys ++ (wT cI cZ (ys j) ta tg ++ (wB cI (ta 3) bf))))) (c_X3_faultOf l D cI cZ cO (ys j) ta tg bf _ (nI (tg 1)) i0 (nI 1) (show (tg 2) ≤ 60 from (by first | assumption | omega)) (show (tg 0) ≤ 1 from (by first | assumption | omega))) (cwV 3 X.2.2.2.2.2.1 gX5_put_X3_faultOf rfl rfl rfl (by decide +kernel) ⟨Nat.le_of_ble_eq_true rfl, Nat.le_of_ble_eq_true rfl⟩) 2 3 rfl rfl rfl [2, 3] [0, 1] [0, 1, 2, 3] rfl rfl (by decide) (fun _ => rfl) rfl hl.1 rfl (Nat.le_of_ble_eq_true rfl) ⟨Nat.le_of_ble_eq_true rfl, Nat.le_of_ble_eq_true rfl⟩ dX5_put_28 (fun r5 u6 H locs w28 hW => ?_)
    have hW : Wd D A s.heap H locs (wX cI cZ xq xa (sF xg 6 0) xh ++ (wA cO (xa 0) ys ++ (wT cI cZ (ys j) ta tg ++ (wB cI (ta 3) bf)))) := hW
    replace w28 : r5 = nI (barF ((tg 0)) ((tg 1)) ((tg 2)) (nI (tg 1)) i0 (nI 1)) := w28
    subst w28
    refine n_as0 (b := cellF (tg 0) (tg 2) i0) (bar1 rfl) ?_
    refine x_istore X [(5, .int (nI (cellF (tg 0) (tg 2) i0))), (4, .ref (ys j)), (0, .ref xq), (1, .int (nI j)), (2, .int i0), (3, .int v)] dX5_put_31 hl (by decide) rfl (fun ls hl => ?_)
    refine x_iload X dX5_put_33 (lv_at hl 0 rfl) ?_
    rcases Nat.eq_zero_or_pos (cellF (tg 0) (tg 2) i0) with hz | hz
    · obtain ⟨hp1, hp2⟩ := cellF_0 hz
      obtain ⟨ii, hii, rfl⟩ := inR_ex hp2 (by omega)
      refine n_as0 (b := 0) hz ?_
      refine n_if_eq X 45 dX5_put_35 (by decide) (by decide) (fun c35 => ?_) (fun c35 => by exact absurd c35 (by decide))
      refine x_aload X dX5_put_45 (lv_at hl 1 rfl) ?_
      refine x_iload_n X dX5_put_47 rfl (lv_at hl 4 rfl) ?_
      refine x_iload_n X dX5_put_48 rfl (lv_at hl 5 rfl) ?_
      refine x_callVv X hW (As := [.int (nI ii), .int v]) (rest := []) (wz := fun u => (wX cI cZ xq xa (sF xg 6 0) xh ++ (wA cO (xa 0) ys ++ (wT cI cZ (ys j) ta tg ++ (wB cI (ta 3) (sF bf ii (cutI ((tg 1)) v))))))) (c_X3_setCell l D cI cZ cO (ys j) ta tg bf _ ii v (show ii < (tg 2) from (by first | assumption | omega)) (show (tg 2) ≤ 60 from (by first | assumption | omega)) (show (tg 1) ≤ 2 from (by first | assumption | omega))) (cwV 2 X.2.2.2.2.2.1 gX5_put_X3_setCell rfl rfl rfl (by decide +kernel) ⟨Nat.le_of_ble_eq_true rfl, Nat.le_of_ble_eq_true rfl⟩) 2 3 rfl rfl rfl [2, 3] [0, 1] [0, 1, 2, 3] rfl rfl (by decide) (fun _ => rfl) rfl hl.1 rfl (Nat.le_of_ble_eq_true rfl) ⟨Nat.le_of_ble_eq_true rfl, Nat.le_of_ble_eq_true rfl⟩ dX5_put_49 (fun u8 H locs w49 hW => ?_)
      have hW : Wd D A s.heap H locs (wX cI cZ xq xa (sF xg 6 0) xh ++ (wA cO (xa 0) ys ++ (wT cI cZ (ys j) ta tg ++ (wB cI (ta 3) (sF bf ii (cutI ((tg 1)) v)))))) := hW
      replace w49 : True := w49
      refine x_iconst (v := nI 1) X dX5_put_52 (by decide) ?_
      exact x_iret X hW rfl () (by unfold aPut; rw [onR_in hj4 (by decide), hthj, hctj]; exact (fl0 hz _).symm) (Eq.trans (congrArg (fun z => (wX cI cZ xq xa (sF xg 6 z) xh ++ (wA cO (xa 0) ys ++ (wT cI cZ (ys j) ta tg ++ (wB cI (ta 3) (sF bf ii (cutI ((tg 1)) v))))))) (show 0 = (fPut th ct (nI j) (nI ii)) from by unfold fPut; rw [onR_in hj4 (by decide), hthj, hctj]; exact hz.symm)) (congrArg (fun z => (wX cI cZ xq xa (sF xg 6 (fPut th ct (nI j) (nI ii))) xh ++ (wA cO (xa 0) ys ++ (wT cI cZ (ys j) ta tg ++ (wB cI (ta 3) z))))) (show (sF bf ii (cutI ((tg 1)) v)) = (onR (nI j) 4 bf (fun _ => if cellF (tg 0) (tg 2) (nI ii) = 0 then sF bf (nI ii).toNatClampNeg (cutI (tg 1) v) else bf)) from by rw [onR_in hj4 (by decide), if_pos hz, nI_clamp (by omega)]))) dX5_put_53
    · have hz := Nat.ne_of_gt hz
      have hle := cellF_le (tg 0) (tg 2) i0
      refine n_if_eq X 45 dX5_put_35 (by decide) (by omega) (fun c35 => by omega) (fun c35 => ?_)
      refine x_aload_n X dX5_put_38 rfl (lv_at hl 2 rfl) ?_
      refine x_iload X dX5_put_39 (lv_at hl 0 rfl) ?_
      refine x_callVi X hW (As := [.int (nI (cellF (tg 0) (tg 2) i0))]) (rest := []) (wz := fun u => (wX cI cZ xq xa (sF xg 6 (cellF (tg 0) (tg 2) i0)) xh ++ (wA cO (xa 0) ys ++ (wT cI cZ (ys j) ta tg ++ (wB cI (ta 3) bf))))) (c_X5_faulted l D cI cZ cO xq xa (sF xg 6 0) xh _ (cellF (tg 0) (tg 2) i0)) (cwV 1 X.2.2.2.2.2.1 gX5_put_X5_faulted rfl rfl rfl (by decide +kernel) ⟨Nat.le_of_ble_eq_true rfl, Nat.le_of_ble_eq_true rfl⟩) 0 4 rfl rfl rfl [0] [1, 2, 3] [3, 0, 1, 2] rfl rfl (by decide) (fun _ => rfl) rfl hl.1 rfl (Nat.le_of_ble_eq_true rfl) ⟨Nat.le_of_ble_eq_true rfl, Nat.le_of_ble_eq_true rfl⟩ dX5_put_41 (fun r9 u10 H locs w41 hW => ?_)
      have hW : Wd D A s.heap H locs (wX cI cZ xq xa (sF xg 6 (cellF (tg 0) (tg 2) i0)) xh ++ (wA cO (xa 0) ys ++ (wT cI cZ (ys j) ta tg ++ (wB cI (ta 3) bf)))) := hW
      replace w41 : r9 = (-10) - nI (cellF (tg 0) (tg 2) i0) := w41
      subst w41
      exact x_iret X hW rfl () (by unfold aPut; rw [onR_in hj4 (by decide), hthj, hctj]; exact (fail_le hle hz _).symm) (Eq.trans (congrArg (fun z => (wX cI cZ xq xa (sF xg 6 z) xh ++ (wA cO (xa 0) ys ++ (wT cI cZ (ys j) ta tg ++ (wB cI (ta 3) bf))))) (show (cellF (tg 0) (tg 2) i0) = (fPut th ct (nI j) i0) from by unfold fPut; rw [onR_in hj4 (by decide), hthj, hctj])) (congrArg (fun z => (wX cI cZ xq xa (sF xg 6 (fPut th ct (nI j) i0)) xh ++ (wA cO (xa 0) ys ++ (wT cI cZ (ys j) ta tg ++ (wB cI (ta 3) z))))) (show bf = (onR (nI j) 4 bf (fun _ => if cellF (tg 0) (tg 2) i0 = 0 then sF bf i0.toNatClampNeg (cutI (tg 1) v) else bf)) from by rw [onR_in hj4 (by decide), if_neg hz]))) dX5_put_44
set_option maxHeartbeats 4000000 in
set_option maxRecDepth 100000 in
theorem c_X5_cell (l : Launch) (D : va_G) (cI cZ cO : ClassId) (xq : Nat) (xa : Nat → Nat) (xg : Nat → Nat) (xh : Nat → Int32) (ys : Nat → Nat) (ta : Nat → Nat) (tg : Nat → Nat) (bf : Nat → Int32) (sz : Nat) (k0 : Int32) (i0 : Int32) (lane : Int32) (j : Nat) (th : Nat → Nat) (ln : Nat → Nat) (ct : Nat → Nat) (cs : Nat → Nat → Int32) (hj4 : j < 4) (hkj : ¬ inR k0 4 ∨ k0 = nI j) (hct : tg 2 ≤ 60) (hth : tg 0 ≤ 1) (hln : tg 1 ≤ 2) (hthj : th j = tg 0) (hctj : ct j = tg 2) (hlnj : ln j = tg 1) (hcs : tg 0 = 1 → ∀ z0, z0 < tg 2 → bf z0 = cs j z0) : Met l yX5_cell wsX5_cell ({ frames := 2, cells := 0, slots := 0, locals := 45 }) (va_Pc [.ref xq, .int k0, .int i0, .int lane] (st_W D (ty3 cI cZ cO) (wX cI cZ xq xa xg xh ++ (wA cO (xa 0) ys ++ (wT cI cZ (ys j) ta tg ++ (wB cI (ta 3) bf)))) sz)) (va_Ql (fun (rr : Int64) (u : Unit) => rr = aCell th ln ct cs k0 i0 lane) (fun u t => at_W D (ty3 cI cZ cO) (va_A (wX cI cZ xq xa xg xh ++ (wA cO (xa 0) ys ++ (wT cI cZ (ys j) ta tg ++ (wB cI (ta 3) bf)))) sz) (wX cI cZ xq xa (sF xg 6 (fCell th ln ct k0 i0 lane)) xh ++ (wA cO (xa 0) ys ++ (wT cI cZ (ys j) ta tg ++ (wB cI (ta 3) bf)))) t) (va_A (wX cI cZ xq xa xg xh ++ (wA cO (xa 0) ys ++ (wT cI cZ (ys j) ta tg ++ (wB cI (ta 3) bf)))) sz)) 0 0 (va_A (wX cI cZ xq xa xg xh ++ (wA cO (xa 0) ys ++ (wT cI cZ (ys j) ta tg ++ (wB cI (ta 3) bf)))) sz) := by
  refine Met.gol (cc := cX5_cell) (maxL := 5) (ret := (some .long)) (by decide) rfl (Nat.le_of_ble_eq_true rfl) (fun p e s m below meth c A ls X hW hl => ?_)
  have hi5 : ∀ w ∈ wsX50, w ∈ wsX5_cell := fun w h => List.mem_cons_of_mem _ (List.mem_append_left _ (List.mem_append_right _ h))
  have hi3 : ∀ w ∈ wsX30, w ∈ wsX5_cell := fun w h => List.mem_cons_of_mem _ (List.mem_append_right _ h)
  have hl : lv_has ls 5 [(0, .ref xq), (1, .int k0), (2, .int i0), (3, .int lane)] := hl
  rcases hkj with hq | rfl
  · refine x_aload_n X dX5_cell_0 rfl (lv_at hl 0 rfl) ?_
    refine x_iconst (v := nI 0) X dX5_cell_1 (by decide) ?_
    refine x_put X hW (v := .int (nI 0)) hi5 tyX5 tyX5_ok nmX5 0 rfl rfl 6 (by decide) (List.mem_of_getElem? (i := 1) rfl) rfl rfl rfl rfl (Nat.le_of_ble_eq_true rfl) dX5_cell_2 (wX cI cZ xq xa (sF xg 6 0) xh ++ (wA cO (xa 0) ys ++ (wT cI cZ (ys j) ta tg ++ (wB cI (ta 3) bf)))) rfl (fun H locs hW => ?_)
    refine x_aload_n X dX5_cell_5 rfl (lv_at hl 0 rfl) ?_
    refine x_iload_n X dX5_cell_6 rfl (lv_at hl 1 rfl) ?_
    refine x_callVq X hW (As := [.int k0]) (rest := []) (wz := fun u => (wX cI cZ xq xa (sF xg 6 0) xh ++ (wA cO (xa 0) ys ++ (wT cI cZ (ys j) ta tg ++ (wB cI (ta 3) bf))))) (c_X5_sheetAt0 l D cI cZ cO xq xa (sF xg 6 0) xh ys _ k0 (show ¬ inR k0 4 from (by first | assumption | omega))) (cwV 1 X.2.2.2.2.2.1 gX5_cell_X5_sheetAt rfl rfl rfl (by decide +kernel) ⟨Nat.le_of_ble_eq_true rfl, Nat.le_of_ble_eq_true rfl⟩) 0 4 rfl rfl rfl [0, 1] [2, 3] [2, 3, 0, 1] rfl rfl (by decide) (fun _ => rfl) rfl hl.1 rfl (Nat.le_of_ble_eq_true rfl) ⟨Nat.le_of_ble_eq_true rfl, Nat.le_of_ble_eq_true rfl⟩ dX5_cell_7 (fun r1 u2 H locs w7 hW => ?_)
    have hW : Wd D A s.heap H locs (wX cI cZ xq xa (sF xg 6 0) xh ++ (wA cO (xa 0) ys ++ (wT cI cZ (ys j) ta tg ++ (wB cI (ta 3) bf)))) := hW
    replace w7 : r1 = none := w7
    subst w7
    refine lv_astoreN (lv' := [(4, .null), (0, .ref xq), (1, .int k0), (2, .int i0), (3, .int lane)]) X.1 X.2.1 dX5_cell_10 hl (by decide) rfl (fun ls hl => ?_)
    refine lv_aloadN X.1 X.2.1 dX5_cell_12 (lv_at hl 0 rfl) ?_
    refine lv_ifnullN (tgt := 24) X.1 X.2.1 dX5_cell_14 (by decide) ?_
    refine x_ldc2 (v := (-9223372036854775808)) X (List.mem_of_getElem? (i := 2) rfl) dX5_cell_24 ?_
    exact x_lret X hW rfl () ((by unfold aCell; (try rw [onR_out hq]); (try rfl))) (congrArg (fun z => (wX cI cZ xq xa (sF xg 6 z) xh ++ (wA cO (xa 0) ys ++ (wT cI cZ (ys j) ta tg ++ (wB cI (ta 3) bf))))) (show 0 = (fCell th ln ct k0 i0 lane) from by unfold fCell; (try rw [onR_out hq]); (try rfl))) dX5_cell_27
  · refine x_aload_n X dX5_cell_0 rfl (lv_at hl 0 rfl) ?_
    refine x_iconst (v := nI 0) X dX5_cell_1 (by decide) ?_
    refine x_put X hW (v := .int (nI 0)) hi5 tyX5 tyX5_ok nmX5 0 rfl rfl 6 (by decide) (List.mem_of_getElem? (i := 1) rfl) rfl rfl rfl rfl (Nat.le_of_ble_eq_true rfl) dX5_cell_2 (wX cI cZ xq xa (sF xg 6 0) xh ++ (wA cO (xa 0) ys ++ (wT cI cZ (ys j) ta tg ++ (wB cI (ta 3) bf)))) rfl (fun H locs hW => ?_)
    refine x_aload_n X dX5_cell_5 rfl (lv_at hl 0 rfl) ?_
    refine x_iload_n X dX5_cell_6 rfl (lv_at hl 1 rfl) ?_
    refine x_callVq X hW (As := [.int (nI j)]) (rest := []) (wz := fun u => (wX cI cZ xq xa (sF xg 6 0) xh ++ (wA cO (xa 0) ys ++ (wT cI cZ (ys j) ta tg ++ (wB cI (ta 3) bf))))) (c_X5_sheetAt l D cI cZ cO xq xa (sF xg 6 0) xh ys _ j (show j < 4 from (by first | assumption | omega))) (cwV 1 X.2.2.2.2.2.1 gX5_cell_X5_sheetAt rfl rfl rfl (by decide +kernel) ⟨Nat.le_of_ble_eq_true rfl, Nat.le_of_ble_eq_true rfl⟩) 0 4 rfl rfl rfl [0, 1] [2, 3] [2, 3, 0, 1] rfl rfl (by decide) (fun _ => rfl) rfl hl.1 rfl (Nat.le_of_ble_eq_true rfl) ⟨Nat.le_of_ble_eq_true rfl, Nat.le_of_ble_eq_true rfl⟩ dX5_cell_7 (fun r3 u4 H locs w7 hW => ?_)
    have hW : Wd D A s.heap H locs (wX cI cZ xq xa (sF xg 6 0) xh ++ (wA cO (xa 0) ys ++ (wT cI cZ (ys j) ta tg ++ (wB cI (ta 3) bf)))) := hW
    replace w7 : r3 = some (ys j) := w7
    subst w7
    refine x_astore X [(4, .ref (ys j)), (0, .ref xq), (1, .int (nI j)), (2, .int i0), (3, .int lane)] dX5_cell_10 hl (by decide) rfl (fun ls hl => ?_)
    refine x_aload X dX5_cell_12 (lv_at hl 0 rfl) ?_
    refine lv_ifnull X.1 X.2.1 dX5_cell_14 ?_
    refine x_iload_n X dX5_cell_17 rfl (lv_at hl 4 rfl) ?_
    refine x_callSie X hW (As := [.int lane]) (rest := []) (c_X5_isLane l D cI cZ cO  _ lane) (va_cwS 1 X.2.2.2.2.2.1 gX5_cell_X5_isLane rfl rfl rfl (by decide +kernel) ⟨Nat.le_of_ble_eq_true rfl, Nat.le_of_ble_eq_true rfl⟩) rfl hl.1 rfl (Nat.le_of_ble_eq_true rfl) ⟨Nat.le_of_ble_eq_true rfl, Nat.le_of_ble_eq_true rfl⟩ dX5_cell_18 (fun r5 u6 H locs w18 hW => ?_)
    have hW : Wd D A s.heap H locs (wX cI cZ xq xa (sF xg 6 0) xh ++ (wA cO (xa 0) ys ++ (wT cI cZ (ys j) ta tg ++ (wB cI (ta 3) bf)))) := hW
    replace w18 : (r5 = nI 1 ∧ (inR lane 3) ∨ r5 = nI 0 ∧ ¬ (inR lane 3)) := w18
    rcases w18 with ⟨w18, h18⟩ | ⟨w18, h18⟩
    · subst w18
      obtain ⟨ln0, hln0, rfl⟩ := inR_ex ((Iff.refl (inR lane 3)).mp h18) (by omega)
      refine n_if_ne X 28 dX5_cell_21 (by decide) (by decide) (fun c21 => ?_) (fun c21 => by exact absurd c21 (by decide))
      refine x_aload_n X dX5_cell_28 rfl (lv_at hl 1 rfl) ?_
      refine x_aload X dX5_cell_29 (lv_at hl 0 rfl) ?_
      refine x_iload_n X dX5_cell_31 rfl (lv_at hl 4 rfl) ?_
      refine x_iload_n X dX5_cell_32 rfl (lv_at hl 3 rfl) ?_
      refine x_iconst (v := nI 1) X dX5_cell_33 (by decide) ?_
      refine x_callVi X hW (As := [.int (nI ln0), .int i0, .int (nI 1)]) (rest := [.ref xq]) (wz := fun u => (wX cI cZ xq xa (sF xg 6 0) xh ++ (wA cO (xa 0) ys ++ (wT cI cZ (ys j) ta tg ++ (wB cI (ta 3) bf))))) (c_X3_faultOf l D cI cZ cO (ys j) ta tg bf _ (nI ln0) i0 (nI 1) (show (tg 2) ≤ 60 from (by first | assumption | omega)) (show (tg 0) ≤ 1 from (by first | assumption | omega))) (cwV 3 X.2.2.2.2.2.1 gX5_cell_X3_faultOf rfl rfl rfl (by decide +kernel) ⟨Nat.le_of_ble_eq_true rfl, Nat.le_of_ble_eq_true rfl⟩) 2 3 rfl rfl rfl [2, 3] [0, 1] [0, 1, 2, 3] rfl rfl (by decide) (fun _ => rfl) rfl hl.1 rfl (Nat.le_of_ble_eq_true rfl) ⟨Nat.le_of_ble_eq_true rfl, Nat.le_of_ble_eq_true rfl⟩ dX5_cell_34 (fun r7 u8 H locs w34 hW => ?_)
      have hW : Wd D A s.heap H locs (wX cI cZ xq xa (sF xg 6 0) xh ++ (wA cO (xa 0) ys ++ (wT cI cZ (ys j) ta tg ++ (wB cI (ta 3) bf)))) := hW
      replace w34 : r7 = nI (barF ((tg 0)) ((tg 1)) ((tg 2)) (nI ln0) i0 (nI 1)) := w34
      subst w34
      refine x_put X hW (v := .int (nI (barF ((tg 0)) ((tg 1)) ((tg 2)) (nI ln0) i0 (nI 1)))) hi5 tyX5 tyX5_ok nmX5 0 rfl rfl 6 (by decide) (List.mem_of_getElem? (i := 1) rfl) rfl rfl rfl rfl (Nat.le_of_ble_eq_true rfl) dX5_cell_37 (wX cI cZ xq xa (sF xg 6 (barF ((tg 0)) ((tg 1)) ((tg 2)) (nI ln0) i0 (nI 1))) xh ++ (wA cO (xa 0) ys ++ (wT cI cZ (ys j) ta tg ++ (wB cI (ta 3) bf)))) rfl (fun H locs hW => ?_)
      refine x_aload_n X dX5_cell_40 rfl (lv_at hl 1 rfl) ?_
      refine x_get X hW (v := .int (nI (barF ((tg 0)) ((tg 1)) ((tg 2)) (nI ln0) i0 (nI 1)))) hi5 0 rfl rfl 6 (by decide) (List.mem_of_getElem? (i := 1) rfl) rfl rfl dX5_cell_41 ?_
      have hle := barF_le (tg 0) (tg 1) (tg 2) (nI ln0) i0 (nI 1)
      rcases Nat.eq_zero_or_pos (barF (tg 0) (tg 1) (tg 2) (nI ln0) i0 (nI 1)) with hz | hz
      · obtain ⟨hb1, hb2, hb3, hb4, hb5⟩ := barF_0 hz
        rw [show (nI 1).toInt = 1 by decide] at hb5
        obtain ⟨ii, hii, rfl⟩ := inR_ex (x := i0) (n := tg 2) ⟨hb4, by omega⟩ (by omega)
        refine n_as0 (b := 0) hz ?_
        refine n_if_ne X 57 dX5_cell_44 (by decide) (by decide) (fun c44 => by exact absurd c44 (by decide)) (fun c44 => ?_)
        refine x_aload X dX5_cell_47 (lv_at hl 0 rfl) ?_
        refine x_iload_n X dX5_cell_49 rfl (lv_at hl 3 rfl) ?_
        refine x_callVi X hW (As := [.int (nI ii)]) (rest := []) (wz := fun u => (wX cI cZ xq xa (sF xg 6 (barF ((tg 0)) ((tg 1)) ((tg 2)) (nI ln0) (nI ii) (nI 1))) xh ++ (wA cO (xa 0) ys ++ (wT cI cZ (ys j) ta tg ++ (wB cI (ta 3) bf))))) (c_X3_cellAt l D cI cZ cO (ys j) ta tg bf _ ii (show ii < (tg 2) from (by first | assumption | omega)) (show (tg 2) ≤ 60 from (by first | assumption | omega))) (cwV 1 X.2.2.2.2.2.1 gX5_cell_X3_cellAt rfl rfl rfl (by decide +kernel) ⟨Nat.le_of_ble_eq_true rfl, Nat.le_of_ble_eq_true rfl⟩) 2 3 rfl rfl rfl [2, 3] [0, 1] [0, 1, 2, 3] rfl rfl (by decide) (fun _ => rfl) rfl hl.1 rfl (Nat.le_of_ble_eq_true rfl) ⟨Nat.le_of_ble_eq_true rfl, Nat.le_of_ble_eq_true rfl⟩ dX5_cell_50 (fun r9 u10 H locs w50 hW => ?_)
        have hW : Wd D A s.heap H locs (wX cI cZ xq xa (sF xg 6 (barF ((tg 0)) ((tg 1)) ((tg 2)) (nI ln0) (nI ii) (nI 1))) xh ++ (wA cO (xa 0) ys ++ (wT cI cZ (ys j) ta tg ++ (wB cI (ta 3) bf)))) := hW
        replace w50 : r9 = bf ii := w50
        subst w50
        refine x_i2l (v := (bf ii).toInt64) X dX5_cell_53 rfl ?_
        refine x_goto X 60 dX5_cell_54 (by decide) ?_
        exact x_lret X hW rfl () ((by unfold aCell; (try rw [onR_in hj4 (by decide)]); (try rw [onR_in hln0 (by omega)]); (try rw [hthj]); (try rw [hlnj]); (try rw [hctj]); (try rw [if_pos hz]); (try rw [nI_clamp (by omega)]); (try rw [← hcs (by omega) ii hii]); (try rw [hz]); (try rfl))) (congrArg (fun z => (wX cI cZ xq xa (sF xg 6 z) xh ++ (wA cO (xa 0) ys ++ (wT cI cZ (ys j) ta tg ++ (wB cI (ta 3) bf))))) (show (barF ((tg 0)) ((tg 1)) ((tg 2)) (nI ln0) (nI ii) (nI 1)) = (fCell th ln ct (nI j) (nI ii) (nI ln0)) from by unfold fCell; (try rw [onR_in hj4 (by decide)]); (try rw [onR_in hln0 (by omega)]); (try rw [hthj]); (try rw [hlnj]); (try rw [hctj]); (try rw [if_pos hz]); (try rw [nI_clamp (by omega)]); (try rw [← hcs (by omega) ii hii]); (try rw [hz]); (try rfl))) dX5_cell_60
      · have hz := Nat.ne_of_gt hz
        refine n_if_ne X 57 dX5_cell_44 (by decide) (by omega) (fun c44 => ?_) (fun c44 => by omega)
        refine x_ldc2 (v := (-9223372036854775808)) X (List.mem_of_getElem? (i := 2) rfl) dX5_cell_57 ?_
        exact x_lret X hW rfl () ((by unfold aCell; (try rw [onR_in hj4 (by decide)]); (try rw [onR_in hln0 (by omega)]); (try rw [hthj]); (try rw [hlnj]); (try rw [hctj]); (try rw [if_neg hz]); (try rfl))) (congrArg (fun z => (wX cI cZ xq xa (sF xg 6 z) xh ++ (wA cO (xa 0) ys ++ (wT cI cZ (ys j) ta tg ++ (wB cI (ta 3) bf))))) (show (barF ((tg 0)) ((tg 1)) ((tg 2)) (nI ln0) i0 (nI 1)) = (fCell th ln ct (nI j) i0 (nI ln0)) from by unfold fCell; (try rw [onR_in hj4 (by decide)]); (try rw [onR_in hln0 (by omega)]); (try rw [hthj]); (try rw [hlnj]); (try rw [hctj]); (try rw [if_neg hz]); (try rfl))) dX5_cell_60
    · subst w18
      have glane := fun q => h18 ((Iff.refl (inR lane 3)).mpr q)
      refine n_if_ne X 28 dX5_cell_21 (by decide) (by decide) (fun c21 => by exact absurd c21 (by decide)) (fun c21 => ?_)
      refine x_ldc2 (v := (-9223372036854775808)) X (List.mem_of_getElem? (i := 2) rfl) dX5_cell_24 ?_
      exact x_lret X hW rfl () ((by unfold aCell; (try rw [onR_in hj4 (by decide)]); (try rw [onR_out glane]); (try rfl))) (congrArg (fun z => (wX cI cZ xq xa (sF xg 6 z) xh ++ (wA cO (xa 0) ys ++ (wT cI cZ (ys j) ta tg ++ (wB cI (ta 3) bf))))) (show 0 = (fCell th ln ct (nI j) i0 lane) from by unfold fCell; (try rw [onR_in hj4 (by decide)]); (try rw [onR_out glane]); (try rfl))) dX5_cell_27
