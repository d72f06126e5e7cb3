section G3
variable {p : Program} {l : Launch} {e : Env} {R : Room} {s : State} {m : MethodId} {args : Array Value} {below : List Frame} {meth : Method} {c : Code} {H : Heap} {locs : List Loc} {cells slots : Nat} {Q : State → Prop}
variable {cc : ByteArray} {nL : Nat} {ret : Option FieldType} {Ts : List Cond} {own : String} {D : va_G} {tys : List (ClassId × FieldType)} {A : Nat → Prop} {pc : Nat} {ls : Array Slot} {rest : List Value} {ws : va_W}
theorem x_acopy (X : Fx p s m args meth c cc nL ret Ts own D tys A) (hW : Wd D A s.heap H locs ws) {index : Nat} (hZ : ls.size = nL) (h1 : Cond.methodLink own index arraycopyName ∈ Ts) (h2 : Cond.native arraycopyName ∈ Ts) (h3 : Cond.static arraycopyName ∈ Ts) (h4 : Cond.initialized "java/lang/System" ∈ Ts) (hR : 1 ≤ R.frames ∧ (rest.map fun v => v.category).sum + 60 ≤ R.locals) (q0 q1 t0 : Nat) {a0 a n0 n1 sp dp n : Nat} {c0 c1 : ClassId} {f g : Nat → Int32} (ha0 : ws[q0]? = some (a0, .inl (c0, n0, .inl f))) (ha1 : ws[q1]? = some (a, .inl (c1, n1, .inl g))) (ht0 : tys[t0]? = some (c0, .int)) (ht1 : tys[t0]? = some (c1, .int)) (h5 : sp + n ≤ n0) (h6 : dp + n ≤ n1) (h7 : n0 < 2 ^ 31) (h8 : n1 < 2 ^ 31) (hd : decode cc pc = .ok (.invokestatic index, 3)) (ws' : va_W) (hws : ws.set q1 (a, .inl (c1, n1, .inl (va_cpy f g sp dp n))) = ws') (kk : ∀ (H1 : Heap) (locs1 : List Loc), Wd D A s.heap H1 locs1 ws' → W p l e R s m args below meth c H1 locs1 cells slots Q (F0 m (pc + 3) ls rest)) : W p l e R s m args below meth c H locs cells slots Q (F0 m pc ls (.int (nI n) :: .int (nI dp) :: .ref a :: .int (nI sp) :: .ref a0 :: rest)) := by
  have en : (nI n).toNatClampNeg = n := nI_clamp (by omega)
  have es : (nI sp).toNatClampNeg = sp := nI_clamp (by omega)
  have ed : (nI dp).toNatClampNeg = dp := nI_clamp (by omega)
  have ng : ∀ z : Nat, z < 2 ^ 31 → ¬ nI z < 0 := fun z hz => nI_pos hz
  refine va_copyi (D := D) (cl := vwCl) X.1 X.2.1 (by rw [X.2.2.2.1, hZ]) X.2.2.2.2.1 (X.2.2.2.2.2.1 _ h1) (X.2.2.2.2.2.1 _ h2) (X.2.2.2.2.2.1 _ h3) (X.2.2.2.2.2.1 _ h4) X.2.2.2.2.2.2.2.1 hW.1 hW.2.1 hW.2.2 q0 q1 t0 t0 ha0 ha1 ht0 ht1 rfl (ng _ (by omega)) (ng _ (by omega)) (ng _ (by omega)) (by rw [es, en]; exact h5) (by rw [ed, en]; exact h6) (fun _ _ => rfl) hR.1 (Nat.le_trans (Nat.add_le_add_left (by decide) _) hR.2) hd (fun H1 locs1 hP hD hS => kk H1 locs1 ?_)
  rw [en, es, ed] at hP hD
  exact ⟨hws ▸ hP, hws ▸ hD, hS⟩
end G3

theorem wh_cg {cf cf' : Nat → Int32} {n : Nat} (h : ∀ z, z < n → cf z = cf' z) : wholeP cf n ↔ wholeP cf' n := by
  unfold wholeP okTo
  constructor
  · rintro ⟨a, b⟩; exact ⟨fun q hq => by rw [← h q hq]; exact a q hq, b⟩
  · rintro ⟨a, b⟩; exact ⟨fun q hq => by rw [h q hq]; exact a q hq, b⟩
theorem ffP_cg {cf cf' : Nat → Int32} {n p : Nat} (h : ∀ z, z < n → cf z = cf' z) (q : ffP cf n p) : ffP cf' n p := by
  obtain ⟨a, b, c, d⟩ := q
  exact ⟨fun z hz => by rw [← h z (by omega)]; exact a z hz, b, c, fun h1 h2 => by rw [← h p h1]; exact d h1 h2⟩
theorem ff_ex (cf : Nat → Int32) (n : Nat) (h : ¬ wholeP cf n) : ∃ p, ffP cf n p := by
  apply Classical.byContradiction
  intro hno
  have key : ∀ p, p ≤ min n 18 → okTo cf p := by
    intro p
    induction p with
    | zero => intro _; exact okTo_0 cf
    | succ p ih =>
      intro hp
      have ok := ih (by omega)
      refine okTo_s ok (Classical.byContradiction fun hb => hno ⟨p, ff_bad ok (by omega) (by omega) hb⟩)
  by_cases q : n ≤ 18
  · exact hno ⟨n, ff_end (key n (by omega)) rfl q⟩
  · exact hno ⟨18, ff_big (key 18 (by omega)) (by omega) rfl⟩
theorem ffN_cg {cf cf' : Nat → Int32} {n : Nat} (h : ∀ z, z < n → cf z = cf' z) (hw : ¬ wholeP cf n) : ffN cf n = ffN cf' n := by
  obtain ⟨p, hp⟩ := ff_ex cf n hw
  rw [ffN_eq hp, ffN_eq (ffP_cg h hp)]
theorem txA_cg {cf cf' : Nat → Int32} {n : Nat} (h : ∀ z, z < n → cf z = cf' z) : txA cf n = txA cf' n := by
  by_cases q : wholeP cf n
  · rw [txA_y q, txA_y ((wh_cg h).mp q)]
  · unfold txA
    rw [if_neg q, if_neg (fun z => q ((wh_cg h).mpr z)), ffN_cg h q]
theorem txA_no {cf : Nat → Int32} {n : Nat} (h : ¬ wholeP cf n) : txA cf n = (-100) - nI (ffN cf n) := if_neg h
theorem ffN_le {cf : Nat → Int32} {n : Nat} (h : ¬ wholeP cf n) : ffN cf n ≤ 18 := by
  obtain ⟨p, hp⟩ := ff_ex cf n h
  rw [ffN_eq hp]; exact hp.2.2.1
theorem mayN_cg3 {kd kd' lm lm' f g : Nat → Nat} {n j : Nat} (h1 : ∀ i, i < n → kd i = kd' i) (h2 : ∀ i, i < n → f i = g i) (h3 : ∀ i, i < n → lm i = lm' i) (hj : j + 1 < n) : mayN kd f lm j ↔ mayN kd' g lm' j := by
  unfold mayN; rw [h1 _ hj, h3 _ hj, h2 j (by omega), h2 _ hj]
theorem canN_cg3 {kd kd' lm lm' f g : Nat → Nat} {n a : Nat} (h1 : ∀ i, i < n → kd i = kd' i) (h2 : ∀ i, i < n → f i = g i) (h3 : ∀ i, i < n → lm i = lm' i) (ha : a < n) : canN n kd lm f a ↔ canN n kd' lm' g a := by
  unfold canN
  by_cases q : a = n - 1
  · exact ⟨fun _ => Or.inl q, fun _ => Or.inl q⟩
  · exact ⟨fun z => z.elim Or.inl (fun w => Or.inr ((mayN_cg3 h1 h2 h3 (by omega)).mp w)), fun z => z.elim Or.inl (fun w => Or.inr ((mayN_cg3 h1 h2 h3 (by omega)).mpr w))⟩
theorem actN_cg3 {kd kd' lm lm' f g : Nat → Nat} {n rn a : Nat} (hn : 1 ≤ n) (h1 : ∀ i, i < n → kd i = kd' i) (h2 : ∀ i, i < n → f i = g i) (h3 : ∀ i, i < n → lm i = lm' i) (ha : a < n) : ∀ i, i < n → actN n rn kd lm f a i = actN n rn kd' lm' g a i := by
  unfold actN
  by_cases q : a = n - 1
  · rw [if_pos q, if_pos q]; exact night_cong hn h2
  · rw [if_neg q, if_neg q]
    by_cases w : mayN kd f lm a
    · rw [if_pos w, if_pos ((mayN_cg3 h1 h2 h3 (by omega)).mp w)]; exact thru_cong (by omega) h2
    · rw [if_neg w, if_neg (fun z => w ((mayN_cg3 h1 h2 h3 (by omega)).mpr z))]; exact h2
theorem runA_cg3 {kd kd' lm lm' ac : Nat → Nat} {n rn : Nat} (hn : 1 ≤ n) (h1 : ∀ i, i < n → kd i = kd' i) (h3 : ∀ i, i < n → lm i = lm' i) : ∀ (r k : Nat) (f g : Nat → Nat), (∀ z, k ≤ z → z < k + r → ac z < n) → (∀ i, i < n → f i = g i) → (runA (stepO n rn kd lm) ac r k f).1 = (runA (stepO n rn kd' lm') ac r k g).1 ∧ ∀ i, i < n → (runA (stepO n rn kd lm) ac r k f).2 i = (runA (stepO n rn kd' lm') ac r k g).2 i
  | 0, _, _, _, _, h2 => ⟨rfl, h2⟩
  | r + 1, k, f, g, ha, h2 => by
    have hk := ha k (Nat.le_refl k) (by omega)
    by_cases q : canN n kd lm f (ac k)
    · rw [runA_y q, runA_y ((canN_cg3 h1 h2 h3 hk).mp q)]
      exact runA_cg3 hn h1 h3 r (k + 1) _ _ (fun z z1 z2 => ha z (by omega) (by omega)) (actN_cg3 hn h1 h2 h3 hk)
    · rw [runA_n q, runA_n (fun z => q ((canN_cg3 h1 h2 h3 hk).mpr z))]
      exact ⟨rfl, h2⟩
theorem runA_le {kd lm ac : Nat → Nat} {n rn : Nat} (hm : ∀ i, lm i ≤ 9) : ∀ (r k : Nat) (f : Nat → Nat), (∀ i, f i ≤ 9) → ∀ i, (runA (stepO n rn kd lm) ac r k f).2 i ≤ 9
  | 0, _, _, h => h
  | r + 1, k, f, h => by
    by_cases q : canN n kd lm f (ac k)
    · rw [runA_y q]; exact runA_le hm r (k + 1) _ (actN_le h hm)
    · rw [runA_n q]; exact h
theorem runA_lt {kd lm ac : Nat → Nat} {n rn : Nat} : ∀ (r k : Nat) (f : Nat → Nat) (x : Nat), (runA (stepO n rn kd lm) ac r k f).1 = some x → x < k + r
  | 0, _, _, _, h => by cases h
  | r + 1, k, f, x, h => by
    by_cases q : canN n kd lm f (ac k)
    · rw [runA_y q] at h; have := runA_lt r (k + 1) _ x h; omega
    · rw [runA_n q] at h; cases h; omega
theorem act_last {kd lm f : Nat → Nat} {n rn a : Nat} (h : a = n - 1) : actN n rn kd lm f a = night n rn f := if_pos h
theorem act_gate {kd lm f : Nat → Nat} {n rn a : Nat} (h : ¬ a = n - 1) (h2 : mayN kd f lm a) : actN n rn kd lm f a = thru f a := by unfold actN; rw [if_neg h, if_pos h2]
noncomputable def tailA (n : Nat) (kd lv lm ac : Nat → Nat) (N v : Nat) : Int32 := if 9 < v then (if v - 10 < n then nI (lv (v - 10)) else -9) else if v = 0 then nI (smN lv n) else if v = 2 then nI (opsN n ac N) else setI (mayN kd lv lm) (n - 1)
theorem tailA_cg {kd kd' lm lm' f g ac : Nat → Nat} {n N v : Nat} (h1 : ∀ i, i < n → kd i = kd' i) (h2 : ∀ i, i < n → f i = g i) (h3 : ∀ i, i < n → lm i = lm' i) : tailA n kd f lm ac N v = tailA n kd' g lm' ac N v := by
  unfold tailA
  rw [smN_cong h2, setI_cong (k := n - 1) (fun j hj => mayN_cg3 h1 h2 h3 (by omega))]
  by_cases q : v - 10 < n
  · rw [h2 _ q]
  · rw [if_neg q, if_neg q]
theorem actsAns_t {n rn : Nat} {kd lv lm ac : Nat → Nat} {N v : Nat} (hv : ¬ v = 1) (h : (runA (stepO n rn kd lm) ac N 0 lv).1 = none) : actsAns n rn kd lv lm ac N v = tailA n kd (runA (stepO n rn kd lm) ac N 0 lv).2 lm ac N v := actsAns_n hv h
theorem allA_cg {f g : Nat → Int32} {i N n : Nat} (h : ∀ z, z < N → f (i + z) = g (i + z)) : allA f i N n ↔ allA g i N n :=
  ⟨fun q x hx => by rw [← h x hx]; exact q x hx, fun q x hx => by rw [h x hx]; exact q x hx⟩
theorem cpy_mv {f g : Nat → Int32} {d s n : Nat} : va_cpy f g s d n = mv g f d s n := rfl
/-- what a sheet's call leaves of one sheet -/
def sSh {α : Type} (k lane n : Int32) (old : α) (new : Nat → Nat → α) : α := onR k 4 old (fun _ => onR lane 3 old (fun ln => onR n 61 old (fun m => new ln m)))

set_option maxHeartbeats 4000000 in
set_option maxRecDepth 100000 in
theorem c_X5_sheetAt (l : Launch) (D : va_G) (cI cZ cO : ClassId) (xq : Nat) (xa : Nat → Nat) (xg : Nat → Nat) (xh : Nat → Int32) (ys : Nat → Nat) (sz : Nat) (k : Nat)  (hk : k < 4) : Met l yX5_sheetAt wsX5_sheetAt ({ frames := 0, cells := 0, slots := 0, locals := 0 }) (va_Pc [.ref xq, .int (nI k)] (st_W D (ty3 cI cZ cO) (wX cI cZ xq xa xg xh ++ (wA cO (xa 0) ys)) sz)) (va_Qq (fun (rr : Option Nat) (u : Unit) => rr = some (ys k)) (fun u t => at_W D (ty3 cI cZ cO) (va_A (wX cI cZ xq xa xg xh ++ (wA cO (xa 0) ys)) sz) (wX cI cZ xq xa xg xh ++ (wA cO (xa 0) ys)) t) (va_A (wX cI cZ xq xa xg xh ++ (wA cO (xa 0) ys)) sz)) 0 0 (va_A (wX cI cZ xq xa xg xh ++ (wA cO (xa 0) ys)) sz) := by
  refine Met.goq (cc := cX5_sheetAt) (maxL := 2) (ret := (some (.object "WaterConsent$Sheet"))) (by decide) rfl (Nat.le_of_ble_eq_true rfl) (fun p e s m below meth c A ls X hW hl => ?_)
  have hi5 : ∀ w ∈ wsX50, w ∈ wsX5_sheetAt := fun w h => List.mem_cons_of_mem _ (List.mem_append_right _ h)
  have hl : lv_has ls 2 [(0, .ref xq), (1, .int (nI k))] := hl
  refine x_iload_n X dX5_sheetAt_0 rfl (lv_at hl 1 rfl) ?_
  refine n_if_lt X 22 dX5_sheetAt_1 (by decide) (by omega) ?_
  refine x_iload_n X dX5_sheetAt_4 rfl (lv_at hl 1 rfl) ?_
  refine x_aload_n X dX5_sheetAt_5 rfl (lv_at hl 0 rfl) ?_
  refine x_get X hW (v := .ref (xa 0)) hi5 0 rfl rfl 0 (by decide) (List.mem_of_getElem? (i := 1) rfl) rfl rfl dX5_sheetAt_6 ?_
  refine n_alenq X hW 1 2 rfl rfl dX5_sheetAt_9 ?_
  refine n_icmp_ge X 22 dX5_sheetAt_10 (by decide) (by omega) (by decide) (fun c10 => by omega) (fun c10 => ?_)
  refine x_aload_n X dX5_sheetAt_13 rfl (lv_at hl 0 rfl) ?_
  refine x_get X hW (v := .ref (xa 0)) hi5 0 rfl rfl 0 (by decide) (List.mem_of_getElem? (i := 1) rfl) rfl rfl dX5_sheetAt_14 ?_
  refine x_iload_n X dX5_sheetAt_17 rfl (lv_at hl 1 rfl) ?_
  refine n_aald X hW (x := ys k) 1 2 rfl rfl (by omega) (by decide) rfl dX5_sheetAt_18 ?_
  refine x_goto X 23 dX5_sheetAt_19 (by decide) ?_
  exact x_aretq X (r := some (ys k)) rfl hW rfl (Or.inl ⟨_, rfl⟩) () ((rfl)) rfl dX5_sheetAt_23
set_option maxHeartbeats 4000000 in
set_option maxRecDepth 100000 in
theorem c_X5_sheetAt0 (l : Launch) (D : va_G) (cI cZ cO : ClassId) (xq : Nat) (xa : Nat → Nat) (xg : Nat → Nat) (xh : Nat → Int32) (ys : Nat → Nat) (sz : Nat) (k : Int32)  (hk : ¬ inR k 4) : Met l yX5_sheetAt wsX5_sheetAt ({ frames := 0, cells := 0, slots := 0, locals := 0 }) (va_Pc [.ref xq, .int k] (st_W D (ty3 cI cZ cO) (wX cI cZ xq xa xg xh ++ (wA cO (xa 0) ys)) sz)) (va_Qq (fun (rr : Option Nat) (u : Unit) => rr = none) (fun u t => at_W D (ty3 cI cZ cO) (va_A (wX cI cZ xq xa xg xh ++ (wA cO (xa 0) ys)) sz) (wX cI cZ xq xa xg xh ++ (wA cO (xa 0) ys)) t) (va_A (wX cI cZ xq xa xg xh ++ (wA cO (xa 0) ys)) sz)) 0 0 (va_A (wX cI cZ xq xa xg xh ++ (wA cO (xa 0) ys)) sz) := by
  refine Met.goq (cc := cX5_sheetAt) (maxL := 2) (ret := (some (.object "WaterConsent$Sheet"))) (by decide) rfl (Nat.le_of_ble_eq_true rfl) (fun p e s m below meth c A ls X hW hl => ?_)
  have hi5 : ∀ w ∈ wsX50, w ∈ wsX5_sheetAt := fun w h => List.mem_cons_of_mem _ (List.mem_append_right _ h)
  have hl : lv_has ls 2 [(0, .ref xq), (1, .int k)] := hl
  refine x_iload_n X dX5_sheetAt_0 rfl (lv_at hl 1 rfl) ?_
  refine x_if_lt X 22 dX5_sheetAt_1 (by decide) (fun c1 => ?_) (fun c1 => ?_)
  · refine x_null X dX5_sheetAt_22 ?_
    exact x_aretq X (r := none) rfl hW rfl (Or.inl ⟨_, rfl⟩) () ((rfl)) rfl dX5_sheetAt_23
  · refine x_iload_n X dX5_sheetAt_4 rfl (lv_at hl 1 rfl) ?_
    refine x_aload_n X dX5_sheetAt_5 rfl (lv_at hl 0 rfl) ?_
    refine x_get X hW (v := .ref (xa 0)) hi5 0 rfl rfl 0 (by decide) (List.mem_of_getElem? (i := 1) rfl) rfl rfl dX5_sheetAt_6 ?_
    refine n_alenq X hW 1 2 rfl rfl dX5_sheetAt_9 ?_
    refine x_icmp_ge X 22 dX5_sheetAt_10 (by decide) (fun c10 => ?_) (fun c10 => by exact absurd (inR_of c1 c10 (by decide)) hk)
    refine x_null X dX5_sheetAt_22 ?_
    exact x_aretq X (r := none) rfl hW rfl (Or.inl ⟨_, rfl⟩) () ((rfl)) rfl dX5_sheetAt_23
set_option maxHeartbeats 4000000 in
set_option maxRecDepth 100000 in
theorem c_X5_sheet (l : Launch) (D : va_G) (cI cZ cO : ClassId) (xq : Nat) (xa : Nat → Nat) (xg : Nat → Nat) (xh : Nat → Int32) (ys : Nat → Nat) (ta : Nat → Nat) (tg : Nat → Nat) (bf : Nat → Int32) (sz : Nat) (k0 : Int32) (lane : Int32) (n0 : Int32) (j : Nat) (hj4 : j < 4) (hkj : ¬ inR k0 4 ∨ k0 = nI j) : Met l yX5_sheet wsX5_sheet ({ frames := 2, cells := 0, slots := 0, locals := 45 }) (va_Pc [.ref xq, .int k0, .int lane, .int n0] (st_W D (ty3 cI cZ cO) (wX cI cZ xq xa xg xh ++ (wA cO (xa 0) ys ++ (wT cI cZ (ys j) ta tg ++ (wB cI (ta 3) bf)))) sz)) (va_Qi (fun (rr : Int32) (u : Unit) => rr = aSheet k0 lane n0) (fun u t => at_W D (ty3 cI cZ cO) (va_A (wX cI cZ xq xa xg xh ++ (wA cO (xa 0) ys ++ (wT cI cZ (ys j) ta tg ++ (wB cI (ta 3) bf)))) sz) (wX cI cZ xq xa (sF xg 6 (fSheet k0 lane n0)) xh ++ (wA cO (xa 0) ys ++ (wT cI cZ (ys j) ta (sF (sF (sF tg 0 (sSh k0 lane n0 (tg 0) (fun _ _ => 1))) 1 (sSh k0 lane n0 (tg 1) (fun ln _ => ln))) 2 (sSh k0 lane n0 (tg 2) (fun _ m => m))) ++ (wB cI (ta 3) (sSh k0 lane n0 (bf) (fun _ _ => fill60 (nI 0) bf)))))) t) (va_A (wX cI cZ xq xa xg xh ++ (wA cO (xa 0) ys ++ (wT cI cZ (ys j) ta tg ++ (wB cI (ta 3) bf)))) sz)) 0 0 (va_A (wX cI cZ xq xa xg xh ++ (wA cO (xa 0) ys ++ (wT cI cZ (ys j) ta tg ++ (wB cI (ta 3) bf)))) sz) := by
  refine Met.goi (cc := cX5_sheet) (maxL := 5) (ret := (some .int)) (by decide) rfl (Nat.le_of_ble_eq_true rfl) (fun p e s m below meth c A ls X hW hl => ?_)
  have hi5 : ∀ w ∈ wsX50, w ∈ wsX5_sheet := fun w h => List.mem_cons_of_mem _ (List.mem_append_left _ (List.mem_append_right _ h))
  have hi3 : ∀ w ∈ wsX30, w ∈ wsX5_sheet := fun w h => List.mem_cons_of_mem _ (List.mem_append_right _ h)
  have hl : lv_has ls 5 [(0, .ref xq), (1, .int k0), (2, .int lane), (3, .int n0)] := hl
  rcases hkj with hq | rfl
  · refine x_aload_n X dX5_sheet_0 rfl (lv_at hl 0 rfl) ?_
    refine x_iconst (v := nI 0) X dX5_sheet_1 (by decide) ?_
    refine x_put X hW (v := .int (nI 0)) hi5 tyX5 tyX5_ok nmX5 0 rfl rfl 6 (by decide) (List.mem_of_getElem? (i := 1) rfl) rfl rfl rfl rfl (Nat.le_of_ble_eq_true rfl) dX5_sheet_2 (wX cI cZ xq xa (sF xg 6 0) xh ++ (wA cO (xa 0) ys ++ (wT cI cZ (ys j) ta tg ++ (wB cI (ta 3) bf)))) rfl (fun H locs hW => ?_)
    refine x_aload_n X dX5_sheet_5 rfl (lv_at hl 0 rfl) ?_
    refine x_iload_n X dX5_sheet_6 rfl (lv_at hl 1 rfl) ?_
    refine x_callVq X hW (As := [.int k0]) (rest := []) (wz := fun u => (wX cI cZ xq xa (sF xg 6 0) xh ++ (wA cO (xa 0) ys ++ (wT cI cZ (ys j) ta tg ++ (wB cI (ta 3) bf))))) (c_X5_sheetAt0 l D cI cZ cO xq xa (sF xg 6 0) xh ys _ k0 (show ¬ inR k0 4 from (by first | assumption | omega))) (cwV 1 X.2.2.2.2.2.1 gX5_sheet_X5_sheetAt rfl rfl rfl (by decide +kernel) ⟨Nat.le_of_ble_eq_true rfl, Nat.le_of_ble_eq_true rfl⟩) 0 4 rfl rfl rfl [0, 1] [2, 3] [2, 3, 0, 1] rfl rfl (by decide) (fun _ => rfl) rfl hl.1 rfl (Nat.le_of_ble_eq_true rfl) ⟨Nat.le_of_ble_eq_true rfl, Nat.le_of_ble_eq_true rfl⟩ dX5_sheet_7 (fun r1 u2 H locs w7 hW => ?_)
    have hW : Wd D A s.heap H locs (wX cI cZ xq xa (sF xg 6 0) xh ++ (wA cO (xa 0) ys ++ (wT cI cZ (ys j) ta tg ++ (wB cI (ta 3) bf)))) := hW
    replace w7 : r1 = none := w7
    subst w7
    refine lv_astoreN (lv' := [(4, .null), (0, .ref xq), (1, .int k0), (2, .int lane), (3, .int n0)]) X.1 X.2.1 dX5_sheet_10 hl (by decide) rfl (fun ls hl => ?_)
    refine lv_aloadN X.1 X.2.1 dX5_sheet_12 (lv_at hl 0 rfl) ?_
    refine lv_ifnonnullN X.1 X.2.1 dX5_sheet_14 ?_
    refine x_iconst (v := (-1 : Int32)) X dX5_sheet_17 (by decide) ?_
    exact x_iret X hW rfl () ((by unfold aSheet; (try rw [onR_out hq]); (try rfl))) (Eq.trans (Eq.trans (Eq.trans (Eq.trans (congrArg (fun z => (wX cI cZ xq xa (sF xg 6 z) xh ++ (wA cO (xa 0) ys ++ (wT cI cZ (ys j) ta tg ++ (wB cI (ta 3) bf))))) (show 0 = (fSheet k0 lane n0) from by unfold fSheet; (try rw [onR_out hq]); (try rfl))) (congrArg (fun z => (wX cI cZ xq xa (sF xg 6 (fSheet k0 lane n0)) xh ++ (wA cO (xa 0) ys ++ (wT cI cZ (ys j) ta (sF tg 0 z) ++ (wB cI (ta 3) bf))))) (show (tg 0) = (sSh k0 lane n0 (tg 0) (fun _ _ => 1)) from by unfold sSh; (try rw [onR_out hq]); (try rfl)))) (congrArg (fun z => (wX cI cZ xq xa (sF xg 6 (fSheet k0 lane n0)) xh ++ (wA cO (xa 0) ys ++ (wT cI cZ (ys j) ta (sF (sF tg 0 (sSh k0 lane n0 (tg 0) (fun _ _ => 1))) 1 z) ++ (wB cI (ta 3) bf))))) (show (tg 1) = (sSh k0 lane n0 (tg 1) (fun ln _ => ln)) from by unfold sSh; (try rw [onR_out hq]); (try rfl)))) (congrArg (fun z => (wX cI cZ xq xa (sF xg 6 (fSheet k0 lane n0)) xh ++ (wA cO (xa 0) ys ++ (wT cI cZ (ys j) ta (sF (sF (sF tg 0 (sSh k0 lane n0 (tg 0) (fun _ _ => 1))) 1 (sSh k0 lane n0 (tg 1) (fun ln _ => ln))) 2 z) ++ (wB cI (ta 3) bf))))) (show (tg 2) = (sSh k0 lane n0 (tg 2) (fun _ m => m)) from by unfold sSh; (try rw [onR_out hq]); (try rfl)))) (congrArg (fun z => (wX cI cZ xq xa (sF xg 6 (fSheet k0 lane n0)) xh ++ (wA cO (xa 0) ys ++ (wT cI cZ (ys j) ta (sF (sF (sF tg 0 (sSh k0 lane n0 (tg 0) (fun _ _ => 1))) 1 (sSh k0 lane n0 (tg 1) (fun ln _ => ln))) 2 (sSh k0 lane n0 (tg 2) (fun _ m => m))) ++ (wB cI (ta 3) z))))) (show bf = (sSh k0 lane n0 (bf) (fun _ _ => fill60 (nI 0) bf)) from by unfold sSh; (try rw [onR_out hq]); (try rfl)))) dX5_sheet_18
  · refine x_aload_n X dX5_sheet_0 rfl (lv_at hl 0 rfl) ?_
    refine x_iconst (v := nI 0) X dX5_sheet_1 (by decide) ?_
    refine x_put X hW (v := .int (nI 0)) hi5 tyX5 tyX5_ok nmX5 0 rfl rfl 6 (by decide) (List.mem_of_getElem? (i := 1) rfl) rfl rfl rfl rfl (Nat.le_of_ble_eq_true rfl) dX5_sheet_2 (wX cI cZ xq xa (sF xg 6 0) xh ++ (wA cO (xa 0) ys ++ (wT cI cZ (ys j) ta tg ++ (wB cI (ta 3) bf)))) rfl (fun H locs hW => ?_)
    refine x_aload_n X dX5_sheet_5 rfl (lv_at hl 0 rfl) ?_
    refine x_iload_n X dX5_sheet_6 rfl (lv_at hl 1 rfl) ?_
    refine x_callVq X hW (As := [.int (nI j)]) (rest := []) (wz := fun u => (wX cI cZ xq xa (sF xg 6 0) xh ++ (wA cO (xa 0) ys ++ (wT cI cZ (ys j) ta tg ++ (wB cI (ta 3) bf))))) (c_X5_sheetAt l D cI cZ cO xq xa (sF xg 6 0) xh ys _ j (show j < 4 from (by first | assumption | omega))) (cwV 1 X.2.2.2.2.2.1 gX5_sheet_X5_sheetAt rfl rfl rfl (by decide +kernel) ⟨Nat.le_of_ble_eq_true rfl, Nat.le_of_ble_eq_true rfl⟩) 0 4 rfl rfl rfl [0, 1] [2, 3] [2, 3, 0, 1] rfl rfl (by decide) (fun _ => rfl) rfl hl.1 rfl (Nat.le_of_ble_eq_true rfl) ⟨Nat.le_of_ble_eq_true rfl, Nat.le_of_ble_eq_true rfl⟩ dX5_sheet_7 (fun r3 u4 H locs w7 hW => ?_)
    have hW : Wd D A s.heap H locs (wX cI cZ xq xa (sF xg 6 0) xh ++ (wA cO (xa 0) ys ++ (wT cI cZ (ys j) ta tg ++ (wB cI (ta 3) bf)))) := hW
    replace w7 : r3 = some (ys j) := w7
    subst w7
    refine x_astore X [(4, .ref (ys j)), (0, .ref xq), (1, .int (nI j)), (2, .int lane), (3, .int n0)] dX5_sheet_10 hl (by decide) rfl (fun ls hl => ?_)
    refine x_aload X dX5_sheet_12 (lv_at hl 0 rfl) ?_
    refine lv_ifnonnull (tgt := 19) X.1 X.2.1 dX5_sheet_14 (by decide) ?_
    refine x_iload_n X dX5_sheet_19 rfl (lv_at hl 3 rfl) ?_
    refine x_callSie X hW (As := [.int lane]) (rest := []) (c_X5_isLane l D cI cZ cO  _ lane) (va_cwS 1 X.2.2.2.2.2.1 gX5_sheet_X5_isLane rfl rfl rfl (by decide +kernel) ⟨Nat.le_of_ble_eq_true rfl, Nat.le_of_ble_eq_true rfl⟩) rfl hl.1 rfl (Nat.le_of_ble_eq_true rfl) ⟨Nat.le_of_ble_eq_true rfl, Nat.le_of_ble_eq_true rfl⟩ dX5_sheet_20 (fun r5 u6 H locs w20 hW => ?_)
    have hW : Wd D A s.heap H locs (wX cI cZ xq xa (sF xg 6 0) xh ++ (wA cO (xa 0) ys ++ (wT cI cZ (ys j) ta tg ++ (wB cI (ta 3) bf)))) := hW
    replace w20 : (r5 = nI 1 ∧ (inR lane 3) ∨ r5 = nI 0 ∧ ¬ (inR lane 3)) := w20
    rcases w20 with ⟨w20, h20⟩ | ⟨w20, h20⟩
    · subst w20
      obtain ⟨ln, hln, rfl⟩ := inR_ex ((Iff.refl (inR lane 3)).mp h20) (by omega)
      refine n_if_eq X 32 dX5_sheet_23 (by decide) (by decide) (fun c23 => by exact absurd c23 (by decide)) (fun c23 => ?_)
      refine x_iload_n X dX5_sheet_26 rfl (lv_at hl 4 rfl) ?_
      refine x_bipush (v := nI 60) X dX5_sheet_27 (by decide) ?_
      refine x_icmp_le X 35 dX5_sheet_29 (by decide) (fun c29 => ?_) (fun c29 => ?_)
      · refine x_iload_n X dX5_sheet_35 rfl (lv_at hl 4 rfl) ?_
        refine x_if_ge X 45 dX5_sheet_36 (by decide) (fun c36 => ?_) (fun c36 => ?_)
        · obtain ⟨n, hn, rfl⟩ := inR_ex (x := n0) (n := 61) (by have z := c36; have z2 := c29; rw [i_le, i_0] at z; rw [i_le, nI_toInt (by decide)] at z2; constructor <;> omega) (by decide)
          refine x_aload X dX5_sheet_45 (lv_at hl 0 rfl) ?_
          refine x_iload_n X dX5_sheet_47 rfl (lv_at hl 3 rfl) ?_
          refine x_iload_n X dX5_sheet_48 rfl (lv_at hl 4 rfl) ?_
          refine x_callVv X hW (As := [.int (nI ln), .int (nI n)]) (rest := []) (wz := fun u => (wX cI cZ xq xa (sF xg 6 0) xh ++ (wA cO (xa 0) ys ++ (wT cI cZ (ys j) ta (sF (sF (sF tg 0 1) 1 ln) 2 n) ++ (wB cI (ta 3) (fill60 (nI 0) bf)))))) (c_X3_becomeNew l D cI cZ cO (ys j) ta tg bf _ ln n) (cwV 2 X.2.2.2.2.2.1 gX5_sheet_X3_becomeNew rfl rfl rfl (by decide +kernel) ⟨Nat.le_of_ble_eq_true rfl, Nat.le_of_ble_eq_true rfl⟩) 2 3 rfl rfl rfl [2, 3] [0, 1] [0, 1, 2, 3] rfl rfl (by decide) (fun _ => rfl) rfl hl.1 rfl (Nat.le_of_ble_eq_true rfl) ⟨Nat.le_of_ble_eq_true rfl, Nat.le_of_ble_eq_true rfl⟩ dX5_sheet_49 (fun u8 H locs w49 hW => ?_)
          have hW : Wd D A s.heap H locs (wX cI cZ xq xa (sF xg 6 0) xh ++ (wA cO (xa 0) ys ++ (wT cI cZ (ys j) ta (sF (sF (sF tg 0 1) 1 ln) 2 n) ++ (wB cI (ta 3) (fill60 (nI 0) bf))))) := hW
          replace w49 : True := w49
          refine x_iconst (v := nI 1) X dX5_sheet_52 (by decide) ?_
          exact x_iret X hW rfl () ((by unfold aSheet; (try rw [onR_in hj4 (by decide)]); (try rw [onR_in hln (by omega)]); (try rw [onR_in hn (by decide)]); (try rfl))) (Eq.trans (Eq.trans (Eq.trans (Eq.trans (congrArg (fun z => (wX cI cZ xq xa (sF xg 6 z) xh ++ (wA cO (xa 0) ys ++ (wT cI cZ (ys j) ta (sF (sF (sF tg 0 1) 1 ln) 2 n) ++ (wB cI (ta 3) (fill60 (nI 0) bf)))))) (show 0 = (fSheet (nI j) (nI ln) (nI n)) from by unfold fSheet; (try rw [onR_in hj4 (by decide)]); (try rw [onR_in hln (by omega)]); (try rw [onR_in hn (by decide)]); (try rfl))) (congrArg (fun z => (wX cI cZ xq xa (sF xg 6 (fSheet (nI j) (nI ln) (nI n))) xh ++ (wA cO (xa 0) ys ++ (wT cI cZ (ys j) ta (sF (sF (sF tg 0 z) 1 ln) 2 n) ++ (wB cI (ta 3) (fill60 (nI 0) bf)))))) (show 1 = (sSh (nI j) (nI ln) (nI n) (tg 0) (fun _ _ => 1)) from by unfold sSh; (try rw [onR_in hj4 (by decide)]); (try rw [onR_in hln (by omega)]); (try rw [onR_in hn (by decide)]); (try rfl)))) (congrArg (fun z => (wX cI cZ xq xa (sF xg 6 (fSheet (nI j) (nI ln) (nI n))) xh ++ (wA cO (xa 0) ys ++ (wT cI cZ (ys j) ta (sF (sF (sF tg 0 (sSh (nI j) (nI ln) (nI n) (tg 0) (fun _ _ => 1))) 1 z) 2 n) ++ (wB cI (ta 3) (fill60 (nI 0) bf)))))) (show ln = (sSh (nI j) (nI ln) (nI n) (tg 1) (fun ln _ => ln)) from by unfold sSh; (try rw [onR_in hj4 (by decide)]); (try rw [onR_in hln (by omega)]); (try rw [onR_in hn (by decide)]); (try rfl)))) (congrArg (fun z => (wX cI cZ xq xa (sF xg 6 (fSheet (nI j) (nI ln) (nI n))) xh ++ (wA cO (xa 0) ys ++ (wT cI cZ (ys j) ta (sF (sF (sF tg 0 (sSh (nI j) (nI ln) (nI n) (tg 0) (fun _ _ => 1))) 1 (sSh (nI j) (nI ln) (nI n) (tg 1) (fun ln _ => ln))) 2 z) ++ (wB cI (ta 3) (fill60 (nI 0) bf)))))) (show n = (sSh (nI j) (nI ln) (nI n) (tg 2) (fun _ m => m)) from by unfold sSh; (try rw [onR_in hj4 (by decide)]); (try rw [onR_in hln (by omega)]); (try rw [onR_in hn (by decide)]); (try rfl)))) (congrArg (fun z => (wX cI cZ xq xa (sF xg 6 (fSheet (nI j) (nI ln) (nI n))) xh ++ (wA cO (xa 0) ys ++ (wT cI cZ (ys j) ta (sF (sF (sF tg 0 (sSh (nI j) (nI ln) (nI n) (tg 0) (fun _ _ => 1))) 1 (sSh (nI j) (nI ln) (nI n) (tg 1) (fun ln _ => ln))) 2 (sSh (nI j) (nI ln) (nI n) (tg 2) (fun _ m => m))) ++ (wB cI (ta 3) z))))) (show (fill60 (nI 0) bf) = (sSh (nI j) (nI ln) (nI n) (bf) (fun _ _ => fill60 (nI 0) bf)) from by unfold sSh; (try rw [onR_in hj4 (by decide)]); (try rw [onR_in hln (by omega)]); (try rw [onR_in hn (by decide)]); (try rfl)))) dX5_sheet_53
        · have gn : n0.toInt < 0 := by have z := c36; rw [i_le, i_0] at z; omega
          refine x_aload_n X dX5_sheet_39 rfl (lv_at hl 1 rfl) ?_
          refine x_iconst (v := nI 4) X dX5_sheet_40 (by decide) ?_
          refine x_callVi X hW (As := [.int (nI 4)]) (rest := []) (wz := fun u => (wX cI cZ xq xa (sF xg 6 4) xh ++ (wA cO (xa 0) ys ++ (wT cI cZ (ys j) ta tg ++ (wB cI (ta 3) bf))))) (c_X5_faulted l D cI cZ cO xq xa (sF xg 6 0) xh _ 4) (cwV 1 X.2.2.2.2.2.1 gX5_sheet_X5_faulted rfl rfl rfl (by decide +kernel) ⟨Nat.le_of_ble_eq_true rfl, Nat.le_of_ble_eq_true rfl⟩) 0 4 rfl rfl rfl [0] [1, 2, 3] [3, 0, 1, 2] rfl rfl (by decide) (fun _ => rfl) rfl hl.1 rfl (Nat.le_of_ble_eq_true rfl) ⟨Nat.le_of_ble_eq_true rfl, Nat.le_of_ble_eq_true rfl⟩ dX5_sheet_41 (fun r9 u10 H locs w41 hW => ?_)
          have hW : Wd D A s.heap H locs (wX cI cZ xq xa (sF xg 6 4) xh ++ (wA cO (xa 0) ys ++ (wT cI cZ (ys j) ta tg ++ (wB cI (ta 3) bf)))) := hW
          replace w41 : r9 = (-10) - nI 4 := w41
          subst w41
          exact x_iret X hW rfl () ((by unfold aSheet; (try rw [onR_in hj4 (by decide)]); (try rw [onR_in hln (by omega)]); (try rw [onR_out (by intro q; omega)]); (try rw [if_neg (by omega)]); (try rfl))) (Eq.trans (Eq.trans (Eq.trans (Eq.trans (congrArg (fun z => (wX cI cZ xq xa (sF xg 6 z) xh ++ (wA cO (xa 0) ys ++ (wT cI cZ (ys j) ta tg ++ (wB cI (ta 3) bf))))) (show 4 = (fSheet (nI j) (nI ln) n0) from by unfold fSheet; (try rw [onR_in hj4 (by decide)]); (try rw [onR_in hln (by omega)]); (try rw [onR_out (by intro q; omega)]); (try rw [if_neg (by omega)]); (try rfl))) (congrArg (fun z => (wX cI cZ xq xa (sF xg 6 (fSheet (nI j) (nI ln) n0)) xh ++ (wA cO (xa 0) ys ++ (wT cI cZ (ys j) ta (sF tg 0 z) ++ (wB cI (ta 3) bf))))) (show (tg 0) = (sSh (nI j) (nI ln) n0 (tg 0) (fun _ _ => 1)) from by unfold sSh; (try rw [onR_in hj4 (by decide)]); (try rw [onR_in hln (by omega)]); (try rw [onR_out (by intro q; omega)]); (try rw [if_neg (by omega)]); (try rfl)))) (congrArg (fun z => (wX cI cZ xq xa (sF xg 6 (fSheet (nI j) (nI ln) n0)) xh ++ (wA cO (xa 0) ys ++ (wT cI cZ (ys j) ta (sF (sF tg 0 (sSh (nI j) (nI ln) n0 (tg 0) (fun _ _ => 1))) 1 z) ++ (wB cI (ta 3) bf))))) (show (tg 1) = (sSh (nI j) (nI ln) n0 (tg 1) (fun ln _ => ln)) from by unfold sSh; (try rw [onR_in hj4 (by decide)]); (try rw [onR_in hln (by omega)]); (try rw [onR_out (by intro q; omega)]); (try rw [if_neg (by omega)]); (try rfl)))) (congrArg (fun z => (wX cI cZ xq xa (sF xg 6 (fSheet (nI j) (nI ln) n0)) xh ++ (wA cO (xa 0) ys ++ (wT cI cZ (ys j) ta (sF (sF (sF tg 0 (sSh (nI j) (nI ln) n0 (tg 0) (fun _ _ => 1))) 1 (sSh (nI j) (nI ln) n0 (tg 1) (fun ln _ => ln))) 2 z) ++ (wB cI (ta 3) bf))))) (show (tg 2) = (sSh (nI j) (nI ln) n0 (tg 2) (fun _ m => m)) from by unfold sSh; (try rw [onR_in hj4 (by decide)]); (try rw [onR_in hln (by omega)]); (try rw [onR_out (by intro q; omega)]); (try rw [if_neg (by omega)]); (try rfl)))) (congrArg (fun z => (wX cI cZ xq xa (sF xg 6 (fSheet (nI j) (nI ln) n0)) xh ++ (wA cO (xa 0) ys ++ (wT cI cZ (ys j) ta (sF (sF (sF tg 0 (sSh (nI j) (nI ln) n0 (tg 0) (fun _ _ => 1))) 1 (sSh (nI j) (nI ln) n0 (tg 1) (fun ln _ => ln))) 2 (sSh (nI j) (nI ln) n0 (tg 2) (fun _ m => m))) ++ (wB cI (ta 3) z))))) (show bf = (sSh (nI j) (nI ln) n0 (bf) (fun _ _ => fill60 (nI 0) bf)) from by unfold sSh; (try rw [onR_in hj4 (by decide)]); (try rw [onR_in hln (by omega)]); (try rw [onR_out (by intro q; omega)]); (try rw [if_neg (by omega)]); (try rfl)))) dX5_sheet_44
      · have gn : 60 < n0.toInt := by have z := c29; rw [i_le, nI_toInt (by decide)] at z; omega
        refine x_bipush (v := (-2 : Int32)) X dX5_sheet_32 (by decide) ?_
        exact x_iret X hW rfl () ((by unfold aSheet; (try rw [onR_in hj4 (by decide)]); (try rw [onR_in hln (by omega)]); (try rw [onR_out (by intro q; omega)]); (try rw [if_pos gn]); (try rfl))) (Eq.trans (Eq.trans (Eq.trans (Eq.trans (congrArg (fun z => (wX cI cZ xq xa (sF xg 6 z) xh ++ (wA cO (xa 0) ys ++ (wT cI cZ (ys j) ta tg ++ (wB cI (ta 3) bf))))) (show 0 = (fSheet (nI j) (nI ln) n0) from by unfold fSheet; (try rw [onR_in hj4 (by decide)]); (try rw [onR_in hln (by omega)]); (try rw [onR_out (by intro q; omega)]); (try rw [if_pos gn]); (try rfl))) (congrArg (fun z => (wX cI cZ xq xa (sF xg 6 (fSheet (nI j) (nI ln) n0)) xh ++ (wA cO (xa 0) ys ++ (wT cI cZ (ys j) ta (sF tg 0 z) ++ (wB cI (ta 3) bf))))) (show (tg 0) = (sSh (nI j) (nI ln) n0 (tg 0) (fun _ _ => 1)) from by unfold sSh; (try rw [onR_in hj4 (by decide)]); (try rw [onR_in hln (by omega)]); (try rw [onR_out (by intro q; omega)]); (try rw [if_pos gn]); (try rfl)))) (congrArg (fun z => (wX cI cZ xq xa (sF xg 6 (fSheet (nI j) (nI ln) n0)) xh ++ (wA cO (xa 0) ys ++ (wT cI cZ (ys j) ta (sF (sF tg 0 (sSh (nI j) (nI ln) n0 (tg 0) (fun _ _ => 1))) 1 z) ++ (wB cI (ta 3) bf))))) (show (tg 1) = (sSh (nI j) (nI ln) n0 (tg 1) (fun ln _ => ln)) from by unfold sSh; (try rw [onR_in hj4 (by decide)]); (try rw [onR_in hln (by omega)]); (try rw [onR_out (by intro q; omega)]); (try rw [if_pos gn]); (try rfl)))) (congrArg (fun z => (wX cI cZ xq xa (sF xg 6 (fSheet (nI j) (nI ln) n0)) xh ++ (wA cO (xa 0) ys ++ (wT cI cZ (ys j) ta (sF (sF (sF tg 0 (sSh (nI j) (nI ln) n0 (tg 0) (fun _ _ => 1))) 1 (sSh (nI j) (nI ln) n0 (tg 1) (fun ln _ => ln))) 2 z) ++ (wB cI (ta 3) bf))))) (show (tg 2) = (sSh (nI j) (nI ln) n0 (tg 2) (fun _ m => m)) from by unfold sSh; (try rw [onR_in hj4 (by decide)]); (try rw [onR_in hln (by omega)]); (try rw [onR_out (by intro q; omega)]); (try rw [if_pos gn]); (try rfl)))) (congrArg (fun z => (wX cI cZ xq xa (sF xg 6 (fSheet (nI j) (nI ln) n0)) xh ++ (wA cO (xa 0) ys ++ (wT cI cZ (ys j) ta (sF (sF (sF tg 0 (sSh (nI j) (nI ln) n0 (tg 0) (fun _ _ => 1))) 1 (sSh (nI j) (nI ln) n0 (tg 1) (fun ln _ => ln))) 2 (sSh (nI j) (nI ln) n0 (tg 2) (fun _ m => m))) ++ (wB cI (ta 3) z))))) (show bf = (sSh (nI j) (nI ln) n0 (bf) (fun _ _ => fill60 (nI 0) bf)) from by unfold sSh; (try rw [onR_in hj4 (by decide)]); (try rw [onR_in hln (by omega)]); (try rw [onR_out (by intro q; omega)]); (try rw [if_pos gn]); (try rfl)))) dX5_sheet_34
    · subst w20
      have glane := fun q => h20 ((Iff.refl (inR lane 3)).mpr q)
      refine n_if_eq X 32 dX5_sheet_23 (by decide) (by decide) (fun c23 => ?_) (fun c23 => by exact absurd c23 (by decide))
      refine x_bipush (v := (-2 : Int32)) X dX5_sheet_32 (by decide) ?_
      exact x_iret X hW rfl () ((by unfold aSheet; (try rw [onR_in hj4 (by decide)]); (try rw [onR_out glane]); (try rfl))) (Eq.trans (Eq.trans (Eq.trans (Eq.trans (congrArg (fun z => (wX cI cZ xq xa (sF xg 6 z) xh ++ (wA cO (xa 0) ys ++ (wT cI cZ (ys j) ta tg ++ (wB cI (ta 3) bf))))) (show 0 = (fSheet (nI j) lane n0) from by unfold fSheet; (try rw [onR_in hj4 (by decide)]); (try rw [onR_out glane]); (try rfl))) (congrArg (fun z => (wX cI cZ xq xa (sF xg 6 (fSheet (nI j) lane n0)) xh ++ (wA cO (xa 0) ys ++ (wT cI cZ (ys j) ta (sF tg 0 z) ++ (wB cI (ta 3) bf))))) (show (tg 0) = (sSh (nI j) lane n0 (tg 0) (fun _ _ => 1)) from by unfold sSh; (try rw [onR_in hj4 (by decide)]); (try rw [onR_out glane]); (try rfl)))) (congrArg (fun z => (wX cI cZ xq xa (sF xg 6 (fSheet (nI j) lane n0)) xh ++ (wA cO (xa 0) ys ++ (wT cI cZ (ys j) ta (sF (sF tg 0 (sSh (nI j) lane n0 (tg 0) (fun _ _ => 1))) 1 z) ++ (wB cI (ta 3) bf))))) (show (tg 1) = (sSh (nI j) lane n0 (tg 1) (fun ln _ => ln)) from by unfold sSh; (try rw [onR_in hj4 (by decide)]); (try rw [onR_out glane]); (try rfl)))) (congrArg (fun z => (wX cI cZ xq xa (sF xg 6 (fSheet (nI j) lane n0)) xh ++ (wA cO (xa 0) ys ++ (wT cI cZ (ys j) ta (sF (sF (sF tg 0 (sSh (nI j) lane n0 (tg 0) (fun _ _ => 1))) 1 (sSh (nI j) lane n0 (tg 1) (fun ln _ => ln))) 2 z) ++ (wB cI (ta 3) bf))))) (show (tg 2) = (sSh (nI j) lane n0 (tg 2) (fun _ m => m)) from by unfold sSh; (try rw [onR_in hj4 (by decide)]); (try rw [onR_out glane]); (try rfl)))) (congrArg (fun z => (wX cI cZ xq xa (sF xg 6 (fSheet (nI j) lane n0)) xh ++ (wA cO (xa 0) ys ++ (wT cI cZ (ys j) ta (sF (sF (sF tg 0 (sSh (nI j) lane n0 (tg 0) (fun _ _ => 1))) 1 (sSh (nI j) lane n0 (tg 1) (fun ln _ => ln))) 2 (sSh (nI j) lane n0 (tg 2) (fun _ m => m))) ++ (wB cI (ta 3) z))))) (show bf = (sSh (nI j) lane n0 (bf) (fun _ _ => fill60 (nI 0) bf)) from by unfold sSh; (try rw [onR_in hj4 (by decide)]); (try rw [onR_out glane]); (try rfl)))) dX5_sheet_34
set_option maxHeartbeats 4000000 in
set_option maxRecDepth 100000 in
theorem c_X5_lose (l : Launch) (D : va_G) (cI cZ cO : ClassId) (xq : Nat) (xa : Nat → Nat) (xg : Nat → Nat) (xh : Nat → Int32) (ys : Nat → Nat) (ta : Nat → Nat) (tg : Nat → Nat) (bf : Nat → Int32) (sz : Nat) (k0 : Int32) (j : Nat) (th : Nat → Nat) (hj4 : j < 4) (hkj : ¬ inR k0 4 ∨ k0 = nI j) (hct : tg 2 ≤ 60) (hth : tg 0 ≤ 1) (hln : tg 1 ≤ 2) (hthj : th j = tg 0) : Met l yX5_lose wsX5_lose ({ frames := 1, cells := 0, slots := 0, locals := 21 }) (va_Pc [.ref xq, .int k0] (st_W D (ty3 cI cZ cO) (wX cI cZ xq xa xg xh ++ (wA cO (xa 0) ys ++ (wT cI cZ (ys j) ta tg ++ (wB cI (ta 3) bf)))) sz)) (va_Qi (fun (rr : Int32) (u : Unit) => rr = aLose th k0) (fun u t => at_W D (ty3 cI cZ cO) (va_A (wX cI cZ xq xa xg xh ++ (wA cO (xa 0) ys ++ (wT cI cZ (ys j) ta tg ++ (wB cI (ta 3) bf)))) sz) (wX cI cZ xq xa xg xh ++ (wA cO (xa 0) ys ++ (wT cI cZ (ys j) ta (sF tg 0 (onR k0 4 (tg 0) (fun _ => 0))) ++ (wB cI (ta 3) bf)))) t) (va_A (wX cI cZ xq xa xg xh ++ (wA cO (xa 0) ys ++ (wT cI cZ (ys j) ta tg ++ (wB cI (ta 3) bf)))) sz)) 0 0 (va_A (wX cI cZ xq xa xg xh ++ (wA cO (xa 0) ys ++ (wT cI cZ (ys j) ta tg ++ (wB cI (ta 3) bf)))) sz) := by
  refine Met.goi (cc := cX5_lose) (maxL := 4) (ret := (some .int)) (by decide) rfl (Nat.le_of_ble_eq_true rfl) (fun p e s m below meth c A ls X hW hl => ?_)
  have hi3 : ∀ w ∈ wsX30, w ∈ wsX5_lose := fun w h => List.mem_cons_of_mem _ (List.mem_append_left _ (List.mem_append_right _ h))
  have hi5 : ∀ w ∈ wsX50, w ∈ wsX5_lose := fun w h => List.mem_cons_of_mem _ (List.mem_append_right _ h)
  have hl : lv_has ls 4 [(0, .ref xq), (1, .int k0)] := hl
  rcases hkj with hq | rfl
  · refine x_aload_n X dX5_lose_0 rfl (lv_at hl 0 rfl) ?_
    refine x_iload_n X dX5_lose_1 rfl (lv_at hl 1 rfl) ?_
    refine x_callVq X hW (As := [.int k0]) (rest := []) (wz := fun u => (wX cI cZ xq xa xg xh ++ (wA cO (xa 0) ys ++ (wT cI cZ (ys j) ta tg ++ (wB cI (ta 3) bf))))) (c_X5_sheetAt0 l D cI cZ cO xq xa xg xh ys _ k0 (show ¬ inR k0 4 from (by first | assumption | omega))) (cwV 1 X.2.2.2.2.2.1 gX5_lose_X5_sheetAt rfl rfl rfl (by decide +kernel) ⟨Nat.le_of_ble_eq_true rfl, Nat.le_of_ble_eq_true rfl⟩) 0 4 rfl rfl rfl [0, 1] [2, 3] [2, 3, 0, 1] rfl rfl (by decide) (fun _ => rfl) rfl hl.1 rfl (Nat.le_of_ble_eq_true rfl) ⟨Nat.le_of_ble_eq_true rfl, Nat.le_of_ble_eq_true rfl⟩ dX5_lose_2 (fun r1 u2 H locs w2 hW => ?_)
    have hW : Wd D A s.heap H locs (wX cI cZ xq xa xg xh ++ (wA cO (xa 0) ys ++ (wT cI cZ (ys j) ta tg ++ (wB cI (ta 3) bf)))) := hW
    replace w2 : r1 = none := w2
    subst w2
    refine lv_astore_nN (lv' := [(2, .null), (0, .ref xq), (1, .int k0)]) X.1 X.2.1 dX5_lose_5 rfl hl (by decide) rfl (fun ls hl => ?_)
    refine lv_aload_nN X.1 X.2.1 dX5_lose_6 rfl (lv_at hl 0 rfl) ?_
    refine lv_ifnonnullN X.1 X.2.1 dX5_lose_7 ?_
    refine x_iconst (v := (-1 : Int32)) X dX5_lose_10 (by decide) ?_
    exact x_iret X hW rfl () ((by unfold aLose; (try rw [onR_out hq]); (try rw [hthj]); (try rfl))) (congrArg (fun z => (wX cI cZ xq xa xg xh ++ (wA cO (xa 0) ys ++ (wT cI cZ (ys j) ta (sF tg 0 z) ++ (wB cI (ta 3) bf))))) (show (tg 0) = (onR k0 4 (tg 0) (fun _ => 0)) from by (try rw [onR_out hq]); (try rfl))) dX5_lose_11
  · refine x_aload_n X dX5_lose_0 rfl (lv_at hl 0 rfl) ?_
    refine x_iload_n X dX5_lose_1 rfl (lv_at hl 1 rfl) ?_
    refine x_callVq X hW (As := [.int (nI j)]) (rest := []) (wz := fun u => (wX cI cZ xq xa xg xh ++ (wA cO (xa 0) ys ++ (wT cI cZ (ys j) ta tg ++ (wB cI (ta 3) bf))))) (c_X5_sheetAt l D cI cZ cO xq xa xg xh ys _ j (show j < 4 from (by first | assumption | omega))) (cwV 1 X.2.2.2.2.2.1 gX5_lose_X5_sheetAt rfl rfl rfl (by decide +kernel) ⟨Nat.le_of_ble_eq_true rfl, Nat.le_of_ble_eq_true rfl⟩) 0 4 rfl rfl rfl [0, 1] [2, 3] [2, 3, 0, 1] rfl rfl (by decide) (fun _ => rfl) rfl hl.1 rfl (Nat.le_of_ble_eq_true rfl) ⟨Nat.le_of_ble_eq_true rfl, Nat.le_of_ble_eq_true rfl⟩ dX5_lose_2 (fun r3 u4 H locs w2 hW => ?_)
    have hW : Wd D A s.heap H locs (wX cI cZ xq xa xg xh ++ (wA cO (xa 0) ys ++ (wT cI cZ (ys j) ta tg ++ (wB cI (ta 3) bf)))) := hW
    replace w2 : r3 = some (ys j) := w2
    subst w2
    refine x_astore_n X [(2, .ref (ys j)), (0, .ref xq), (1, .int (nI j))] dX5_lose_5 rfl hl (by decide) rfl (fun ls hl => ?_)
    refine x_aload_n X dX5_lose_6 rfl (lv_at hl 0 rfl) ?_
    refine lv_ifnonnull (tgt := 12) X.1 X.2.1 dX5_lose_7 (by decide) ?_
    refine x_aload_n X dX5_lose_12 rfl (lv_at hl 0 rfl) ?_
    refine x_get X hW (v := .int (nI (tg 0))) hi3 2 rfl rfl 0 (by decide) (List.mem_of_getElem? (i := 1) rfl) rfl rfl dX5_lose_13 ?_
    refine n_if_eq X 23 dX5_lose_16 (by decide) (by omega) (fun c16 => ?_) (fun c16 => ?_)
    · refine x_iconst (v := nI 0) X dX5_lose_23 (by decide) ?_
      refine n_as0 (b := tg 0) (by omega) ?_
      refine x_istore_n X [(3, .int (nI (tg 0))), (2, .ref (ys j)), (0, .ref xq), (1, .int (nI j))] dX5_lose_24 rfl hl (by decide) rfl (fun ls hl => ?_)
      refine x_aload_n X dX5_lose_25 rfl (lv_at hl 1 rfl) ?_
      refine x_iconst (v := nI 0) X dX5_lose_26 (by decide) ?_
      refine x_put X hW (v := .int (nI 0)) hi3 tyX3 tyX3_ok nmX3 2 rfl rfl 0 (by decide) (List.mem_of_getElem? (i := 1) rfl) rfl rfl rfl rfl (Nat.le_of_ble_eq_true rfl) dX5_lose_27 (wX cI cZ xq xa xg xh ++ (wA cO (xa 0) ys ++ (wT cI cZ (ys j) ta (sF tg 0 0) ++ (wB cI (ta 3) bf)))) rfl (fun H locs hW => ?_)
      refine x_iload_n X dX5_lose_30 rfl (lv_at hl 0 rfl) ?_
      exact x_iret X hW rfl () ((by unfold aLose; (try rw [onR_in hj4 (by decide)]); (try rw [hthj]); (try rfl))) (congrArg (fun z => (wX cI cZ xq xa xg xh ++ (wA cO (xa 0) ys ++ (wT cI cZ (ys j) ta (sF tg 0 z) ++ (wB cI (ta 3) bf))))) (show 0 = (onR (nI j) 4 (tg 0) (fun _ => 0)) from by (try rw [onR_in hj4 (by decide)]); (try rfl))) dX5_lose_31
    · refine x_iconst (v := nI 1) X dX5_lose_19 (by decide) ?_
      refine x_goto X 24 dX5_lose_20 (by decide) ?_
      refine n_as0 (b := tg 0) (by omega) ?_
      refine x_istore_n X [(3, .int (nI (tg 0))), (2, .ref (ys j)), (0, .ref xq), (1, .int (nI j))] dX5_lose_24 rfl hl (by decide) rfl (fun ls hl => ?_)
      refine x_aload_n X dX5_lose_25 rfl (lv_at hl 1 rfl) ?_
      refine x_iconst (v := nI 0) X dX5_lose_26 (by decide) ?_
      refine x_put X hW (v := .int (nI 0)) hi3 tyX3 tyX3_ok nmX3 2 rfl rfl 0 (by decide) (List.mem_of_getElem? (i := 1) rfl) rfl rfl rfl rfl (Nat.le_of_ble_eq_true rfl) dX5_lose_27 (wX cI cZ xq xa xg xh ++ (wA cO (xa 0) ys ++ (wT cI cZ (ys j) ta (sF tg 0 0) ++ (wB cI (ta 3) bf)))) rfl (fun H locs hW => ?_)
      refine x_iload_n X dX5_lose_30 rfl (lv_at hl 0 rfl) ?_
      exact x_iret X hW rfl () ((by unfold aLose; (try rw [onR_in hj4 (by decide)]); (try rw [hthj]); (try rfl))) (congrArg (fun z => (wX cI cZ xq xa xg xh ++ (wA cO (xa 0) ys ++ (wT cI cZ (ys j) ta (sF tg 0 z) ++ (wB cI (ta 3) bf))))) (show 0 = (onR (nI j) 4 (tg 0) (fun _ => 0)) from by (try rw [onR_in hj4 (by decide)]); (try rfl))) dX5_lose_31
set_option maxHeartbeats 4000000 in
set_option maxRecDepth 100000 in
theorem c_X5_put (l : Launch) (D : va_G) (cI cZ cO : ClassId) (xq : Nat) (xa : Nat → Nat) (xg : Nat → Nat) (xh : Nat → Int32) (ys : Nat → Nat) (ta : Nat → Nat) (tg : Nat → Nat) (bf : Nat → Int32) (sz : Nat) (k0 : Int32) (i0 : Int32) (v : Int32) (j : Nat) (th : Nat → Nat) (ct : Nat → Nat) (hj4 : j < 4) (hkj : ¬ inR k0 4 ∨ k0 = nI j) (hct : tg 2 ≤ 60) (hth : tg 0 ≤ 1) (hln : tg 1 ≤ 2) (hthj : th j = tg 0) (hctj : ct j = tg 2) : Met l yX5_put wsX5_put ({ frames := 2, cells := 0, slots := 0, locals := 45 }) (va_Pc [.ref xq, .int k0, .int i0, .int v] (st_W D (ty3 cI cZ cO) (wX cI cZ xq xa xg xh ++ (wA cO (xa 0) ys ++ (wT cI cZ (ys j) ta tg ++ (wB cI (ta 3) bf)))) sz)) (va_Qi (fun (rr : Int32) (u : Unit) => rr = aPut th ct k0 i0) (fun u t => at_W D (ty3 cI cZ cO) (va_A (wX cI cZ xq xa xg xh ++ (wA cO (xa 0) ys ++ (wT cI cZ (ys j) ta tg ++ (wB cI (ta 3) bf)))) sz) (wX cI cZ xq xa (sF xg 6 (fPut th ct k0 i0)) xh ++ (wA cO (xa 0) ys ++ (wT cI cZ (ys j) ta tg ++ (wB cI (ta 3) (onR k0 4 bf (fun _ => if cellF (tg 0) (tg 2) i0 = 0 then sF bf i0.toNatClampNeg (cutI (tg 1) v) else bf)))))) t) (va_A (wX cI cZ xq xa xg xh ++ (wA cO (xa 0) ys ++ (wT cI cZ (ys j) ta tg ++ (wB cI (ta 3) bf)))) sz)) 0 0 (va_A (wX cI cZ xq xa xg xh ++ (wA cO (xa 0) ys ++ (wT cI cZ (ys j) ta tg ++ (wB cI (ta 3) bf)))) sz) := by
  refine Met.goi (cc := cX5_put) (maxL := 6) (ret := (some .int)) (by decide) rfl (Nat.le_of_ble_eq_true rfl) (fun p e s m below meth c A ls X hW hl => ?_)
  have hi5 : ∀ w ∈ wsX50, w ∈ wsX5_put := fun w h => List.mem_cons_of_mem _ (List.mem_append_left _ (List.mem_append_right _ h))
  have hi3 : ∀ w ∈ wsX30, w ∈ wsX5_put := fun w h => List.mem_cons_of_mem _ (List.mem_append_right _ h)
  have hl : lv_has ls 6 [(0, .ref xq), (1, .int k0), (2, .int i0), (3, .int v)] := hl
  rcases hkj with hq | rfl
  · refine x_aload_n X dX5_put_0 rfl (lv_at hl 0 rfl) ?_
    refine x_iconst (v := nI 0) X dX5_put_1 (by decide) ?_
    refine x_put X hW (v := .int (nI 0)) hi5 tyX5 tyX5_ok nmX5 0 rfl rfl 6 (by decide) (List.mem_of_getElem? (i := 1) rfl) rfl rfl rfl rfl (Nat.le_of_ble_eq_true rfl) dX5_put_2 (wX cI cZ xq xa (sF xg 6 0) xh ++ (wA cO (xa 0) ys ++ (wT cI cZ (ys j) ta tg ++ (wB cI (ta 3) bf)))) rfl (fun H locs hW => ?_)
    refine x_aload_n X dX5_put_5 rfl (lv_at hl 0 rfl) ?_
    refine x_iload_n X dX5_put_6 rfl (lv_at hl 1 rfl) ?_
    refine x_callVq X hW (As := [.int k0]) (rest := []) (wz := fun u => (wX cI cZ xq xa (sF xg 6 0) xh ++ (wA cO (xa 0) ys ++ (wT cI cZ (ys j) ta tg ++ (wB cI (ta 3) bf))))) (c_X5_sheetAt0 l D cI cZ cO xq xa (sF xg 6 0) xh ys _ k0 (show ¬ inR k0 4 from (by first | assumption | omega))) (cwV 1 X.2.2.2.2.2.1 gX5_put_X5_sheetAt rfl rfl rfl (by decide +kernel) ⟨Nat.le_of_ble_eq_true rfl, Nat.le_of_ble_eq_true rfl⟩) 0 4 rfl rfl rfl [0, 1] [2, 3] [2, 3, 0, 1] rfl rfl (by decide) (fun _ => rfl) rfl hl.1 rfl (Nat.le_of_ble_eq_true rfl) ⟨Nat.le_of_ble_eq_true rfl, Nat.le_of_ble_eq_true rfl⟩ dX5_put_7 (fun r1 u2 H locs w7 hW => ?_)
    have hW : Wd D A s.heap H locs (wX cI cZ xq xa (sF xg 6 0) xh ++ (wA cO (xa 0) ys ++ (wT cI cZ (ys j) ta tg ++ (wB cI (ta 3) bf)))) := hW
    replace w7 : r1 = none := w7
    subst w7
    refine lv_astoreN (lv' := [(4, .null), (0, .ref xq), (1, .int k0), (2, .int i0), (3, .int v)]) X.1 X.2.1 dX5_put_10 hl (by decide) rfl (fun ls hl => ?_)
    refine lv_aloadN X.1 X.2.1 dX5_put_12 (lv_at hl 0 rfl) ?_
    refine lv_ifnonnullN X.1 X.2.1 dX5_put_14 ?_
    refine x_iconst (v := (-1 : Int32)) X dX5_put_17 (by decide) ?_
    exact x_iret X hW rfl () (by unfold aPut; rw [onR_out hq]) (Eq.trans (congrArg (fun z => (wX cI cZ xq xa (sF xg 6 z) xh ++ (wA cO (xa 0) ys ++ (wT cI cZ (ys j) ta tg ++ (wB cI (ta 3) bf))))) (show 0 = (fPut th ct k0 i0) from by unfold fPut; rw [onR_out hq])) (congrArg (fun z => (wX cI cZ xq xa (sF xg 6 (fPut th ct k0 i0)) xh ++ (wA cO (xa 0) ys ++ (wT cI cZ (ys j) ta tg ++ (wB cI (ta 3) z))))) (show bf = (onR k0 4 bf (fun _ => if cellF (tg 0) (tg 2) i0 = 0 then sF bf i0.toNatClampNeg (cutI (tg 1) v) else bf)) from by rw [onR_out hq]))) dX5_put_18
  · refine x_aload_n X dX5_put_0 rfl (lv_at hl 0 rfl) ?_
    refine x_iconst (v := nI 0) X dX5_put_1 (by decide) ?_
    refine x_put X hW (v := .int (nI 0)) hi5 tyX5 tyX5_ok nmX5 0 rfl rfl 6 (by decide) (List.mem_of_getElem? (i := 1) rfl) rfl rfl rfl rfl (Nat.le_of_ble_eq_true rfl) dX5_put_2 (wX cI cZ xq xa (sF xg 6 0) xh ++ (wA cO (xa 0) ys ++ (wT cI cZ (ys j) ta tg ++ (wB cI (ta 3) bf)))) rfl (fun H locs hW => ?_)
    refine x_aload_n X dX5_put_5 rfl (lv_at hl 0 rfl) ?_
    refine x_iload_n X dX5_put_6 rfl (lv_at hl 1 rfl) ?_
    refine x_callVq X hW (As := [.int (nI j)]) (rest := []) (wz := fun u => (wX cI cZ xq xa (sF xg 6 0) xh ++ (wA cO (xa 0) ys ++ (wT cI cZ (ys j) ta tg ++ (wB cI (ta 3) bf))))) (c_X5_sheetAt l D cI cZ cO xq xa (sF xg 6 0) xh ys _ j (show j < 4 from (by first | assumption | omega))) (cwV 1 X.2.2.2.2.2.1 gX5_put_X5_sheetAt rfl rfl rfl (by decide +kernel) ⟨Nat.le_of_ble_eq_true rfl, Nat.le_of_ble_eq_true rfl⟩) 0 4 rfl rfl rfl [0, 1] [2, 3] [2, 3, 0, 1] rfl rfl (by decide) (fun _ => rfl) rfl hl.1 rfl (Nat.le_of_ble_eq_true rfl) ⟨Nat.le_of_ble_eq_true rfl, Nat.le_of_ble_eq_true rfl⟩ dX5_put_7 (fun r3 u4 H locs w7 hW => ?_)
    have hW : Wd D A s.heap H locs (wX cI cZ xq xa (sF xg 6 0) xh ++ (wA cO (xa 0) ys ++ (wT cI cZ (ys j) ta tg ++ (wB cI (ta 3) bf)))) := hW
    replace w7 : r3 = some (ys j) := w7
    subst w7
    refine x_astore X [(4, .ref (ys j)), (0, .ref xq), (1, .int (nI j)), (2, .int i0), (3, .int v)] dX5_put_10 hl (by decide) rfl (fun ls hl => ?_)
    refine x_aload X dX5_put_12 (lv_at hl 0 rfl) ?_
    refine lv_ifnonnull (tgt := 19) X.1 X.2.1 dX5_put_14 (by decide) ?_
    refine x_aload X dX5_put_19 (lv_at hl 0 rfl) ?_
    refine x_aload X dX5_put_21 (lv_at hl 0 rfl) ?_
    refine x_get X hW (v := .int (nI (tg 1))) hi3 2 rfl rfl 1 (by decide) (List.mem_of_getElem? (i := 2) rfl) rfl rfl dX5_put_23 ?_
    refine x_iload_n X dX5_put_26 rfl (lv_at hl 3 rfl) ?_
    refine x_iconst (v := nI 1) X dX5_put_27 (by decide) ?_
    refine x_callVi X hW (As := [.int (nI (tg 1)), .int i0, .int (nI 1)]) (rest := []) (wz := fun u => (wX cI cZ xq xa (sF xg 6 0) xh ++ (wA cO (xa 0) ys ++ (wT cI cZ (ys j) ta tg ++ (wB cI (ta 3) bf))))) (c_X3_faultOf l D cI cZ cO (ys j) ta tg bf _ (nI (tg 1)) i0 (nI 1) (show (tg 2) ≤ 60 from (by first | assumption | omega)) (show (tg 0) ≤ 1 from (by first | assumption | omega))) (cwV 3 X.2.2.2.2.2.1 gX5_put_X3_faultOf rfl rfl rfl (by decide +kernel) ⟨Nat.le_of_ble_eq_true rfl, Nat.le_of_ble_eq_true rfl⟩) 2 3 rfl rfl rfl [2, 3] [0, 1] [0, 1, 2, 3] rfl rfl (by decide) (fun _ => rfl) rfl hl.1 rfl (Nat.le_of_ble_eq_true rfl) ⟨Nat.le_of_ble_eq_true rfl, Nat.le_of_ble_eq_true rfl⟩ dX5_put_28 (fun r5 u6 H locs w28 hW => ?_)
    have hW : Wd D A s.heap H locs (wX cI cZ xq xa (sF xg 6 0) xh ++ (wA cO (xa 0) ys ++ (wT cI cZ (ys j) ta tg ++ (wB cI (ta 3) bf)))) := hW
    replace w28 : r5 = nI (barF ((tg 0)) ((tg 1)) ((tg 2)) (nI (tg 1)) i0 (nI 1)) := w28
    subst w28
    refine n_as0 (b := cellF (tg 0) (tg 2) i0) (bar1 rfl) ?_
    refine x_istore X [(5, .int (nI (cellF (tg 0) (tg 2) i0))), (4, .ref (ys j)), (0, .ref xq), (1, .int (nI j)), (2, .int i0), (3, .int v)] dX5_put_31 hl (by decide) rfl (fun ls hl => ?_)
    refine x_iload X dX5_put_33 (lv_at hl 0 rfl) ?_
    rcases Nat.eq_zero_or_pos (cellF (tg 0) (tg 2) i0) with hz | hz
    · obtain ⟨hp1, hp2⟩ := cellF_0 hz
      obtain ⟨ii, hii, rfl⟩ := inR_ex hp2 (by omega)
      refine n_as0 (b := 0) hz ?_
      refine n_if_eq X 45 dX5_put_35 (by decide) (by decide) (fun c35 => ?_) (fun c35 => by exact absurd c35 (by decide))
      refine x_aload X dX5_put_45 (lv_at hl 1 rfl) ?_
      refine x_iload_n X dX5_put_47 rfl (lv_at hl 4 rfl) ?_
      refine x_iload_n X dX5_put_48 rfl (lv_at hl 5 rfl) ?_
      refine x_callVv X hW (As := [.int (nI ii), .int v]) (rest := []) (wz := fun u => (wX cI cZ xq xa (sF xg 6 0) xh ++ (wA cO (xa 0) ys ++ (wT cI cZ (ys j) ta tg ++ (wB cI (ta 3) (sF bf ii (cutI ((tg 1)) v))))))) (c_X3_setCell l D cI cZ cO (ys j) ta tg bf _ ii v (show ii < (tg 2) from (by first | assumption | omega)) (show (tg 2) ≤ 60 from (by first | assumption | omega)) (show (tg 1) ≤ 2 from (by first | assumption | omega))) (cwV 2 X.2.2.2.2.2.1 gX5_put_X3_setCell rfl rfl rfl (by decide +kernel) ⟨Nat.le_of_ble_eq_true rfl, Nat.le_of_ble_eq_true rfl⟩) 2 3 rfl rfl rfl [2, 3] [0, 1] [0, 1, 2, 3] rfl rfl (by decide) (fun _ => rfl) rfl hl.1 rfl (Nat.le_of_ble_eq_true rfl) ⟨Nat.le_of_ble_eq_true rfl, Nat.le_of_ble_eq_true rfl⟩ dX5_put_49 (fun u8 H locs w49 hW => ?_)
      have hW : Wd D A s.heap H locs (wX cI cZ xq xa (sF xg 6 0) xh ++ (wA cO (xa 0) ys ++ (wT cI cZ (ys j) ta tg ++ (wB cI (ta 3) (sF bf ii (cutI ((tg 1)) v)))))) := hW
      replace w49 : True := w49
      refine x_iconst (v := nI 1) X dX5_put_52 (by decide) ?_
      exact x_iret X hW rfl () (by unfold aPut; rw [onR_in hj4 (by decide), hthj, hctj]; exact (fl0 hz _).symm) (Eq.trans (congrArg (fun z => (wX cI cZ xq xa (sF xg 6 z) xh ++ (wA cO (xa 0) ys ++ (wT cI cZ (ys j) ta tg ++ (wB cI (ta 3) (sF bf ii (cutI ((tg 1)) v))))))) (show 0 = (fPut th ct (nI j) (nI ii)) from by unfold fPut; rw [onR_in hj4 (by decide), hthj, hctj]; exact hz.symm)) (congrArg (fun z => (wX cI cZ xq xa (sF xg 6 (fPut th ct (nI j) (nI ii))) xh ++ (wA cO (xa 0) ys ++ (wT cI cZ (ys j) ta tg ++ (wB cI (ta 3) z))))) (show (sF bf ii (cutI ((tg 1)) v)) = (onR (nI j) 4 bf (fun _ => if cellF (tg 0) (tg 2) (nI ii) = 0 then sF bf (nI ii).toNatClampNeg (cutI (tg 1) v) else bf)) from by rw [onR_in hj4 (by decide), if_pos hz, nI_clamp (by omega)]))) dX5_put_53
    · have hz := Nat.ne_of_gt hz
      have hle := cellF_le (tg 0) (tg 2) i0
      refine n_if_eq X 45 dX5_put_35 (by decide) (by omega) (fun c35 => by omega) (fun c35 => ?_)
      refine x_aload_n X dX5_put_38 rfl (lv_at hl 2 rfl) ?_
      refine x_iload X dX5_put_39 (lv_at hl 0 rfl) ?_
      refine x_callVi X hW (As := [.int (nI (cellF (tg 0) (tg 2) i0))]) (rest := []) (wz := fun u => (wX cI cZ xq xa (sF xg 6 (cellF (tg 0) (tg 2) i0)) xh ++ (wA cO (xa 0) ys ++ (wT cI cZ (ys j) ta tg ++ (wB cI (ta 3) bf))))) (c_X5_faulted l D cI cZ cO xq xa (sF xg 6 0) xh _ (cellF (tg 0) (tg 2) i0)) (cwV 1 X.2.2.2.2.2.1 gX5_put_X5_faulted rfl rfl rfl (by decide +kernel) ⟨Nat.le_of_ble_eq_true rfl, Nat.le_of_ble_eq_true rfl⟩) 0 4 rfl rfl rfl [0] [1, 2, 3] [3, 0, 1, 2] rfl rfl (by decide) (fun _ => rfl) rfl hl.1 rfl (Nat.le_of_ble_eq_true rfl) ⟨Nat.le_of_ble_eq_true rfl, Nat.le_of_ble_eq_true rfl⟩ dX5_put_41 (fun r9 u10 H locs w41 hW => ?_)
      have hW : Wd D A s.heap H locs (wX cI cZ xq xa (sF xg 6 (cellF (tg 0) (tg 2) i0)) xh ++ (wA cO (xa 0) ys ++ (wT cI cZ (ys j) ta tg ++ (wB cI (ta 3) bf)))) := hW
      replace w41 : r9 = (-10) - nI (cellF (tg 0) (tg 2) i0) := w41
      subst w41
      exact x_iret X hW rfl () (by unfold aPut; rw [onR_in hj4 (by decide), hthj, hctj]; exact (fail_le hle hz _).symm) (Eq.trans (congrArg (fun z => (wX cI cZ xq xa (sF xg 6 z) xh ++ (wA cO (xa 0) ys ++ (wT cI cZ (ys j) ta tg ++ (wB cI (ta 3) bf))))) (show (cellF (tg 0) (tg 2) i0) = (fPut th ct (nI j) i0) from by unfold fPut; rw [onR_in hj4 (by decide), hthj, hctj])) (congrArg (fun z => (wX cI cZ xq xa (sF xg 6 (fPut th ct (nI j) i0)) xh ++ (wA cO (xa 0) ys ++ (wT cI cZ (ys j) ta tg ++ (wB cI (ta 3) z))))) (show bf = (onR (nI j) 4 bf (fun _ => if cellF (tg 0) (tg 2) i0 = 0 then sF bf i0.toNatClampNeg (cutI (tg 1) v) else bf)) from by rw [onR_in hj4 (by decide), if_neg hz]))) dX5_put_44
set_option maxHeartbeats 4000000 in
set_option maxRecDepth 100000 in
theorem c_X5_cell (l : Launch) (D : va_G) (cI cZ cO : ClassId) (xq : Nat) (xa : Nat → Nat) (xg : Nat → Nat) (xh : Nat → Int32) (ys : Nat → Nat) (ta : Nat → Nat) (tg : Nat → Nat) (bf : Nat → Int32) (sz : Nat) (k0 : Int32) (i0 : Int32) (lane : Int32) (j : Nat) (th : Nat → Nat) (ln : Nat → Nat) (ct : Nat → Nat) (cs : Nat → Nat → Int32) (hj4 : j < 4) (hkj : ¬ inR k0 4 ∨ k0 = nI j) (hct : tg 2 ≤ 60) (hth : tg 0 ≤ 1) (hln : tg 1 ≤ 2) (hthj : th j = tg 0) (hctj : ct j = tg 2) (hlnj : ln j = tg 1) (hcs : tg 0 = 1 → ∀ z0, z0 < tg 2 → bf z0 = cs j z0) : Met l yX5_cell wsX5_cell ({ frames := 2, cells := 0, slots := 0, locals := 45 }) (va_Pc [.ref xq, .int k0, .int i0, .int lane] (st_W D (ty3 cI cZ cO) (wX cI cZ xq xa xg xh ++ (wA cO (xa 0) ys ++ (wT cI cZ (ys j) ta tg ++ (wB cI (ta 3) bf)))) sz)) (va_Ql (fun (rr : Int64) (u : Unit) => rr = aCell th ln ct cs k0 i0 lane) (fun u t => at_W D (ty3 cI cZ cO) (va_A (wX cI cZ xq xa xg xh ++ (wA cO (xa 0) ys ++ (wT cI cZ (ys j) ta tg ++ (wB cI (ta 3) bf)))) sz) (wX cI cZ xq xa (sF xg 6 (fCell th ln ct k0 i0 lane)) xh ++ (wA cO (xa 0) ys ++ (wT cI cZ (ys j) ta tg ++ (wB cI (ta 3) bf)))) t) (va_A (wX cI cZ xq xa xg xh ++ (wA cO (xa 0) ys ++ (wT cI cZ (ys j) ta tg ++ (wB cI (ta 3) bf)))) sz)) 0 0 (va_A (wX cI cZ xq xa xg xh ++ (wA cO (xa 0) ys ++ (wT cI cZ (ys j) ta tg ++ (wB cI (ta 3) bf)))) sz) := by
  refine Met.gol (cc := cX5_cell) (maxL := 5) (ret := (some .long)) (by decide) rfl (Nat.le_of_ble_eq_true rfl) (fun p e s m below meth c A ls X hW hl => ?_)
  have hi5 : ∀ w ∈ wsX50, w ∈ wsX5_cell := fun w h => List.mem_cons_of_mem _ (List.mem_append_left _ (List.mem_append_right _ h))
  have hi3 : ∀ w ∈ wsX30, w ∈ wsX5_cell := fun w h => List.mem_cons_of_mem _ (List.mem_append_right _ h)
  have hl : lv_has ls 5 [(0, .ref xq), (1, .int k0), (2, .int i0), (3, .int lane)] := hl
  rcases hkj with hq | rfl
  · refine x_aload_n X dX5_cell_0 rfl (lv_at hl 0 rfl) ?_
    refine x_iconst (v := nI 0) X dX5_cell_1 (by decide) ?_
    refine x_put X hW (v := .int (nI 0)) hi5 tyX5 tyX5_ok nmX5 0 rfl rfl 6 (by decide) (List.mem_of_getElem? (i := 1) rfl) rfl rfl rfl rfl (Nat.le_of_ble_eq_true rfl) dX5_cell_2 (wX cI cZ xq xa (sF xg 6 0) xh ++ (wA cO (xa 0) ys ++ (wT cI cZ (ys j) ta tg ++ (wB cI (ta 3) bf)))) rfl (fun H locs hW => ?_)
    refine x_aload_n X dX5_cell_5 rfl (lv_at hl 0 rfl) ?_
    refine x_iload_n X dX5_cell_6 rfl (lv_at hl 1 rfl) ?_
    refine x_callVq X hW (As := [.int k0]) (rest := []) (wz := fun u => (wX cI cZ xq xa (sF xg 6 0) xh ++ (wA cO (xa 0) ys ++ (wT cI cZ (ys j) ta tg ++ (wB cI (ta 3) bf))))) (c_X5_sheetAt0 l D cI cZ cO xq xa (sF xg 6 0) xh ys _ k0 (show ¬ inR k0 4 from (by first | assumption | omega))) (cwV 1 X.2.2.2.2.2.1 gX5_cell_X5_sheetAt rfl rfl rfl (by decide +kernel) ⟨Nat.le_of_ble_eq_true rfl, Nat.le_of_ble_eq_true rfl⟩) 0 4 rfl rfl rfl [0, 1] [2, 3] [2, 3, 0, 1] rfl rfl (by decide) (fun _ => rfl) rfl hl.1 rfl (Nat.le_of_ble_eq_true rfl) ⟨Nat.le_of_ble_eq_true rfl, Nat.le_of_ble_eq_true rfl⟩ dX5_cell_7 (fun r1 u2 H locs w7 hW => ?_)
    have hW : Wd D A s.heap H locs (wX cI cZ xq xa (sF xg 6 0) xh ++ (wA cO (xa 0) ys ++ (wT cI cZ (ys j) ta tg ++ (wB cI (ta 3) bf)))) := hW
    replace w7 : r1 = none := w7
    subst w7
    refine lv_astoreN (lv' := [(4, .null), (0, .ref xq), (1, .int k0), (2, .int i0), (3, .int lane)]) X.1 X.2.1 dX5_cell_10 hl (by decide) rfl (fun ls hl => ?_)
    refine lv_aloadN X.1 X.2.1 dX5_cell_12 (lv_at hl 0 rfl) ?_
    refine lv_ifnullN (tgt := 24) X.1 X.2.1 dX5_cell_14 (by decide) ?_
    refine x_ldc2 (v := (-9223372036854775808)) X (List.mem_of_getElem? (i := 2) rfl) dX5_cell_24 ?_
    exact x_lret X hW rfl () ((by unfold aCell; (try rw [onR_out hq]); (try rfl))) (congrArg (fun z => (wX cI cZ xq xa (sF xg 6 z) xh ++ (wA cO (xa 0) ys ++ (wT cI cZ (ys j) ta tg ++ (wB cI (ta 3) bf))))) (show 0 = (fCell th ln ct k0 i0 lane) from by unfold fCell; (try rw [onR_out hq]); (try rfl))) dX5_cell_27
  · refine x_aload_n X dX5_cell_0 rfl (lv_at hl 0 rfl) ?_
    refine x_iconst (v := nI 0) X dX5_cell_1 (by decide) ?_
    refine x_put X hW (v := .int (nI 0)) hi5 tyX5 tyX5_ok nmX5 0 rfl rfl 6 (by decide) (List.mem_of_getElem? (i := 1) rfl) rfl rfl rfl rfl (Nat.le_of_ble_eq_true rfl) dX5_cell_2 (wX cI cZ xq xa (sF xg 6 0) xh ++ (wA cO (xa 0) ys ++ (wT cI cZ (ys j) ta tg ++ (wB cI (ta 3) bf)))) rfl (fun H locs hW => ?_)
    refine x_aload_n X dX5_cell_5 rfl (lv_at hl 0 rfl) ?_
    refine x_iload_n X dX5_cell_6 rfl (lv_at hl 1 rfl) ?_
    refine x_callVq X hW (As := [.int (nI j)]) (rest := []) (wz := fun u => (wX cI cZ xq xa (sF xg 6 0) xh ++ (wA cO (xa 0) ys ++ (wT cI cZ (ys j) ta tg ++ (wB cI (ta 3) bf))))) (c_X5_sheetAt l D cI cZ cO xq xa (sF xg 6 0) xh ys _ j (show j < 4 from (by first | assumption | omega))) (cwV 1 X.2.2.2.2.2.1 gX5_cell_X5_sheetAt rfl rfl rfl (by decide +kernel) ⟨Nat.le_of_ble_eq_true rfl, Nat.le_of_ble_eq_true rfl⟩) 0 4 rfl rfl rfl [0, 1] [2, 3] [2, 3, 0, 1] rfl rfl (by decide) (fun _ => rfl) rfl hl.1 rfl (Nat.le_of_ble_eq_true rfl) ⟨Nat.le_of_ble_eq_true rfl, Nat.le_of_ble_eq_true rfl⟩ dX5_cell_7 (fun r3 u4 H locs w7 hW => ?_)
    have hW : Wd D A s.heap H locs (wX cI cZ xq xa (sF xg 6 0) xh ++ (wA cO (xa 0) ys ++ (wT cI cZ (ys j) ta tg ++ (wB cI (ta 3) bf)))) := hW
    replace w7 : r3 = some (ys j) := w7
    subst w7
    refine x_astore X [(4, .ref (ys j)), (0, .ref xq), (1, .int (nI j)), (2, .int i0), (3, .int lane)] dX5_cell_10 hl (by decide) rfl (fun ls hl => ?_)
    refine x_aload X dX5_cell_12 (lv_at hl 0 rfl) ?_
    refine lv_ifnull X.1 X.2.1 dX5_cell_14 ?_
    refine x_iload_n X dX5_cell_17 rfl (lv_at hl 4 rfl) ?_
    refine x_callSie X hW (As := [.int lane]) (rest := []) (c_X5_isLane l D cI cZ cO  _ lane) (va_cwS 1 X.2.2.2.2.2.1 gX5_cell_X5_isLane rfl rfl rfl (by decide +kernel) ⟨Nat.le_of_ble_eq_true rfl, Nat.le_of_ble_eq_true rfl⟩) rfl hl.1 rfl (Nat.le_of_ble_eq_true rfl) ⟨Nat.le_of_ble_eq_true rfl, Nat.le_of_ble_eq_true rfl⟩ dX5_cell_18 (fun r5 u6 H locs w18 hW => ?_)
    have hW : Wd D A s.heap H locs (wX cI cZ xq xa (sF xg 6 0) xh ++ (wA cO (xa 0) ys ++ (wT cI cZ (ys j) ta tg ++ (wB cI (ta 3) bf)))) := hW
    replace w18 : (r5 = nI 1 ∧ (inR lane 3) ∨ r5 = nI 0 ∧ ¬ (inR lane 3)) := w18
    rcases w18 with ⟨w18, h18⟩ | ⟨w18, h18⟩
    · subst w18
      obtain ⟨ln0, hln0, rfl⟩ := inR_ex ((Iff.refl (inR lane 3)).mp h18) (by omega)
      refine n_if_ne X 28 dX5_cell_21 (by decide) (by decide) (fun c21 => ?_) (fun c21 => by exact absurd c21 (by decide))
      refine x_aload_n X dX5_cell_28 rfl (lv_at hl 1 rfl) ?_
      refine x_aload X dX5_cell_29 (lv_at hl 0 rfl) ?_
      refine x_iload_n X dX5_cell_31 rfl (lv_at hl 4 rfl) ?_
      refine x_iload_n X dX5_cell_32 rfl (lv_at hl 3 rfl) ?_
      refine x_iconst (v := nI 1) X dX5_cell_33 (by decide) ?_
      refine x_callVi X hW (As := [.int (nI ln0), .int i0, .int (nI 1)]) (rest := [.ref xq]) (wz := fun u => (wX cI cZ xq xa (sF xg 6 0) xh ++ (wA cO (xa 0) ys ++ (wT cI cZ (ys j) ta tg ++ (wB cI (ta 3) bf))))) (c_X3_faultOf l D cI cZ cO (ys j) ta tg bf _ (nI ln0) i0 (nI 1) (show (tg 2) ≤ 60 from (by first | assumption | omega)) (show (tg 0) ≤ 1 from (by first | assumption | omega))) (cwV 3 X.2.2.2.2.2.1 gX5_cell_X3_faultOf rfl rfl rfl (by decide +kernel) ⟨Nat.le_of_ble_eq_true rfl, Nat.le_of_ble_eq_true rfl⟩) 2 3 rfl rfl rfl [2, 3] [0, 1] [0, 1, 2, 3] rfl rfl (by decide) (fun _ => rfl) rfl hl.1 rfl (Nat.le_of_ble_eq_true rfl) ⟨Nat.le_of_ble_eq_true rfl, Nat.le_of_ble_eq_true rfl⟩ dX5_cell_34 (fun r7 u8 H locs w34 hW => ?_)
      have hW : Wd D A s.heap H locs (wX cI cZ xq xa (sF xg 6 0) xh ++ (wA cO (xa 0) ys ++ (wT cI cZ (ys j) ta tg ++ (wB cI (ta 3) bf)))) := hW
      replace w34 : r7 = nI (barF ((tg 0)) ((tg 1)) ((tg 2)) (nI ln0) i0 (nI 1)) := w34
      subst w34
      refine x_put X hW (v := .int (nI (barF ((tg 0)) ((tg 1)) ((tg 2)) (nI ln0) i0 (nI 1)))) hi5 tyX5 tyX5_ok nmX5 0 rfl rfl 6 (by decide) (List.mem_of_getElem? (i := 1) rfl) rfl rfl rfl rfl (Nat.le_of_ble_eq_true rfl) dX5_cell_37 (wX cI cZ xq xa (sF xg 6 (barF ((tg 0)) ((tg 1)) ((tg 2)) (nI ln0) i0 (nI 1))) xh ++ (wA cO (xa 0) ys ++ (wT cI cZ (ys j) ta tg ++ (wB cI (ta 3) bf)))) rfl (fun H locs hW => ?_)
      refine x_aload_n X dX5_cell_40 rfl (lv_at hl 1 rfl) ?_
      refine x_get X hW (v := .int (nI (barF ((tg 0)) ((tg 1)) ((tg 2)) (nI ln0) i0 (nI 1)))) hi5 0 rfl rfl 6 (by decide) (List.mem_of_getElem? (i := 1) rfl) rfl rfl dX5_cell_41 ?_
      have hle := barF_le (tg 0) (tg 1) (tg 2) (nI ln0) i0 (nI 1)
      rcases Nat.eq_zero_or_pos (barF (tg 0) (tg 1) (tg 2) (nI ln0) i0 (nI 1)) with hz | hz
      · obtain ⟨hb1, hb2, hb3, hb4, hb5⟩ := barF_0 hz
        rw [show (nI 1).toInt = 1 by decide] at hb5
        obtain ⟨ii, hii, rfl⟩ := inR_ex (x := i0) (n := tg 2) ⟨hb4, by omega⟩ (by omega)
        refine n_as0 (b := 0) hz ?_
        refine n_if_ne X 57 dX5_cell_44 (by decide) (by decide) (fun c44 => by exact absurd c44 (by decide)) (fun c44 => ?_)
        refine x_aload X dX5_cell_47 (lv_at hl 0 rfl) ?_
        refine x_iload_n X dX5_cell_49 rfl (lv_at hl 3 rfl) ?_
        refine x_callVi X hW (As := [.int (nI ii)]) (rest := []) (wz := fun u => (wX cI cZ xq xa (sF xg 6 (barF ((tg 0)) ((tg 1)) ((tg 2)) (nI ln0) (nI ii) (nI 1))) xh ++ (wA cO (xa 0) ys ++ (wT cI cZ (ys j) ta tg ++ (wB cI (ta 3) bf))))) (c_X3_cellAt l D cI cZ cO (ys j) ta tg bf _ ii (show ii < (tg 2) from (by first | assumption | omega)) (show (tg 2) ≤ 60 from (by first | assumption | omega))) (cwV 1 X.2.2.2.2.2.1 gX5_cell_X3_cellAt rfl rfl rfl (by decide +kernel) ⟨Nat.le_of_ble_eq_true rfl, Nat.le_of_ble_eq_true rfl⟩) 2 3 rfl rfl rfl [2, 3] [0, 1] [0, 1, 2, 3] rfl rfl (by decide) (fun _ => rfl) rfl hl.1 rfl (Nat.le_of_ble_eq_true rfl) ⟨Nat.le_of_ble_eq_true rfl, Nat.le_of_ble_eq_true rfl⟩ dX5_cell_50 (fun r9 u10 H locs w50 hW => ?_)
        have hW : Wd D A s.heap H locs (wX cI cZ xq xa (sF xg 6 (barF ((tg 0)) ((tg 1)) ((tg 2)) (nI ln0) (nI ii) (nI 1))) xh ++ (wA cO (xa 0) ys ++ (wT cI cZ (ys j) ta tg ++ (wB cI (ta 3) bf)))) := hW
        replace w50 : r9 = bf ii := w50
        subst w50
        refine x_i2l (v := (bf ii).toInt64) X dX5_cell_53 rfl ?_
        refine x_goto X 60 dX5_cell_54 (by decide) ?_
        exact x_lret X hW rfl () ((by unfold aCell; (try rw [onR_in hj4 (by decide)]); (try rw [onR_in hln0 (by omega)]); (try rw [hthj]); (try rw [hlnj]); (try rw [hctj]); (try rw [if_pos hz]); (try rw [nI_clamp (by omega)]); (try rw [← hcs (by omega) ii hii]); (try rw [hz]); (try rfl))) (congrArg (fun z => (wX cI cZ xq xa (sF xg 6 z) xh ++ (wA cO (xa 0) ys ++ (wT cI cZ (ys j) ta tg ++ (wB cI (ta 3) bf))))) (show (barF ((tg 0)) ((tg 1)) ((tg 2)) (nI ln0) (nI ii) (nI 1)) = (fCell th ln ct (nI j) (nI ii) (nI ln0)) from by unfold fCell; (try rw [onR_in hj4 (by decide)]); (try rw [onR_in hln0 (by omega)]); (try rw [hthj]); (try rw [hlnj]); (try rw [hctj]); (try rw [if_pos hz]); (try rw [nI_clamp (by omega)]); (try rw [← hcs (by omega) ii hii]); (try rw [hz]); (try rfl))) dX5_cell_60
      · have hz := Nat.ne_of_gt hz
        refine n_if_ne X 57 dX5_cell_44 (by decide) (by omega) (fun c44 => ?_) (fun c44 => by omega)
        refine x_ldc2 (v := (-9223372036854775808)) X (List.mem_of_getElem? (i := 2) rfl) dX5_cell_57 ?_
        exact x_lret X hW rfl () ((by unfold aCell; (try rw [onR_in hj4 (by decide)]); (try rw [onR_in hln0 (by omega)]); (try rw [hthj]); (try rw [hlnj]); (try rw [hctj]); (try rw [if_neg hz]); (try rfl))) (congrArg (fun z => (wX cI cZ xq xa (sF xg 6 z) xh ++ (wA cO (xa 0) ys ++ (wT cI cZ (ys j) ta tg ++ (wB cI (ta 3) bf))))) (show (barF ((tg 0)) ((tg 1)) ((tg 2)) (nI ln0) i0 (nI 1)) = (fCell th ln ct (nI j) i0 (nI ln0)) from by unfold fCell; (try rw [onR_in hj4 (by decide)]); (try rw [onR_in hln0 (by omega)]); (try rw [hthj]); (try rw [hlnj]); (try rw [hctj]); (try rw [if_neg hz]); (try rfl))) dX5_cell_60
    · subst w18
      have glane := fun q => h18 ((Iff.refl (inR lane 3)).mpr q)
      refine n_if_ne X 28 dX5_cell_21 (by decide) (by decide) (fun c21 => by exact absurd c21 (by decide)) (fun c21 => ?_)
      refine x_ldc2 (v := (-9223372036854775808)) X (List.mem_of_getElem? (i := 2) rfl) dX5_cell_24 ?_
      exact x_lret X hW rfl () ((by unfold aCell; (try rw [onR_in hj4 (by decide)]); (try rw [onR_out glane]); (try rfl))) (congrArg (fun z => (wX cI cZ xq xa (sF xg 6 z) xh ++ (wA cO (xa 0) ys ++ (wT cI cZ (ys j) ta tg ++ (wB cI (ta 3) bf))))) (show 0 = (fCell th ln ct (nI j) i0 lane) from by unfold fCell; (try rw [onR_in hj4 (by decide)]); (try rw [onR_out glane]); (try rfl))) dX5_cell_27
set_option maxHeartbeats 4000000 in
set_option maxRecDepth 100000 in
theorem c_X5_canal (l : Launch) (D : va_G) (cI cZ cO : ClassId) (xq : Nat) (xa : Nat → Nat) (xg : Nat → Nat) (xh : Nat → Int32) (ys : Nat → Nat) (ca : Nat → Nat) (cg : Nat → Nat) (cF : Nat → Nat → Nat) (ra : Nat → Nat) (rg : Nat → Nat) (rF : Nat → Nat → Nat) (rE : Nat → Nat → Int32) (ta : Nat → Nat) (tg : Nat → Nat) (bf : Nat → Int32) (sz : Nat) (k0 : Int32) (lane : Int32) (i0 : Int32) (n0 : Int32) (j : Nat) (th : Nat → Nat) (ln : Nat → Nat) (ct : Nat → Nat) (cs : Nat → Nat → Int32) (hj4 : j < 4) (hkj : ¬ inR k0 4 ∨ k0 = nI j) (hct : tg 2 ≤ 60) (hth : tg 0 ≤ 1) (hln : tg 1 ≤ 2) (hthj : th j = tg 0) (hctj : ct j = tg 2) (hlnj : ln j = tg 1) (hcs : tg 0 = 1 → ∀ z0, z0 < tg 2 → bf z0 = cs j z0) : Met l yX5_canal wsX5_canal ({ frames := 3, cells := 0, slots := 0, locals := 69 }) (va_Pc [.ref xq, .int k0, .int lane, .int i0, .int n0] (st_W D (ty3 cI cZ cO) (wX cI cZ xq xa xg xh ++ (wA cO (xa 0) ys ++ (wC cI cZ (xa 1) ca cg cF ++ (wR cI cZ (xa 3) ra rg rF rE ++ (wT cI cZ (ys j) ta tg ++ (wB cI (ta 3) bf)))))) sz)) (va_Qi (fun (rr : Int32) (u : Unit) => rr = aCanal th ln ct cs k0 lane i0 n0) (fun u t => at_W D (ty3 cI cZ cO) (va_A (wX cI cZ xq xa xg xh ++ (wA cO (xa 0) ys ++ (wC cI cZ (xa 1) ca cg cF ++ (wR cI cZ (xa 3) ra rg rF rE ++ (wT cI cZ (ys j) ta tg ++ (wB cI (ta 3) bf)))))) sz) (wX cI cZ xq xa (sF xg 6 (fCanal th ln ct k0 lane i0 n0)) xh ++ (wA cO (xa 0) ys ++ (wC cI cZ (xa 1) ca (sF (sF cg 0 (sCanal th ln ct cs k0 lane i0 n0 (cg 0) (fun _ n => (n - 2) / 4))) 1 (sCanal th ln ct cs k0 lane i0 n0 (cg 1) (fun cf _ => dgt (cf 1)))) (sF (sF (sF cF 2 (sCanal th ln ct cs k0 lane i0 n0 (cF 2) (fun cf n => cpN ((n - 2) / 4) (tK cf) (cF 2)))) 3 (sCanal th ln ct cs k0 lane i0 n0 (cF 3) (fun cf n => cpN ((n - 2) / 4) (tL cf) (cF 3)))) 4 (sCanal th ln ct cs k0 lane i0 n0 (cF 4) (fun cf n => cpN ((n - 2) / 4) (tM cf) (cF 4)))) ++ (wR cI cZ (xa 3) ra (sF rg 0 (sCanal th ln ct cs k0 lane i0 n0 (rg 0) (fun _ _ => 0))) rF rE ++ (wT cI cZ (ys j) ta tg ++ (wB cI (ta 3) bf)))))) t) (va_A (wX cI cZ xq xa xg xh ++ (wA cO (xa 0) ys ++ (wC cI cZ (xa 1) ca cg cF ++ (wR cI cZ (xa 3) ra rg rF rE ++ (wT cI cZ (ys j) ta tg ++ (wB cI (ta 3) bf)))))) sz)) 0 0 (va_A (wX cI cZ xq xa xg xh ++ (wA cO (xa 0) ys ++ (wC cI cZ (xa 1) ca cg cF ++ (wR cI cZ (xa 3) ra rg rF rE ++ (wT cI cZ (ys j) ta tg ++ (wB cI (ta 3) bf)))))) sz) := by
  refine Met.goi (cc := cX5_canal) (maxL := 8) (ret := (some .int)) (by decide) rfl (Nat.le_of_ble_eq_true rfl) (fun p e s m below meth c A ls X hW hl => ?_)
  have hi5 : ∀ w ∈ wsX50, w ∈ wsX5_canal := fun w h => List.mem_cons_of_mem _ (List.mem_append_left _ (List.mem_append_left _ (List.mem_append_left _ (List.mem_append_right _ h))))
  have hi1 : ∀ w ∈ wsX10, w ∈ wsX5_canal := fun w h => List.mem_cons_of_mem _ (List.mem_append_left _ (List.mem_append_left _ (List.mem_append_right _ h)))
  have hi0 : ∀ w ∈ wsX00, w ∈ wsX5_canal := fun w h => List.mem_cons_of_mem _ (List.mem_append_left _ (List.mem_append_right _ h))
  have hi3 : ∀ w ∈ wsX30, w ∈ wsX5_canal := fun w h => List.mem_cons_of_mem _ (List.mem_append_right _ h)
  have hl : lv_has ls 8 [(0, .ref xq), (1, .int k0), (2, .int lane), (3, .int i0), (4, .int n0)] := hl
  rcases hkj with hq | rfl
  · refine x_aload_n X dX5_canal_0 rfl (lv_at hl 0 rfl) ?_
    refine x_iconst (v := nI 0) X dX5_canal_1 (by decide) ?_
    refine x_put X hW (v := .int (nI 0)) hi5 tyX5 tyX5_ok nmX5 0 rfl rfl 6 (by decide) (List.mem_of_getElem? (i := 1) rfl) rfl rfl rfl rfl (Nat.le_of_ble_eq_true rfl) dX5_canal_2 (wX cI cZ xq xa (sF xg 6 0) xh ++ (wA cO (xa 0) ys ++ (wC cI cZ (xa 1) ca cg cF ++ (wR cI cZ (xa 3) ra rg rF rE ++ (wT cI cZ (ys j) ta tg ++ (wB cI (ta 3) bf)))))) rfl (fun H locs hW => ?_)
    refine x_aload_n X dX5_canal_5 rfl (lv_at hl 0 rfl) ?_
    refine x_iload_n X dX5_canal_6 rfl (lv_at hl 1 rfl) ?_
    refine x_callVq X hW (As := [.int k0]) (rest := []) (wz := fun u => (wX cI cZ xq xa (sF xg 6 0) xh ++ (wA cO (xa 0) ys ++ (wC cI cZ (xa 1) ca cg cF ++ (wR cI cZ (xa 3) ra rg rF rE ++ (wT cI cZ (ys j) ta tg ++ (wB cI (ta 3) bf))))))) (c_X5_sheetAt0 l D cI cZ cO xq xa (sF xg 6 0) xh ys _ k0 (show ¬ inR k0 4 from (by first | assumption | omega))) (cwV 1 X.2.2.2.2.2.1 gX5_canal_X5_sheetAt rfl rfl rfl (by decide +kernel) ⟨Nat.le_of_ble_eq_true rfl, Nat.le_of_ble_eq_true rfl⟩) 0 4 rfl rfl rfl [0, 1] [2, 3, 4, 5, 6, 7, 8, 9, 10, 11] [10, 11, 0, 1, 2, 3, 4, 5, 6, 7, 8, 9] rfl rfl (by decide) (fun _ => rfl) rfl hl.1 rfl (Nat.le_of_ble_eq_true rfl) ⟨Nat.le_of_ble_eq_true rfl, Nat.le_of_ble_eq_true rfl⟩ dX5_canal_7 (fun r1 u2 H locs w7 hW => ?_)
    have hW : Wd D A s.heap H locs (wX cI cZ xq xa (sF xg 6 0) xh ++ (wA cO (xa 0) ys ++ (wC cI cZ (xa 1) ca cg cF ++ (wR cI cZ (xa 3) ra rg rF rE ++ (wT cI cZ (ys j) ta tg ++ (wB cI (ta 3) bf)))))) := hW
    replace w7 : r1 = none := w7
    subst w7
    refine lv_astoreN (lv' := [(5, .null), (0, .ref xq), (1, .int k0), (2, .int lane), (3, .int i0), (4, .int n0)]) X.1 X.2.1 dX5_canal_10 hl (by decide) rfl (fun ls hl => ?_)
    refine lv_aloadN X.1 X.2.1 dX5_canal_12 (lv_at hl 0 rfl) ?_
    refine lv_ifnonnullN X.1 X.2.1 dX5_canal_14 ?_
    refine x_iconst (v := (-1 : Int32)) X dX5_canal_17 (by decide) ?_
    exact x_iret X hW rfl () ((by unfold aCanal; (try rw [onR_out hq]); (try rfl))) (Eq.trans (Eq.trans (Eq.trans (Eq.trans (Eq.trans (Eq.trans (congrArg (fun z => (wX cI cZ xq xa (sF xg 6 z) xh ++ (wA cO (xa 0) ys ++ (wC cI cZ (xa 1) ca cg cF ++ (wR cI cZ (xa 3) ra rg rF rE ++ (wT cI cZ (ys j) ta tg ++ (wB cI (ta 3) bf))))))) (show 0 = (fCanal th ln ct k0 lane i0 n0) from by unfold fCanal; (try rw [onR_out hq]); (try rfl))) (congrArg (fun z => (wX cI cZ xq xa (sF xg 6 (fCanal th ln ct k0 lane i0 n0)) xh ++ (wA cO (xa 0) ys ++ (wC cI cZ (xa 1) ca (sF cg 0 z) cF ++ (wR cI cZ (xa 3) ra rg rF rE ++ (wT cI cZ (ys j) ta tg ++ (wB cI (ta 3) bf))))))) (show (cg 0) = (sCanal th ln ct cs k0 lane i0 n0 (cg 0) (fun _ n => (n - 2) / 4)) from by unfold sCanal; (try rw [onR_out hq]); (try rfl)))) (congrArg (fun z => (wX cI cZ xq xa (sF xg 6 (fCanal th ln ct k0 lane i0 n0)) xh ++ (wA cO (xa 0) ys ++ (wC cI cZ (xa 1) ca (sF (sF cg 0 (sCanal th ln ct cs k0 lane i0 n0 (cg 0) (fun _ n => (n - 2) / 4))) 1 z) cF ++ (wR cI cZ (xa 3) ra rg rF rE ++ (wT cI cZ (ys j) ta tg ++ (wB cI (ta 3) bf))))))) (show (cg 1) = (sCanal th ln ct cs k0 lane i0 n0 (cg 1) (fun cf _ => dgt (cf 1))) from by unfold sCanal; (try rw [onR_out hq]); (try rfl)))) (congrArg (fun z => (wX cI cZ xq xa (sF xg 6 (fCanal th ln ct k0 lane i0 n0)) xh ++ (wA cO (xa 0) ys ++ (wC cI cZ (xa 1) ca (sF (sF cg 0 (sCanal th ln ct cs k0 lane i0 n0 (cg 0) (fun _ n => (n - 2) / 4))) 1 (sCanal th ln ct cs k0 lane i0 n0 (cg 1) (fun cf _ => dgt (cf 1)))) (sF cF 2 z) ++ (wR cI cZ (xa 3) ra rg rF rE ++ (wT cI cZ (ys j) ta tg ++ (wB cI (ta 3) bf))))))) (show (cF 2) = (sCanal th ln ct cs k0 lane i0 n0 (cF 2) (fun cf n => cpN ((n - 2) / 4) (tK cf) (cF 2))) from by unfold sCanal; (try rw [onR_out hq]); (try rfl)))) (congrArg (fun z => (wX cI cZ xq xa (sF xg 6 (fCanal th ln ct k0 lane i0 n0)) xh ++ (wA cO (xa 0) ys ++ (wC cI cZ (xa 1) ca (sF (sF cg 0 (sCanal th ln ct cs k0 lane i0 n0 (cg 0) (fun _ n => (n - 2) / 4))) 1 (sCanal th ln ct cs k0 lane i0 n0 (cg 1) (fun cf _ => dgt (cf 1)))) (sF (sF cF 2 (sCanal th ln ct cs k0 lane i0 n0 (cF 2) (fun cf n => cpN ((n - 2) / 4) (tK cf) (cF 2)))) 3 z) ++ (wR cI cZ (xa 3) ra rg rF rE ++ (wT cI cZ (ys j) ta tg ++ (wB cI (ta 3) bf))))))) (show (cF 3) = (sCanal th ln ct cs k0 lane i0 n0 (cF 3) (fun cf n => cpN ((n - 2) / 4) (tL cf) (cF 3))) from by unfold sCanal; (try rw [onR_out hq]); (try rfl)))) (congrArg (fun z => (wX cI cZ xq xa (sF xg 6 (fCanal th ln ct k0 lane i0 n0)) xh ++ (wA cO (xa 0) ys ++ (wC cI cZ (xa 1) ca (sF (sF cg 0 (sCanal th ln ct cs k0 lane i0 n0 (cg 0) (fun _ n => (n - 2) / 4))) 1 (sCanal th ln ct cs k0 lane i0 n0 (cg 1) (fun cf _ => dgt (cf 1)))) (sF (sF (sF cF 2 (sCanal th ln ct cs k0 lane i0 n0 (cF 2) (fun cf n => cpN ((n - 2) / 4) (tK cf) (cF 2)))) 3 (sCanal th ln ct cs k0 lane i0 n0 (cF 3) (fun cf n => cpN ((n - 2) / 4) (tL cf) (cF 3)))) 4 z) ++ (wR cI cZ (xa 3) ra rg rF rE ++ (wT cI cZ (ys j) ta tg ++ (wB cI (ta 3) bf))))))) (show (cF 4) = (sCanal th ln ct cs k0 lane i0 n0 (cF 4) (fun cf n => cpN ((n - 2) / 4) (tM cf) (cF 4))) from by unfold sCanal; (try rw [onR_out hq]); (try rfl)))) (congrArg (fun z => (wX cI cZ xq xa (sF xg 6 (fCanal th ln ct k0 lane i0 n0)) xh ++ (wA cO (xa 0) ys ++ (wC cI cZ (xa 1) ca (sF (sF cg 0 (sCanal th ln ct cs k0 lane i0 n0 (cg 0) (fun _ n => (n - 2) / 4))) 1 (sCanal th ln ct cs k0 lane i0 n0 (cg 1) (fun cf _ => dgt (cf 1)))) (sF (sF (sF cF 2 (sCanal th ln ct cs k0 lane i0 n0 (cF 2) (fun cf n => cpN ((n - 2) / 4) (tK cf) (cF 2)))) 3 (sCanal th ln ct cs k0 lane i0 n0 (cF 3) (fun cf n => cpN ((n - 2) / 4) (tL cf) (cF 3)))) 4 (sCanal th ln ct cs k0 lane i0 n0 (cF 4) (fun cf n => cpN ((n - 2) / 4) (tM cf) (cF 4)))) ++ (wR cI cZ (xa 3) ra (sF rg 0 z) rF rE ++ (wT cI cZ (ys j) ta tg ++ (wB cI (ta 3) bf))))))) (show (rg 0) = (sCanal th ln ct cs k0 lane i0 n0 (rg 0) (fun _ _ => 0)) from by unfold sCanal; (try rw [onR_out hq]); (try rfl)))) dX5_canal_18
  · refine x_aload_n X dX5_canal_0 rfl (lv_at hl 0 rfl) ?_
    refine x_iconst (v := nI 0) X dX5_canal_1 (by decide) ?_
    refine x_put X hW (v := .int (nI 0)) hi5 tyX5 tyX5_ok nmX5 0 rfl rfl 6 (by decide) (List.mem_of_getElem? (i := 1) rfl) rfl rfl rfl rfl (Nat.le_of_ble_eq_true rfl) dX5_canal_2 (wX cI cZ xq xa (sF xg 6 0) xh ++ (wA cO (xa 0) ys ++ (wC cI cZ (xa 1) ca cg cF ++ (wR cI cZ (xa 3) ra rg rF rE ++ (wT cI cZ (ys j) ta tg ++ (wB cI (ta 3) bf)))))) rfl (fun H locs hW => ?_)
    refine x_aload_n X dX5_canal_5 rfl (lv_at hl 0 rfl) ?_
    refine x_iload_n X dX5_canal_6 rfl (lv_at hl 1 rfl) ?_
    refine x_callVq X hW (As := [.int (nI j)]) (rest := []) (wz := fun u => (wX cI cZ xq xa (sF xg 6 0) xh ++ (wA cO (xa 0) ys ++ (wC cI cZ (xa 1) ca cg cF ++ (wR cI cZ (xa 3) ra rg rF rE ++ (wT cI cZ (ys j) ta tg ++ (wB cI (ta 3) bf))))))) (c_X5_sheetAt l D cI cZ cO xq xa (sF xg 6 0) xh ys _ j (show j < 4 from (by first | assumption | omega))) (cwV 1 X.2.2.2.2.2.1 gX5_canal_X5_sheetAt rfl rfl rfl (by decide +kernel) ⟨Nat.le_of_ble_eq_true rfl, Nat.le_of_ble_eq_true rfl⟩) 0 4 rfl rfl rfl [0, 1] [2, 3, 4, 5, 6, 7, 8, 9, 10, 11] [10, 11, 0, 1, 2, 3, 4, 5, 6, 7, 8, 9] rfl rfl (by decide) (fun _ => rfl) rfl hl.1 rfl (Nat.le_of_ble_eq_true rfl) ⟨Nat.le_of_ble_eq_true rfl, Nat.le_of_ble_eq_true rfl⟩ dX5_canal_7 (fun r3 u4 H locs w7 hW => ?_)
    have hW : Wd D A s.heap H locs (wX cI cZ xq xa (sF xg 6 0) xh ++ (wA cO (xa 0) ys ++ (wC cI cZ (xa 1) ca cg cF ++ (wR cI cZ (xa 3) ra rg rF rE ++ (wT cI cZ (ys j) ta tg ++ (wB cI (ta 3) bf)))))) := hW
    replace w7 : r3 = some (ys j) := w7
    subst w7
    refine x_astore X [(5, .ref (ys j)), (0, .ref xq), (1, .int (nI j)), (2, .int lane), (3, .int i0), (4, .int n0)] dX5_canal_10 hl (by decide) rfl (fun ls hl => ?_)
    refine x_aload X dX5_canal_12 (lv_at hl 0 rfl) ?_
    refine lv_ifnonnull (tgt := 19) X.1 X.2.1 dX5_canal_14 (by decide) ?_
    refine x_iload_n X dX5_canal_19 rfl (lv_at hl 3 rfl) ?_
    refine x_callSie X hW (As := [.int lane]) (rest := []) (c_X5_isLane l D cI cZ cO  _ lane) (va_cwS 1 X.2.2.2.2.2.1 gX5_canal_X5_isLane rfl rfl rfl (by decide +kernel) ⟨Nat.le_of_ble_eq_true rfl, Nat.le_of_ble_eq_true rfl⟩) rfl hl.1 rfl (Nat.le_of_ble_eq_true rfl) ⟨Nat.le_of_ble_eq_true rfl, Nat.le_of_ble_eq_true rfl⟩ dX5_canal_20 (fun r5 u6 H locs w20 hW => ?_)
    have hW : Wd D A s.heap H locs (wX cI cZ xq xa (sF xg 6 0) xh ++ (wA cO (xa 0) ys ++ (wC cI cZ (xa 1) ca cg cF ++ (wR cI cZ (xa 3) ra rg rF rE ++ (wT cI cZ (ys j) ta tg ++ (wB cI (ta 3) bf)))))) := hW
    replace w20 : (r5 = nI 1 ∧ (inR lane 3) ∨ r5 = nI 0 ∧ ¬ (inR lane 3)) := w20
    rcases w20 with ⟨w20, h20⟩ | ⟨w20, h20⟩
    · subst w20
      obtain ⟨ln0, hln0, rfl⟩ := inR_ex ((Iff.refl (inR lane 3)).mp h20) (by omega)
      refine n_if_ne X 29 dX5_canal_23 (by decide) (by decide) (fun c23 => ?_) (fun c23 => by exact absurd c23 (by decide))
      refine x_aload X dX5_canal_29 (lv_at hl 0 rfl) ?_
      refine x_iload_n X dX5_canal_31 rfl (lv_at hl 3 rfl) ?_
      refine x_iload_n X dX5_canal_32 rfl (lv_at hl 4 rfl) ?_
      refine x_iload X dX5_canal_33 (lv_at hl 5 rfl) ?_
      refine x_callVi X hW (As := [.int (nI ln0), .int i0, .int n0]) (rest := []) (wz := fun u => (wX cI cZ xq xa (sF xg 6 0) xh ++ (wA cO (xa 0) ys ++ (wC cI cZ (xa 1) ca cg cF ++ (wR cI cZ (xa 3) ra rg rF rE ++ (wT cI cZ (ys j) ta tg ++ (wB cI (ta 3) bf))))))) (c_X3_faultOf l D cI cZ cO (ys j) ta tg bf _ (nI ln0) i0 n0 (show (tg 2) ≤ 60 from (by first | assumption | omega)) (show (tg 0) ≤ 1 from (by first | assumption | omega))) (cwV 3 X.2.2.2.2.2.1 gX5_canal_X3_faultOf rfl rfl rfl (by decide +kernel) ⟨Nat.le_of_ble_eq_true rfl, Nat.le_of_ble_eq_true rfl⟩) 10 3 rfl rfl rfl [10, 11] [0, 1, 2, 3, 4, 5, 6, 7, 8, 9] [0, 1, 2, 3, 4, 5, 6, 7, 8, 9, 10, 11] rfl rfl (by decide) (fun _ => rfl) rfl hl.1 rfl (Nat.le_of_ble_eq_true rfl) ⟨Nat.le_of_ble_eq_true rfl, Nat.le_of_ble_eq_true rfl⟩ dX5_canal_35 (fun r7 u8 H locs w35 hW => ?_)
      have hW : Wd D A s.heap H locs (wX cI cZ xq xa (sF xg 6 0) xh ++ (wA cO (xa 0) ys ++ (wC cI cZ (xa 1) ca cg cF ++ (wR cI cZ (xa 3) ra rg rF rE ++ (wT cI cZ (ys j) ta tg ++ (wB cI (ta 3) bf)))))) := hW
      replace w35 : r7 = nI (barF ((tg 0)) ((tg 1)) ((tg 2)) (nI ln0) i0 n0) := w35
      subst w35
      refine x_istore X [(6, .int (nI (barF ((tg 0)) ((tg 1)) ((tg 2)) (nI ln0) i0 n0))), (5, .ref (ys j)), (0, .ref xq), (1, .int (nI j)), (2, .int (nI ln0)), (3, .int i0), (4, .int n0)] dX5_canal_38 hl (by decide) rfl (fun ls hl => ?_)
      refine x_iload X dX5_canal_40 (lv_at hl 0 rfl) ?_
      have hle := barF_le (tg 0) (tg 1) (tg 2) (nI ln0) i0 n0
      rcases Nat.eq_zero_or_pos (barF (tg 0) (tg 1) (tg 2) (nI ln0) i0 n0) with hz | hz
      · obtain ⟨hb1, hb2, hb3, hb4, hb5⟩ := barF_0 hz
        have hcs2 := hcs (by omega)
        obtain ⟨ii, hii, rfl⟩ := inR_ex (x := i0) (n := tg 2 + 1) ⟨hb4, by omega⟩ (by omega)
        obtain ⟨nn, hnn, rfl⟩ := inR_ex (x := n0) (n := tg 2 + 1) ⟨hb3, by omega⟩ (by omega)
        rw [nI_toInt (by omega), nI_toInt (by omega)] at hb5
        have hcf : ∀ z, z < nn → (fun z => bf (ii + z)) z = (fun z => cs j (ii + z)) z := fun z hz => hcs2 (ii + z) (by omega)
        refine n_as0 (b := 0) hz ?_
        refine n_if_eq X 52 dX5_canal_42 (by decide) (by decide) (fun c42 => ?_) (fun c42 => by exact absurd c42 (by decide))
        refine x_aload X dX5_canal_52 (lv_at hl 1 rfl) ?_
        refine x_iload_n X dX5_canal_54 rfl (lv_at hl 5 rfl) ?_
        refine x_iload X dX5_canal_55 (lv_at hl 6 rfl) ?_
        refine x_callSi X hW (As := [.ref (ys j), .int (nI ii), .int (nI nn)]) (rest := []) (wz := fun u => (wX cI cZ xq xa (sF xg 6 0) xh ++ (wA cO (xa 0) ys ++ (wC cI cZ (xa 1) ca cg cF ++ (wR cI cZ (xa 3) ra rg rF rE ++ (wT cI cZ (ys j) ta tg ++ (wB cI (ta 3) bf))))))) (c_X4_firstFault l D cI cZ cO (ys j) ta tg bf _ ii nn (show ii + nn ≤ (tg 2) from (by omega)) (show (tg 2) ≤ 60 from (by first | assumption | omega))) (va_cwS 3 X.2.2.2.2.2.1 gX5_canal_X4_firstFault rfl rfl rfl (by decide +kernel) ⟨Nat.le_of_ble_eq_true rfl, Nat.le_of_ble_eq_true rfl⟩) [10, 11] [0, 1, 2, 3, 4, 5, 6, 7, 8, 9] [0, 1, 2, 3, 4, 5, 6, 7, 8, 9, 10, 11] rfl rfl (by decide) (fun _ => rfl) rfl hl.1 rfl (Nat.le_of_ble_eq_true rfl) ⟨Nat.le_of_ble_eq_true rfl, Nat.le_of_ble_eq_true rfl⟩ dX5_canal_57 (fun r9 u10 H locs w57 hW => ?_)
        have hW : Wd D A s.heap H locs (wX cI cZ xq xa (sF xg 6 0) xh ++ (wA cO (xa 0) ys ++ (wC cI cZ (xa 1) ca cg cF ++ (wR cI cZ (xa 3) ra rg rF rE ++ (wT cI cZ (ys j) ta tg ++ (wB cI (ta 3) bf)))))) := hW
        replace w57 : (r9 = (-1 : Int32) ∧ (wholeP (fun z => bf (ii + z)) nn) ∨ r9 = nI (ffN (fun z => bf (ii + z)) nn) ∧ (¬ wholeP (fun z => bf (ii + z)) nn)) := w57
        rcases w57 with ⟨w57, h57⟩ | ⟨w57, h57⟩
        · subst w57
          have hw10 := h57.2.2.1
          refine x_istore X [(7, .int (-1 : Int32)), (6, .int (nI (barF ((tg 0)) ((tg 1)) ((tg 2)) (nI ln0) (nI ii) (nI nn)))), (5, .ref (ys j)), (0, .ref xq), (1, .int (nI j)), (2, .int (nI ln0)), (3, .int (nI ii)), (4, .int (nI nn))] dX5_canal_60 hl (by decide) rfl (fun ls hl => ?_)
          refine x_iload X dX5_canal_62 (lv_at hl 0 rfl) ?_
          refine x_iconst (v := (-1 : Int32)) X dX5_canal_64 (by decide) ?_
          refine x_icmp_eq X 74 dX5_canal_65 (by decide) (fun c65 => ?_) (fun c65 => by first | exact absurd c65 (by decide) | exact absurd (by decide) c65)
          refine x_aload X dX5_canal_74 (lv_at hl 2 rfl) ?_
          refine x_iload_n X dX5_canal_76 rfl (lv_at hl 6 rfl) ?_
          refine x_iload X dX5_canal_77 (lv_at hl 7 rfl) ?_
          refine x_aload_n X dX5_canal_79 rfl (lv_at hl 3 rfl) ?_
          refine x_get X hW (v := .ref (xa 1)) hi5 0 rfl rfl 1 (by decide) (List.mem_of_getElem? (i := 2) rfl) rfl rfl dX5_canal_80 ?_
          refine x_callSv X hW (As := [.ref (ys j), .int (nI ii), .int (nI nn), .ref (xa 1)]) (rest := []) (wz := fun u => (wX cI cZ xq xa (sF xg 6 0) xh ++ (wA cO (xa 0) ys ++ (wC cI cZ (xa 1) ca (sF (sF cg 0 ((nn - 2) / 4)) 1 (dgt ((fun z => bf (ii + z)) 1))) (sF (sF (sF cF 2 (cpN ((nn - 2) / 4) (tK (fun z => bf (ii + z))) ((cF 2)))) 3 (cpN ((nn - 2) / 4) (tL (fun z => bf (ii + z))) ((cF 3)))) 4 (cpN ((nn - 2) / 4) (tM (fun z => bf (ii + z))) ((cF 4)))) ++ (wR cI cZ (xa 3) ra rg rF rE ++ (wT cI cZ (ys j) ta tg ++ (wB cI (ta 3) bf))))))) (c_X4_take l D cI cZ cO (ys j) ta tg bf (xa 1) ca cg cF _ ii nn (show wholeP (fun z => bf (ii + z)) nn from h57) (show ii + nn ≤ (tg 2) from (by omega)) (show (tg 2) ≤ 60 from (by first | assumption | omega))) (va_cwS 4 X.2.2.2.2.2.1 gX5_canal_X4_take rfl rfl rfl (by decide +kernel) ⟨Nat.le_of_ble_eq_true rfl, Nat.le_of_ble_eq_true rfl⟩) [10, 11, 2, 3, 4, 5] [0, 1, 6, 7, 8, 9] [0, 1, 8, 9, 10, 11, 2, 3, 4, 5, 6, 7] rfl rfl (by decide) (fun _ => rfl) rfl hl.1 rfl (Nat.le_of_ble_eq_true rfl) ⟨Nat.le_of_ble_eq_true rfl, Nat.le_of_ble_eq_true rfl⟩ dX5_canal_83 (fun u12 H locs w83 hW => ?_)
          have hW : Wd D A s.heap H locs (wX cI cZ xq xa (sF xg 6 0) xh ++ (wA cO (xa 0) ys ++ (wC cI cZ (xa 1) ca (sF (sF cg 0 ((nn - 2) / 4)) 1 (dgt ((fun z => bf (ii + z)) 1))) (sF (sF (sF cF 2 (cpN ((nn - 2) / 4) (tK (fun z => bf (ii + z))) ((cF 2)))) 3 (cpN ((nn - 2) / 4) (tL (fun z => bf (ii + z))) ((cF 3)))) 4 (cpN ((nn - 2) / 4) (tM (fun z => bf (ii + z))) ((cF 4)))) ++ (wR cI cZ (xa 3) ra rg rF rE ++ (wT cI cZ (ys j) ta tg ++ (wB cI (ta 3) bf)))))) := hW
          replace w83 : True := w83
          refine x_aload_n X dX5_canal_86 rfl (lv_at hl 3 rfl) ?_
          refine x_get X hW (v := .ref (xa 3)) hi5 0 rfl rfl 3 (by decide) (List.mem_of_getElem? (i := 3) rfl) rfl rfl dX5_canal_87 ?_
          refine x_iconst (v := nI 0) X dX5_canal_90 (by decide) ?_
          refine x_put X hW (v := .int (nI 0)) hi1 tyX1 tyX1_ok nmX1 6 rfl rfl 0 (by decide) (List.mem_of_getElem? (i := 4) rfl) rfl rfl rfl rfl (Nat.le_of_ble_eq_true rfl) dX5_canal_91 (wX cI cZ xq xa (sF xg 6 0) xh ++ (wA cO (xa 0) ys ++ (wC cI cZ (xa 1) ca (sF (sF cg 0 ((nn - 2) / 4)) 1 (dgt ((fun z => bf (ii + z)) 1))) (sF (sF (sF cF 2 (cpN ((nn - 2) / 4) (tK (fun z => bf (ii + z))) ((cF 2)))) 3 (cpN ((nn - 2) / 4) (tL (fun z => bf (ii + z))) ((cF 3)))) 4 (cpN ((nn - 2) / 4) (tM (fun z => bf (ii + z))) ((cF 4)))) ++ (wR cI cZ (xa 3) ra (sF rg 0 0) rF rE ++ (wT cI cZ (ys j) ta tg ++ (wB cI (ta 3) bf)))))) rfl (fun H locs hW => ?_)
          refine x_aload_n X dX5_canal_94 rfl (lv_at hl 3 rfl) ?_
          refine x_get X hW (v := .ref (xa 1)) hi5 0 rfl rfl 1 (by decide) (List.mem_of_getElem? (i := 2) rfl) rfl rfl dX5_canal_95 ?_
          refine x_get X hW (v := .int (nI ((nn - 2) / 4))) hi0 2 rfl rfl 0 (by decide) (List.mem_of_getElem? (i := 5) rfl) rfl rfl dX5_canal_98 ?_
          exact x_iret X hW rfl () ((by unfold aCanal; (try rw [onR_in hj4 (by decide)]); (try rw [onR_in hln0 (by omega)]); (try rw [hthj]); (try rw [hlnj]); (try rw [hctj]); (try rw [if_pos hz]); (try rw [nI_clamp (show ii < 2 ^ 31 by omega)]); (try rw [nI_clamp (show nn < 2 ^ 31 by omega)]); (try rw [← txA_cg hcf]); (try rw [txA_y h57]); (try rw [if_pos ⟨hz, (wh_cg hcf).mp h57⟩]); (try rw [hz]); (try rfl))) (Eq.trans (Eq.trans (Eq.trans (Eq.trans (Eq.trans (Eq.trans (congrArg (fun z => (wX cI cZ xq xa (sF xg 6 z) xh ++ (wA cO (xa 0) ys ++ (wC cI cZ (xa 1) ca (sF (sF cg 0 ((nn - 2) / 4)) 1 (dgt ((fun z => bf (ii + z)) 1))) (sF (sF (sF cF 2 (cpN ((nn - 2) / 4) (tK (fun z => bf (ii + z))) ((cF 2)))) 3 (cpN ((nn - 2) / 4) (tL (fun z => bf (ii + z))) ((cF 3)))) 4 (cpN ((nn - 2) / 4) (tM (fun z => bf (ii + z))) ((cF 4)))) ++ (wR cI cZ (xa 3) ra (sF rg 0 0) rF rE ++ (wT cI cZ (ys j) ta tg ++ (wB cI (ta 3) bf))))))) (show 0 = (fCanal th ln ct (nI j) (nI ln0) (nI ii) (nI nn)) from by unfold fCanal; (try rw [onR_in hj4 (by decide)]); (try rw [onR_in hln0 (by omega)]); (try rw [hthj]); (try rw [hlnj]); (try rw [hctj]); (try rw [if_pos hz]); (try rw [nI_clamp (show ii < 2 ^ 31 by omega)]); (try rw [nI_clamp (show nn < 2 ^ 31 by omega)]); (try rw [← txA_cg hcf]); (try rw [txA_y h57]); (try rw [if_pos ⟨hz, (wh_cg hcf).mp h57⟩]); (try rw [hz]); (try rfl))) (congrArg (fun z => (wX cI cZ xq xa (sF xg 6 (fCanal th ln ct (nI j) (nI ln0) (nI ii) (nI nn))) xh ++ (wA cO (xa 0) ys ++ (wC cI cZ (xa 1) ca (sF (sF cg 0 z) 1 (dgt ((fun z => bf (ii + z)) 1))) (sF (sF (sF cF 2 (cpN ((nn - 2) / 4) (tK (fun z => bf (ii + z))) ((cF 2)))) 3 (cpN ((nn - 2) / 4) (tL (fun z => bf (ii + z))) ((cF 3)))) 4 (cpN ((nn - 2) / 4) (tM (fun z => bf (ii + z))) ((cF 4)))) ++ (wR cI cZ (xa 3) ra (sF rg 0 0) rF rE ++ (wT cI cZ (ys j) ta tg ++ (wB cI (ta 3) bf))))))) (show ((nn - 2) / 4) = (sCanal th ln ct cs (nI j) (nI ln0) (nI ii) (nI nn) (cg 0) (fun _ n => (n - 2) / 4)) from by unfold sCanal; (try rw [onR_in hj4 (by decide)]); (try rw [onR_in hln0 (by omega)]); (try rw [hthj]); (try rw [hlnj]); (try rw [hctj]); (try rw [if_pos hz]); (try rw [nI_clamp (show ii < 2 ^ 31 by omega)]); (try rw [nI_clamp (show nn < 2 ^ 31 by omega)]); (try rw [← txA_cg hcf]); (try rw [txA_y h57]); (try rw [if_pos ⟨hz, (wh_cg hcf).mp h57⟩]); (try rw [hz]); (try rfl)))) (congrArg (fun z => (wX cI cZ xq xa (sF xg 6 (fCanal th ln ct (nI j) (nI ln0) (nI ii) (nI nn))) xh ++ (wA cO (xa 0) ys ++ (wC cI cZ (xa 1) ca (sF (sF cg 0 (sCanal th ln ct cs (nI j) (nI ln0) (nI ii) (nI nn) (cg 0) (fun _ n => (n - 2) / 4))) 1 z) (sF (sF (sF cF 2 (cpN ((nn - 2) / 4) (tK (fun z => bf (ii + z))) ((cF 2)))) 3 (cpN ((nn - 2) / 4) (tL (fun z => bf (ii + z))) ((cF 3)))) 4 (cpN ((nn - 2) / 4) (tM (fun z => bf (ii + z))) ((cF 4)))) ++ (wR cI cZ (xa 3) ra (sF rg 0 0) rF rE ++ (wT cI cZ (ys j) ta tg ++ (wB cI (ta 3) bf))))))) (show (dgt ((fun z => bf (ii + z)) 1)) = (sCanal th ln ct cs (nI j) (nI ln0) (nI ii) (nI nn) (cg 1) (fun cf _ => dgt (cf 1))) from by unfold sCanal; (try rw [onR_in hj4 (by decide)]); (try rw [onR_in hln0 (by omega)]); (try rw [hthj]); (try rw [hlnj]); (try rw [hctj]); (try rw [if_pos hz]); (try rw [nI_clamp (show ii < 2 ^ 31 by omega)]); (try rw [nI_clamp (show nn < 2 ^ 31 by omega)]); (try rw [← txA_cg hcf]); (try rw [txA_y h57]); (try rw [if_pos ⟨hz, (wh_cg hcf).mp h57⟩]); (try rw [hz]); (try rfl); exact congrArg dgt (hcf 1 (by omega))))) (congrArg (fun z => (wX cI cZ xq xa (sF xg 6 (fCanal th ln ct (nI j) (nI ln0) (nI ii) (nI nn))) xh ++ (wA cO (xa 0) ys ++ (wC cI cZ (xa 1) ca (sF (sF cg 0 (sCanal th ln ct cs (nI j) (nI ln0) (nI ii) (nI nn) (cg 0) (fun _ n => (n - 2) / 4))) 1 (sCanal th ln ct cs (nI j) (nI ln0) (nI ii) (nI nn) (cg 1) (fun cf _ => dgt (cf 1)))) (sF (sF (sF cF 2 z) 3 (cpN ((nn - 2) / 4) (tL (fun z => bf (ii + z))) ((cF 3)))) 4 (cpN ((nn - 2) / 4) (tM (fun z => bf (ii + z))) ((cF 4)))) ++ (wR cI cZ (xa 3) ra (sF rg 0 0) rF rE ++ (wT cI cZ (ys j) ta tg ++ (wB cI (ta 3) bf))))))) (show (cpN ((nn - 2) / 4) (tK (fun z => bf (ii + z))) ((cF 2))) = (sCanal th ln ct cs (nI j) (nI ln0) (nI ii) (nI nn) (cF 2) (fun cf n => cpN ((n - 2) / 4) (tK cf) (cF 2))) from by unfold sCanal; (try rw [onR_in hj4 (by decide)]); (try rw [onR_in hln0 (by omega)]); (try rw [hthj]); (try rw [hlnj]); (try rw [hctj]); (try rw [if_pos hz]); (try rw [nI_clamp (show ii < 2 ^ 31 by omega)]); (try rw [nI_clamp (show nn < 2 ^ 31 by omega)]); (try rw [← txA_cg hcf]); (try rw [txA_y h57]); (try rw [if_pos ⟨hz, (wh_cg hcf).mp h57⟩]); (try rw [hz]); (try rfl); exact cpN_cg (fun i hi => congrArg kl (hcf _ (by omega)))))) (congrArg (fun z => (wX cI cZ xq xa (sF xg 6 (fCanal th ln ct (nI j) (nI ln0) (nI ii) (nI nn))) xh ++ (wA cO (xa 0) ys ++ (wC cI cZ (xa 1) ca (sF (sF cg 0 (sCanal th ln ct cs (nI j) (nI ln0) (nI ii) (nI nn) (cg 0) (fun _ n => (n - 2) / 4))) 1 (sCanal th ln ct cs (nI j) (nI ln0) (nI ii) (nI nn) (cg 1) (fun cf _ => dgt (cf 1)))) (sF (sF (sF cF 2 (sCanal th ln ct cs (nI j) (nI ln0) (nI ii) (nI nn) (cF 2) (fun cf n => cpN ((n - 2) / 4) (tK cf) (cF 2)))) 3 z) 4 (cpN ((nn - 2) / 4) (tM (fun z => bf (ii + z))) ((cF 4)))) ++ (wR cI cZ (xa 3) ra (sF rg 0 0) rF rE ++ (wT cI cZ (ys j) ta tg ++ (wB cI (ta 3) bf))))))) (show (cpN ((nn - 2) / 4) (tL (fun z => bf (ii + z))) ((cF 3))) = (sCanal th ln ct cs (nI j) (nI ln0) (nI ii) (nI nn) (cF 3) (fun cf n => cpN ((n - 2) / 4) (tL cf) (cF 3))) from by unfold sCanal; (try rw [onR_in hj4 (by decide)]); (try rw [onR_in hln0 (by omega)]); (try rw [hthj]); (try rw [hlnj]); (try rw [hctj]); (try rw [if_pos hz]); (try rw [nI_clamp (show ii < 2 ^ 31 by omega)]); (try rw [nI_clamp (show nn < 2 ^ 31 by omega)]); (try rw [← txA_cg hcf]); (try rw [txA_y h57]); (try rw [if_pos ⟨hz, (wh_cg hcf).mp h57⟩]); (try rw [hz]); (try rfl); exact cpN_cg (fun i hi => congrArg dgt (hcf _ (by omega)))))) (congrArg (fun z => (wX cI cZ xq xa (sF xg 6 (fCanal th ln ct (nI j) (nI ln0) (nI ii) (nI nn))) xh ++ (wA cO (xa 0) ys ++ (wC cI cZ (xa 1) ca (sF (sF cg 0 (sCanal th ln ct cs (nI j) (nI ln0) (nI ii) (nI nn) (cg 0) (fun _ n => (n - 2) / 4))) 1 (sCanal th ln ct cs (nI j) (nI ln0) (nI ii) (nI nn) (cg 1) (fun cf _ => dgt (cf 1)))) (sF (sF (sF cF 2 (sCanal th ln ct cs (nI j) (nI ln0) (nI ii) (nI nn) (cF 2) (fun cf n => cpN ((n - 2) / 4) (tK cf) (cF 2)))) 3 (sCanal th ln ct cs (nI j) (nI ln0) (nI ii) (nI nn) (cF 3) (fun cf n => cpN ((n - 2) / 4) (tL cf) (cF 3)))) 4 z) ++ (wR cI cZ (xa 3) ra (sF rg 0 0) rF rE ++ (wT cI cZ (ys j) ta tg ++ (wB cI (ta 3) bf))))))) (show (cpN ((nn - 2) / 4) (tM (fun z => bf (ii + z))) ((cF 4))) = (sCanal th ln ct cs (nI j) (nI ln0) (nI ii) (nI nn) (cF 4) (fun cf n => cpN ((n - 2) / 4) (tM cf) (cF 4))) from by unfold sCanal; (try rw [onR_in hj4 (by decide)]); (try rw [onR_in hln0 (by omega)]); (try rw [hthj]); (try rw [hlnj]); (try rw [hctj]); (try rw [if_pos hz]); (try rw [nI_clamp (show ii < 2 ^ 31 by omega)]); (try rw [nI_clamp (show nn < 2 ^ 31 by omega)]); (try rw [← txA_cg hcf]); (try rw [txA_y h57]); (try rw [if_pos ⟨hz, (wh_cg hcf).mp h57⟩]); (try rw [hz]); (try rfl); exact cpN_cg (fun i hi => congrArg dgt (hcf _ (by omega)))))) (congrArg (fun z => (wX cI cZ xq xa (sF xg 6 (fCanal th ln ct (nI j) (nI ln0) (nI ii) (nI nn))) xh ++ (wA cO (xa 0) ys ++ (wC cI cZ (xa 1) ca (sF (sF cg 0 (sCanal th ln ct cs (nI j) (nI ln0) (nI ii) (nI nn) (cg 0) (fun _ n => (n - 2) / 4))) 1 (sCanal th ln ct cs (nI j) (nI ln0) (nI ii) (nI nn) (cg 1) (fun cf _ => dgt (cf 1)))) (sF (sF (sF cF 2 (sCanal th ln ct cs (nI j) (nI ln0) (nI ii) (nI nn) (cF 2) (fun cf n => cpN ((n - 2) / 4) (tK cf) (cF 2)))) 3 (sCanal th ln ct cs (nI j) (nI ln0) (nI ii) (nI nn) (cF 3) (fun cf n => cpN ((n - 2) / 4) (tL cf) (cF 3)))) 4 (sCanal th ln ct cs (nI j) (nI ln0) (nI ii) (nI nn) (cF 4) (fun cf n => cpN ((n - 2) / 4) (tM cf) (cF 4)))) ++ (wR cI cZ (xa 3) ra (sF rg 0 z) rF rE ++ (wT cI cZ (ys j) ta tg ++ (wB cI (ta 3) bf))))))) (show 0 = (sCanal th ln ct cs (nI j) (nI ln0) (nI ii) (nI nn) (rg 0) (fun _ _ => 0)) from by unfold sCanal; (try rw [onR_in hj4 (by decide)]); (try rw [onR_in hln0 (by omega)]); (try rw [hthj]); (try rw [hlnj]); (try rw [hctj]); (try rw [if_pos hz]); (try rw [nI_clamp (show ii < 2 ^ 31 by omega)]); (try rw [nI_clamp (show nn < 2 ^ 31 by omega)]); (try rw [← txA_cg hcf]); (try rw [txA_y h57]); (try rw [if_pos ⟨hz, (wh_cg hcf).mp h57⟩]); (try rw [hz]); (try rfl)))) dX5_canal_101
        · subst w57
          have h18 := ffN_le h57
          refine x_istore X [(7, .int (nI (ffN (fun z => bf (ii + z)) nn))), (6, .int (nI (barF ((tg 0)) ((tg 1)) ((tg 2)) (nI ln0) (nI ii) (nI nn)))), (5, .ref (ys j)), (0, .ref xq), (1, .int (nI j)), (2, .int (nI ln0)), (3, .int (nI ii)), (4, .int (nI nn))] dX5_canal_60 hl (by decide) rfl (fun ls hl => ?_)
          refine x_iload X dX5_canal_62 (lv_at hl 0 rfl) ?_
          refine x_iconst (v := (-1 : Int32)) X dX5_canal_64 (by decide) ?_
          refine x_icmp_eq X 74 dX5_canal_65 (by decide) (fun c65 => by exact absurd c65 (nI_n1 (by omega))) (fun c65 => ?_)
          refine x_bipush (v := (-100 : Int32)) X dX5_canal_68 (by decide) ?_
          refine x_iload X dX5_canal_70 (lv_at hl 0 rfl) ?_
          refine x_isub (v := (-100 : Int32) - (nI (ffN (fun z => bf (ii + z)) nn))) X dX5_canal_72 rfl ?_
          exact x_iret X hW rfl () ((by unfold aCanal; (try rw [onR_in hj4 (by decide)]); (try rw [onR_in hln0 (by omega)]); (try rw [hthj]); (try rw [hlnj]); (try rw [hctj]); (try rw [if_pos hz]); (try rw [nI_clamp (show ii < 2 ^ 31 by omega)]); (try rw [nI_clamp (show nn < 2 ^ 31 by omega)]); (try rw [← txA_cg hcf]); (try rw [txA_no h57]); (try rw [if_neg (fun q => h57 ((wh_cg hcf).mpr q.2))]); (try rw [hz]); (try rfl))) (Eq.trans (Eq.trans (Eq.trans (Eq.trans (Eq.trans (Eq.trans (congrArg (fun z => (wX cI cZ xq xa (sF xg 6 z) xh ++ (wA cO (xa 0) ys ++ (wC cI cZ (xa 1) ca cg cF ++ (wR cI cZ (xa 3) ra rg rF rE ++ (wT cI cZ (ys j) ta tg ++ (wB cI (ta 3) bf))))))) (show 0 = (fCanal th ln ct (nI j) (nI ln0) (nI ii) (nI nn)) from by unfold fCanal; (try rw [onR_in hj4 (by decide)]); (try rw [onR_in hln0 (by omega)]); (try rw [hthj]); (try rw [hlnj]); (try rw [hctj]); (try rw [if_pos hz]); (try rw [nI_clamp (show ii < 2 ^ 31 by omega)]); (try rw [nI_clamp (show nn < 2 ^ 31 by omega)]); (try rw [← txA_cg hcf]); (try rw [txA_no h57]); (try rw [if_neg (fun q => h57 ((wh_cg hcf).mpr q.2))]); (try rw [hz]); (try rfl))) (congrArg (fun z => (wX cI cZ xq xa (sF xg 6 (fCanal th ln ct (nI j) (nI ln0) (nI ii) (nI nn))) xh ++ (wA cO (xa 0) ys ++ (wC cI cZ (xa 1) ca (sF cg 0 z) cF ++ (wR cI cZ (xa 3) ra rg rF rE ++ (wT cI cZ (ys j) ta tg ++ (wB cI (ta 3) bf))))))) (show (cg 0) = (sCanal th ln ct cs (nI j) (nI ln0) (nI ii) (nI nn) (cg 0) (fun _ n => (n - 2) / 4)) from by unfold sCanal; (try rw [onR_in hj4 (by decide)]); (try rw [onR_in hln0 (by omega)]); (try rw [hthj]); (try rw [hlnj]); (try rw [hctj]); (try rw [if_pos hz]); (try rw [nI_clamp (show ii < 2 ^ 31 by omega)]); (try rw [nI_clamp (show nn < 2 ^ 31 by omega)]); (try rw [← txA_cg hcf]); (try rw [txA_no h57]); (try rw [if_neg (fun q => h57 ((wh_cg hcf).mpr q.2))]); (try rw [hz]); (try rfl)))) (congrArg (fun z => (wX cI cZ xq xa (sF xg 6 (fCanal th ln ct (nI j) (nI ln0) (nI ii) (nI nn))) xh ++ (wA cO (xa 0) ys ++ (wC cI cZ (xa 1) ca (sF (sF cg 0 (sCanal th ln ct cs (nI j) (nI ln0) (nI ii) (nI nn) (cg 0) (fun _ n => (n - 2) / 4))) 1 z) cF ++ (wR cI cZ (xa 3) ra rg rF rE ++ (wT cI cZ (ys j) ta tg ++ (wB cI (ta 3) bf))))))) (show (cg 1) = (sCanal th ln ct cs (nI j) (nI ln0) (nI ii) (nI nn) (cg 1) (fun cf _ => dgt (cf 1))) from by unfold sCanal; (try rw [onR_in hj4 (by decide)]); (try rw [onR_in hln0 (by omega)]); (try rw [hthj]); (try rw [hlnj]); (try rw [hctj]); (try rw [if_pos hz]); (try rw [nI_clamp (show ii < 2 ^ 31 by omega)]); (try rw [nI_clamp (show nn < 2 ^ 31 by omega)]); (try rw [← txA_cg hcf]); (try rw [txA_no h57]); (try rw [if_neg (fun q => h57 ((wh_cg hcf).mpr q.2))]); (try rw [hz]); (try rfl)))) (congrArg (fun z => (wX cI cZ xq xa (sF xg 6 (fCanal th ln ct (nI j) (nI ln0) (nI ii) (nI nn))) xh ++ (wA cO (xa 0) ys ++ (wC cI cZ (xa 1) ca (sF (sF cg 0 (sCanal th ln ct cs (nI j) (nI ln0) (nI ii) (nI nn) (cg 0) (fun _ n => (n - 2) / 4))) 1 (sCanal th ln ct cs (nI j) (nI ln0) (nI ii) (nI nn) (cg 1) (fun cf _ => dgt (cf 1)))) (sF cF 2 z) ++ (wR cI cZ (xa 3) ra rg rF rE ++ (wT cI cZ (ys j) ta tg ++ (wB cI (ta 3) bf))))))) (show (cF 2) = (sCanal th ln ct cs (nI j) (nI ln0) (nI ii) (nI nn) (cF 2) (fun cf n => cpN ((n - 2) / 4) (tK cf) (cF 2))) from by unfold sCanal; (try rw [onR_in hj4 (by decide)]); (try rw [onR_in hln0 (by omega)]); (try rw [hthj]); (try rw [hlnj]); (try rw [hctj]); (try rw [if_pos hz]); (try rw [nI_clamp (show ii < 2 ^ 31 by omega)]); (try rw [nI_clamp (show nn < 2 ^ 31 by omega)]); (try rw [← txA_cg hcf]); (try rw [txA_no h57]); (try rw [if_neg (fun q => h57 ((wh_cg hcf).mpr q.2))]); (try rw [hz]); (try rfl)))) (congrArg (fun z => (wX cI cZ xq xa (sF xg 6 (fCanal th ln ct (nI j) (nI ln0) (nI ii) (nI nn))) xh ++ (wA cO (xa 0) ys ++ (wC cI cZ (xa 1) ca (sF (sF cg 0 (sCanal th ln ct cs (nI j) (nI ln0) (nI ii) (nI nn) (cg 0) (fun _ n => (n - 2) / 4))) 1 (sCanal th ln ct cs (nI j) (nI ln0) (nI ii) (nI nn) (cg 1) (fun cf _ => dgt (cf 1)))) (sF (sF cF 2 (sCanal th ln ct cs (nI j) (nI ln0) (nI ii) (nI nn) (cF 2) (fun cf n => cpN ((n - 2) / 4) (tK cf) (cF 2)))) 3 z) ++ (wR cI cZ (xa 3) ra rg rF rE ++ (wT cI cZ (ys j) ta tg ++ (wB cI (ta 3) bf))))))) (show (cF 3) = (sCanal th ln ct cs (nI j) (nI ln0) (nI ii) (nI nn) (cF 3) (fun cf n => cpN ((n - 2) / 4) (tL cf) (cF 3))) from by unfold sCanal; (try rw [onR_in hj4 (by decide)]); (try rw [onR_in hln0 (by omega)]); (try rw [hthj]); (try rw [hlnj]); (try rw [hctj]); (try rw [if_pos hz]); (try rw [nI_clamp (show ii < 2 ^ 31 by omega)]); (try rw [nI_clamp (show nn < 2 ^ 31 by omega)]); (try rw [← txA_cg hcf]); (try rw [txA_no h57]); (try rw [if_neg (fun q => h57 ((wh_cg hcf).mpr q.2))]); (try rw [hz]); (try rfl)))) (congrArg (fun z => (wX cI cZ xq xa (sF xg 6 (fCanal th ln ct (nI j) (nI ln0) (nI ii) (nI nn))) xh ++ (wA cO (xa 0) ys ++ (wC cI cZ (xa 1) ca (sF (sF cg 0 (sCanal th ln ct cs (nI j) (nI ln0) (nI ii) (nI nn) (cg 0) (fun _ n => (n - 2) / 4))) 1 (sCanal th ln ct cs (nI j) (nI ln0) (nI ii) (nI nn) (cg 1) (fun cf _ => dgt (cf 1)))) (sF (sF (sF cF 2 (sCanal th ln ct cs (nI j) (nI ln0) (nI ii) (nI nn) (cF 2) (fun cf n => cpN ((n - 2) / 4) (tK cf) (cF 2)))) 3 (sCanal th ln ct cs (nI j) (nI ln0) (nI ii) (nI nn) (cF 3) (fun cf n => cpN ((n - 2) / 4) (tL cf) (cF 3)))) 4 z) ++ (wR cI cZ (xa 3) ra rg rF rE ++ (wT cI cZ (ys j) ta tg ++ (wB cI (ta 3) bf))))))) (show (cF 4) = (sCanal th ln ct cs (nI j) (nI ln0) (nI ii) (nI nn) (cF 4) (fun cf n => cpN ((n - 2) / 4) (tM cf) (cF 4))) from by unfold sCanal; (try rw [onR_in hj4 (by decide)]); (try rw [onR_in hln0 (by omega)]); (try rw [hthj]); (try rw [hlnj]); (try rw [hctj]); (try rw [if_pos hz]); (try rw [nI_clamp (show ii < 2 ^ 31 by omega)]); (try rw [nI_clamp (show nn < 2 ^ 31 by omega)]); (try rw [← txA_cg hcf]); (try rw [txA_no h57]); (try rw [if_neg (fun q => h57 ((wh_cg hcf).mpr q.2))]); (try rw [hz]); (try rfl)))) (congrArg (fun z => (wX cI cZ xq xa (sF xg 6 (fCanal th ln ct (nI j) (nI ln0) (nI ii) (nI nn))) xh ++ (wA cO (xa 0) ys ++ (wC cI cZ (xa 1) ca (sF (sF cg 0 (sCanal th ln ct cs (nI j) (nI ln0) (nI ii) (nI nn) (cg 0) (fun _ n => (n - 2) / 4))) 1 (sCanal th ln ct cs (nI j) (nI ln0) (nI ii) (nI nn) (cg 1) (fun cf _ => dgt (cf 1)))) (sF (sF (sF cF 2 (sCanal th ln ct cs (nI j) (nI ln0) (nI ii) (nI nn) (cF 2) (fun cf n => cpN ((n - 2) / 4) (tK cf) (cF 2)))) 3 (sCanal th ln ct cs (nI j) (nI ln0) (nI ii) (nI nn) (cF 3) (fun cf n => cpN ((n - 2) / 4) (tL cf) (cF 3)))) 4 (sCanal th ln ct cs (nI j) (nI ln0) (nI ii) (nI nn) (cF 4) (fun cf n => cpN ((n - 2) / 4) (tM cf) (cF 4)))) ++ (wR cI cZ (xa 3) ra (sF rg 0 z) rF rE ++ (wT cI cZ (ys j) ta tg ++ (wB cI (ta 3) bf))))))) (show (rg 0) = (sCanal th ln ct cs (nI j) (nI ln0) (nI ii) (nI nn) (rg 0) (fun _ _ => 0)) from by unfold sCanal; (try rw [onR_in hj4 (by decide)]); (try rw [onR_in hln0 (by omega)]); (try rw [hthj]); (try rw [hlnj]); (try rw [hctj]); (try rw [if_pos hz]); (try rw [nI_clamp (show ii < 2 ^ 31 by omega)]); (try rw [nI_clamp (show nn < 2 ^ 31 by omega)]); (try rw [← txA_cg hcf]); (try rw [txA_no h57]); (try rw [if_neg (fun q => h57 ((wh_cg hcf).mpr q.2))]); (try rw [hz]); (try rfl)))) dX5_canal_73
      · have hz := Nat.ne_of_gt hz
        refine n_if_eq X 52 dX5_canal_42 (by decide) (by omega) (fun c42 => by omega) (fun c42 => ?_)
        refine x_aload_n X dX5_canal_45 rfl (lv_at hl 2 rfl) ?_
        refine x_iload X dX5_canal_46 (lv_at hl 0 rfl) ?_
        refine x_callVi X hW (As := [.int (nI (barF ((tg 0)) ((tg 1)) ((tg 2)) (nI ln0) i0 n0))]) (rest := []) (wz := fun u => (wX cI cZ xq xa (sF xg 6 (barF ((tg 0)) ((tg 1)) ((tg 2)) (nI ln0) i0 n0)) xh ++ (wA cO (xa 0) ys ++ (wC cI cZ (xa 1) ca cg cF ++ (wR cI cZ (xa 3) ra rg rF rE ++ (wT cI cZ (ys j) ta tg ++ (wB cI (ta 3) bf))))))) (c_X5_faulted l D cI cZ cO xq xa (sF xg 6 0) xh _ (barF ((tg 0)) ((tg 1)) ((tg 2)) (nI ln0) i0 n0)) (cwV 1 X.2.2.2.2.2.1 gX5_canal_X5_faulted rfl rfl rfl (by decide +kernel) ⟨Nat.le_of_ble_eq_true rfl, Nat.le_of_ble_eq_true rfl⟩) 0 4 rfl rfl rfl [0] [1, 2, 3, 4, 5, 6, 7, 8, 9, 10, 11] [11, 0, 1, 2, 3, 4, 5, 6, 7, 8, 9, 10] rfl rfl (by decide) (fun _ => rfl) rfl hl.1 rfl (Nat.le_of_ble_eq_true rfl) ⟨Nat.le_of_ble_eq_true rfl, Nat.le_of_ble_eq_true rfl⟩ dX5_canal_48 (fun r13 u14 H locs w48 hW => ?_)
        have hW : Wd D A s.heap H locs (wX cI cZ xq xa (sF xg 6 (barF ((tg 0)) ((tg 1)) ((tg 2)) (nI ln0) i0 n0)) xh ++ (wA cO (xa 0) ys ++ (wC cI cZ (xa 1) ca cg cF ++ (wR cI cZ (xa 3) ra rg rF rE ++ (wT cI cZ (ys j) ta tg ++ (wB cI (ta 3) bf)))))) := hW
        replace w48 : r13 = (-10) - nI (barF ((tg 0)) ((tg 1)) ((tg 2)) (nI ln0) i0 n0) := w48
        subst w48
        exact x_iret X hW rfl () ((by unfold aCanal; (try rw [onR_in hj4 (by decide)]); (try rw [onR_in hln0 (by omega)]); (try rw [hthj]); (try rw [hlnj]); (try rw [hctj]); (try rw [if_neg hz]); (try rw [if_neg (fun q => hz q.1)]); (try rfl))) (Eq.trans (Eq.trans (Eq.trans (Eq.trans (Eq.trans (Eq.trans (congrArg (fun z => (wX cI cZ xq xa (sF xg 6 z) xh ++ (wA cO (xa 0) ys ++ (wC cI cZ (xa 1) ca cg cF ++ (wR cI cZ (xa 3) ra rg rF rE ++ (wT cI cZ (ys j) ta tg ++ (wB cI (ta 3) bf))))))) (show (barF ((tg 0)) ((tg 1)) ((tg 2)) (nI ln0) i0 n0) = (fCanal th ln ct (nI j) (nI ln0) i0 n0) from by unfold fCanal; (try rw [onR_in hj4 (by decide)]); (try rw [onR_in hln0 (by omega)]); (try rw [hthj]); (try rw [hlnj]); (try rw [hctj]); (try rw [if_neg hz]); (try rw [if_neg (fun q => hz q.1)]); (try rfl))) (congrArg (fun z => (wX cI cZ xq xa (sF xg 6 (fCanal th ln ct (nI j) (nI ln0) i0 n0)) xh ++ (wA cO (xa 0) ys ++ (wC cI cZ (xa 1) ca (sF cg 0 z) cF ++ (wR cI cZ (xa 3) ra rg rF rE ++ (wT cI cZ (ys j) ta tg ++ (wB cI (ta 3) bf))))))) (show (cg 0) = (sCanal th ln ct cs (nI j) (nI ln0) i0 n0 (cg 0) (fun _ n => (n - 2) / 4)) from by unfold sCanal; (try rw [onR_in hj4 (by decide)]); (try rw [onR_in hln0 (by omega)]); (try rw [hthj]); (try rw [hlnj]); (try rw [hctj]); (try rw [if_neg hz]); (try rw [if_neg (fun q => hz q.1)]); (try rfl)))) (congrArg (fun z => (wX cI cZ xq xa (sF xg 6 (fCanal th ln ct (nI j) (nI ln0) i0 n0)) xh ++ (wA cO (xa 0) ys ++ (wC cI cZ (xa 1) ca (sF (sF cg 0 (sCanal th ln ct cs (nI j) (nI ln0) i0 n0 (cg 0) (fun _ n => (n - 2) / 4))) 1 z) cF ++ (wR cI cZ (xa 3) ra rg rF rE ++ (wT cI cZ (ys j) ta tg ++ (wB cI (ta 3) bf))))))) (show (cg 1) = (sCanal th ln ct cs (nI j) (nI ln0) i0 n0 (cg 1) (fun cf _ => dgt (cf 1))) from by unfold sCanal; (try rw [onR_in hj4 (by decide)]); (try rw [onR_in hln0 (by omega)]); (try rw [hthj]); (try rw [hlnj]); (try rw [hctj]); (try rw [if_neg hz]); (try rw [if_neg (fun q => hz q.1)]); (try rfl)))) (congrArg (fun z => (wX cI cZ xq xa (sF xg 6 (fCanal th ln ct (nI j) (nI ln0) i0 n0)) xh ++ (wA cO (xa 0) ys ++ (wC cI cZ (xa 1) ca (sF (sF cg 0 (sCanal th ln ct cs (nI j) (nI ln0) i0 n0 (cg 0) (fun _ n => (n - 2) / 4))) 1 (sCanal th ln ct cs (nI j) (nI ln0) i0 n0 (cg 1) (fun cf _ => dgt (cf 1)))) (sF cF 2 z) ++ (wR cI cZ (xa 3) ra rg rF rE ++ (wT cI cZ (ys j) ta tg ++ (wB cI (ta 3) bf))))))) (show (cF 2) = (sCanal th ln ct cs (nI j) (nI ln0) i0 n0 (cF 2) (fun cf n => cpN ((n - 2) / 4) (tK cf) (cF 2))) from by unfold sCanal; (try rw [onR_in hj4 (by decide)]); (try rw [onR_in hln0 (by omega)]); (try rw [hthj]); (try rw [hlnj]); (try rw [hctj]); (try rw [if_neg hz]); (try rw [if_neg (fun q => hz q.1)]); (try rfl)))) (congrArg (fun z => (wX cI cZ xq xa (sF xg 6 (fCanal th ln ct (nI j) (nI ln0) i0 n0)) xh ++ (wA cO (xa 0) ys ++ (wC cI cZ (xa 1) ca (sF (sF cg 0 (sCanal th ln ct cs (nI j) (nI ln0) i0 n0 (cg 0) (fun _ n => (n - 2) / 4))) 1 (sCanal th ln ct cs (nI j) (nI ln0) i0 n0 (cg 1) (fun cf _ => dgt (cf 1)))) (sF (sF cF 2 (sCanal th ln ct cs (nI j) (nI ln0) i0 n0 (cF 2) (fun cf n => cpN ((n - 2) / 4) (tK cf) (cF 2)))) 3 z) ++ (wR cI cZ (xa 3) ra rg rF rE ++ (wT cI cZ (ys j) ta tg ++ (wB cI (ta 3) bf))))))) (show (cF 3) = (sCanal th ln ct cs (nI j) (nI ln0) i0 n0 (cF 3) (fun cf n => cpN ((n - 2) / 4) (tL cf) (cF 3))) from by unfold sCanal; (try rw [onR_in hj4 (by decide)]); (try rw [onR_in hln0 (by omega)]); (try rw [hthj]); (try rw [hlnj]); (try rw [hctj]); (try rw [if_neg hz]); (try rw [if_neg (fun q => hz q.1)]); (try rfl)))) (congrArg (fun z => (wX cI cZ xq xa (sF xg 6 (fCanal th ln ct (nI j) (nI ln0) i0 n0)) xh ++ (wA cO (xa 0) ys ++ (wC cI cZ (xa 1) ca (sF (sF cg 0 (sCanal th ln ct cs (nI j) (nI ln0) i0 n0 (cg 0) (fun _ n => (n - 2) / 4))) 1 (sCanal th ln ct cs (nI j) (nI ln0) i0 n0 (cg 1) (fun cf _ => dgt (cf 1)))) (sF (sF (sF cF 2 (sCanal th ln ct cs (nI j) (nI ln0) i0 n0 (cF 2) (fun cf n => cpN ((n - 2) / 4) (tK cf) (cF 2)))) 3 (sCanal th ln ct cs (nI j) (nI ln0) i0 n0 (cF 3) (fun cf n => cpN ((n - 2) / 4) (tL cf) (cF 3)))) 4 z) ++ (wR cI cZ (xa 3) ra rg rF rE ++ (wT cI cZ (ys j) ta tg ++ (wB cI (ta 3) bf))))))) (show (cF 4) = (sCanal th ln ct cs (nI j) (nI ln0) i0 n0 (cF 4) (fun cf n => cpN ((n - 2) / 4) (tM cf) (cF 4))) from by unfold sCanal; (try rw [onR_in hj4 (by decide)]); (try rw [onR_in hln0 (by omega)]); (try rw [hthj]); (try rw [hlnj]); (try rw [hctj]); (try rw [if_neg hz]); (try rw [if_neg (fun q => hz q.1)]); (try rfl)))) (congrArg (fun z => (wX cI cZ xq xa (sF xg 6 (fCanal th ln ct (nI j) (nI ln0) i0 n0)) xh ++ (wA cO (xa 0) ys ++ (wC cI cZ (xa 1) ca (sF (sF cg 0 (sCanal th ln ct cs (nI j) (nI ln0) i0 n0 (cg 0) (fun _ n => (n - 2) / 4))) 1 (sCanal th ln ct cs (nI j) (nI ln0) i0 n0 (cg 1) (fun cf _ => dgt (cf 1)))) (sF (sF (sF cF 2 (sCanal th ln ct cs (nI j) (nI ln0) i0 n0 (cF 2) (fun cf n => cpN ((n - 2) / 4) (tK cf) (cF 2)))) 3 (sCanal th ln ct cs (nI j) (nI ln0) i0 n0 (cF 3) (fun cf n => cpN ((n - 2) / 4) (tL cf) (cF 3)))) 4 (sCanal th ln ct cs (nI j) (nI ln0) i0 n0 (cF 4) (fun cf n => cpN ((n - 2) / 4) (tM cf) (cF 4)))) ++ (wR cI cZ (xa 3) ra (sF rg 0 z) rF rE ++ (wT cI cZ (ys j) ta tg ++ (wB cI (ta 3) bf))))))) (show (rg 0) = (sCanal th ln ct cs (nI j) (nI ln0) i0 n0 (rg 0) (fun _ _ => 0)) from by unfold sCanal; (try rw [onR_in hj4 (by decide)]); (try rw [onR_in hln0 (by omega)]); (try rw [hthj]); (try rw [hlnj]); (try rw [hctj]); (try rw [if_neg hz]); (try rw [if_neg (fun q => hz q.1)]); (try rfl)))) dX5_canal_51
    · subst w20
      have glane := fun q => h20 ((Iff.refl (inR lane 3)).mpr q)
      refine n_if_ne X 29 dX5_canal_23 (by decide) (by decide) (fun c23 => by exact absurd c23 (by decide)) (fun c23 => ?_)
      refine x_bipush (v := (-2 : Int32)) X dX5_canal_26 (by decide) ?_
      exact x_iret X hW rfl () ((by unfold aCanal; (try rw [onR_in hj4 (by decide)]); (try rw [onR_out glane]); (try rfl))) (Eq.trans (Eq.trans (Eq.trans (Eq.trans (Eq.trans (Eq.trans (congrArg (fun z => (wX cI cZ xq xa (sF xg 6 z) xh ++ (wA cO (xa 0) ys ++ (wC cI cZ (xa 1) ca cg cF ++ (wR cI cZ (xa 3) ra rg rF rE ++ (wT cI cZ (ys j) ta tg ++ (wB cI (ta 3) bf))))))) (show 0 = (fCanal th ln ct (nI j) lane i0 n0) from by unfold fCanal; (try rw [onR_in hj4 (by decide)]); (try rw [onR_out glane]); (try rfl))) (congrArg (fun z => (wX cI cZ xq xa (sF xg 6 (fCanal th ln ct (nI j) lane i0 n0)) xh ++ (wA cO (xa 0) ys ++ (wC cI cZ (xa 1) ca (sF cg 0 z) cF ++ (wR cI cZ (xa 3) ra rg rF rE ++ (wT cI cZ (ys j) ta tg ++ (wB cI (ta 3) bf))))))) (show (cg 0) = (sCanal th ln ct cs (nI j) lane i0 n0 (cg 0) (fun _ n => (n - 2) / 4)) from by unfold sCanal; (try rw [onR_in hj4 (by decide)]); (try rw [onR_out glane]); (try rfl)))) (congrArg (fun z => (wX cI cZ xq xa (sF xg 6 (fCanal th ln ct (nI j) lane i0 n0)) xh ++ (wA cO (xa 0) ys ++ (wC cI cZ (xa 1) ca (sF (sF cg 0 (sCanal th ln ct cs (nI j) lane i0 n0 (cg 0) (fun _ n => (n - 2) / 4))) 1 z) cF ++ (wR cI cZ (xa 3) ra rg rF rE ++ (wT cI cZ (ys j) ta tg ++ (wB cI (ta 3) bf))))))) (show (cg 1) = (sCanal th ln ct cs (nI j) lane i0 n0 (cg 1) (fun cf _ => dgt (cf 1))) from by unfold sCanal; (try rw [onR_in hj4 (by decide)]); (try rw [onR_out glane]); (try rfl)))) (congrArg (fun z => (wX cI cZ xq xa (sF xg 6 (fCanal th ln ct (nI j) lane i0 n0)) xh ++ (wA cO (xa 0) ys ++ (wC cI cZ (xa 1) ca (sF (sF cg 0 (sCanal th ln ct cs (nI j) lane i0 n0 (cg 0) (fun _ n => (n - 2) / 4))) 1 (sCanal th ln ct cs (nI j) lane i0 n0 (cg 1) (fun cf _ => dgt (cf 1)))) (sF cF 2 z) ++ (wR cI cZ (xa 3) ra rg rF rE ++ (wT cI cZ (ys j) ta tg ++ (wB cI (ta 3) bf))))))) (show (cF 2) = (sCanal th ln ct cs (nI j) lane i0 n0 (cF 2) (fun cf n => cpN ((n - 2) / 4) (tK cf) (cF 2))) from by unfold sCanal; (try rw [onR_in hj4 (by decide)]); (try rw [onR_out glane]); (try rfl)))) (congrArg (fun z => (wX cI cZ xq xa (sF xg 6 (fCanal th ln ct (nI j) lane i0 n0)) xh ++ (wA cO (xa 0) ys ++ (wC cI cZ (xa 1) ca (sF (sF cg 0 (sCanal th ln ct cs (nI j) lane i0 n0 (cg 0) (fun _ n => (n - 2) / 4))) 1 (sCanal th ln ct cs (nI j) lane i0 n0 (cg 1) (fun cf _ => dgt (cf 1)))) (sF (sF cF 2 (sCanal th ln ct cs (nI j) lane i0 n0 (cF 2) (fun cf n => cpN ((n - 2) / 4) (tK cf) (cF 2)))) 3 z) ++ (wR cI cZ (xa 3) ra rg rF rE ++ (wT cI cZ (ys j) ta tg ++ (wB cI (ta 3) bf))))))) (show (cF 3) = (sCanal th ln ct cs (nI j) lane i0 n0 (cF 3) (fun cf n => cpN ((n - 2) / 4) (tL cf) (cF 3))) from by unfold sCanal; (try rw [onR_in hj4 (by decide)]); (try rw [onR_out glane]); (try rfl)))) (congrArg (fun z => (wX cI cZ xq xa (sF xg 6 (fCanal th ln ct (nI j) lane i0 n0)) xh ++ (wA cO (xa 0) ys ++ (wC cI cZ (xa 1) ca (sF (sF cg 0 (sCanal th ln ct cs (nI j) lane i0 n0 (cg 0) (fun _ n => (n - 2) / 4))) 1 (sCanal th ln ct cs (nI j) lane i0 n0 (cg 1) (fun cf _ => dgt (cf 1)))) (sF (sF (sF cF 2 (sCanal th ln ct cs (nI j) lane i0 n0 (cF 2) (fun cf n => cpN ((n - 2) / 4) (tK cf) (cF 2)))) 3 (sCanal th ln ct cs (nI j) lane i0 n0 (cF 3) (fun cf n => cpN ((n - 2) / 4) (tL cf) (cF 3)))) 4 z) ++ (wR cI cZ (xa 3) ra rg rF rE ++ (wT cI cZ (ys j) ta tg ++ (wB cI (ta 3) bf))))))) (show (cF 4) = (sCanal th ln ct cs (nI j) lane i0 n0 (cF 4) (fun cf n => cpN ((n - 2) / 4) (tM cf) (cF 4))) from by unfold sCanal; (try rw [onR_in hj4 (by decide)]); (try rw [onR_out glane]); (try rfl)))) (congrArg (fun z => (wX cI cZ xq xa (sF xg 6 (fCanal th ln ct (nI j) lane i0 n0)) xh ++ (wA cO (xa 0) ys ++ (wC cI cZ (xa 1) ca (sF (sF cg 0 (sCanal th ln ct cs (nI j) lane i0 n0 (cg 0) (fun _ n => (n - 2) / 4))) 1 (sCanal th ln ct cs (nI j) lane i0 n0 (cg 1) (fun cf _ => dgt (cf 1)))) (sF (sF (sF cF 2 (sCanal th ln ct cs (nI j) lane i0 n0 (cF 2) (fun cf n => cpN ((n - 2) / 4) (tK cf) (cF 2)))) 3 (sCanal th ln ct cs (nI j) lane i0 n0 (cF 3) (fun cf n => cpN ((n - 2) / 4) (tL cf) (cF 3)))) 4 (sCanal th ln ct cs (nI j) lane i0 n0 (cF 4) (fun cf n => cpN ((n - 2) / 4) (tM cf) (cF 4)))) ++ (wR cI cZ (xa 3) ra (sF rg 0 z) rF rE ++ (wT cI cZ (ys j) ta tg ++ (wB cI (ta 3) bf))))))) (show (rg 0) = (sCanal th ln ct cs (nI j) lane i0 n0 (rg 0) (fun _ _ => 0)) from by unfold sCanal; (try rw [onR_in hj4 (by decide)]); (try rw [onR_out glane]); (try rfl)))) dX5_canal_28
set_option maxHeartbeats 4000000 in
set_option maxRecDepth 100000 in
theorem c_X5_areActs (l : Launch) (D : va_G) (cI cZ cO : ClassId) (xq : Nat) (xa : Nat → Nat) (xg : Nat → Nat) (xh : Nat → Int32) (ca : Nat → Nat) (cg : Nat → Nat) (cF : Nat → Nat → Nat) (tq : Nat) (ta : Nat → Nat) (tg : Nat → Nat) (bf : Nat → Int32) (sz : Nat) (ii : Nat) (nn : Nat)  (hin : ii + nn ≤ tg 2) (hct : tg 2 ≤ 60) (h2 : 2 ≤ cg 0) (hn : cg 0 ≤ 4) : Met l yX5_areActs wsX5_areActs ({ frames := 1, cells := 0, slots := 0, locals := 21 }) (va_Pc [.ref xq, .ref tq, .int (nI ii), .int (nI nn)] (st_W D (ty3 cI cZ cO) (wX cI cZ xq xa xg xh ++ (wC cI cZ (xa 1) ca cg cF ++ (wT cI cZ tq ta tg ++ (wB cI (ta 3) bf)))) sz)) (va_Qi (fun (rr : Int32) (u : Unit) => (rr = nI 1 ∧ (allA bf ii nn (cg 0)) ∨ rr = nI 0 ∧ ¬ (allA bf ii nn (cg 0)))) (fun u t => at_W D (ty3 cI cZ cO) (va_A (wX cI cZ xq xa xg xh ++ (wC cI cZ (xa 1) ca cg cF ++ (wT cI cZ tq ta tg ++ (wB cI (ta 3) bf)))) sz) (wX cI cZ xq xa xg xh ++ (wC cI cZ (xa 1) ca cg cF ++ (wT cI cZ tq ta tg ++ (wB cI (ta 3) bf)))) t) (va_A (wX cI cZ xq xa xg xh ++ (wC cI cZ (xa 1) ca cg cF ++ (wT cI cZ tq ta tg ++ (wB cI (ta 3) bf)))) sz)) 0 0 (va_A (wX cI cZ xq xa xg xh ++ (wC cI cZ (xa 1) ca cg cF ++ (wT cI cZ tq ta tg ++ (wB cI (ta 3) bf)))) sz) := by
  refine Met.goi (cc := cX5_areActs) (maxL := 5) (ret := (some .boolean)) (by decide) rfl (Nat.le_of_ble_eq_true rfl) (fun p e s m below meth c A ls X hW hl => ?_)
  have hi5 : ∀ w ∈ wsX50, w ∈ wsX5_areActs := fun w h => List.mem_cons_of_mem _ (List.mem_append_left _ (List.mem_append_left _ (List.mem_append_right _ h)))
  have hi3 : ∀ w ∈ wsX30, w ∈ wsX5_areActs := fun w h => List.mem_cons_of_mem _ (List.mem_append_left _ (List.mem_append_right _ h))
  have hi0 : ∀ w ∈ wsX00, w ∈ wsX5_areActs := fun w h => List.mem_cons_of_mem _ (List.mem_append_right _ h)
  have hl : lv_has ls 5 [(0, .ref xq), (1, .ref tq), (2, .int (nI ii)), (3, .int (nI nn))] := hl
  refine x_iconst (v := nI 0) X dX5_areActs_0 (by decide) ?_
  refine x_istore X [(4, .int (nI 0)), (0, .ref xq), (1, .ref tq), (2, .int (nI ii)), (3, .int (nI nn))] dX5_areActs_1 hl (by decide) rfl (fun ls hl => ?_)
  refine W.loop (σ := (Nat)) (fun u H locs ls => (u ≤ nn ∧ allA bf ii u (cg 0)) ∧ Wd D A s.heap H locs (wX cI cZ xq xa xg xh ++ (wC cI cZ (xa 1) ca cg cF ++ (wT cI cZ tq ta tg ++ (wB cI (ta 3) bf)))) ∧ lv_has ls 5 [(4, .int (nI u)), (0, .ref xq), (1, .ref tq), (2, .int (nI ii)), (3, .int (nI nn))]) (fun u => nn - u) (fun u H locs ls hI ih => ?_) 0 ⟨(show 0 ≤ nn ∧ allA bf ii 0 (cg 0) from (by first | exact ⟨Nat.zero_le _, fun _ h => absurd h (Nat.not_lt_zero _)⟩ | exact ⟨by omega, allA_s hv.2 h24⟩)), hW, hl⟩
  obtain ⟨x, xe⟩ : ∃ z, z = u := ⟨_, rfl⟩
  subst xe
  obtain ⟨hv, hW, hl⟩ := hI
  have hv : x ≤ nn ∧ allA bf ii x (cg 0) := hv
  have hW : Wd D A s.heap H locs (wX cI cZ xq xa xg xh ++ (wC cI cZ (xa 1) ca cg cF ++ (wT cI cZ tq ta tg ++ (wB cI (ta 3) bf)))) := hW
  have hl : lv_has ls 5 [(4, .int (nI x)), (0, .ref xq), (1, .ref tq), (2, .int (nI ii)), (3, .int (nI nn))] := hl
  have ih3 := ih
  refine x_iload X dX5_areActs_3 (lv_at hl 0 rfl) ?_
  refine x_iload_n X dX5_areActs_5 rfl (lv_at hl 4 rfl) ?_
  refine n_icmp_ge X 38 dX5_areActs_6 (by decide) (by omega) (by omega) (fun c6 => ?_) (fun c6 => ?_)
  · refine x_iconst (v := nI 1) X dX5_areActs_38 (by decide) ?_
    exact x_zret X hW rfl (Or.inr (by decide)) () (Or.inl ⟨rfl, by rw [show nn = x by omega]; exact hv.2⟩) rfl dX5_areActs_39
  · refine x_aload_n X dX5_areActs_9 rfl (lv_at hl 2 rfl) ?_
    refine x_iload_n X dX5_areActs_10 rfl (lv_at hl 3 rfl) ?_
    refine x_iload X dX5_areActs_11 (lv_at hl 0 rfl) ?_
    refine n_iadd X dX5_areActs_13 ?_
    refine x_callVi X hW (As := [.int (nI (ii + x))]) (rest := []) (wz := fun u => (wX cI cZ xq xa xg xh ++ (wC cI cZ (xa 1) ca cg cF ++ (wT cI cZ tq ta tg ++ (wB cI (ta 3) bf))))) (c_X3_cellAt l D cI cZ cO tq ta tg bf _ (ii + x) (show (ii + x) < (tg 2) from (by first | assumption | omega)) (show (tg 2) ≤ 60 from (by first | assumption | omega))) (cwV 1 X.2.2.2.2.2.1 gX5_areActs_X3_cellAt rfl rfl rfl (by decide +kernel) ⟨Nat.le_of_ble_eq_true rfl, Nat.le_of_ble_eq_true rfl⟩) 5 3 rfl rfl rfl [5, 6] [0, 1, 2, 3, 4] [0, 1, 2, 3, 4, 5, 6] rfl rfl (by decide) (fun _ => rfl) rfl hl.1 rfl (Nat.le_of_ble_eq_true rfl) ⟨Nat.le_of_ble_eq_true rfl, Nat.le_of_ble_eq_true rfl⟩ dX5_areActs_14 (fun r1 u2 H locs w14 hW => ?_)
    have hW : Wd D A s.heap H locs (wX cI cZ xq xa xg xh ++ (wC cI cZ (xa 1) ca cg cF ++ (wT cI cZ tq ta tg ++ (wB cI (ta 3) bf)))) := hW
    replace w14 : r1 = bf (ii + x) := w14
    subst w14
    refine x_aload_n X dX5_areActs_17 rfl (lv_at hl 1 rfl) ?_
    refine x_get X hW (v := .ref (xa 1)) hi5 0 rfl rfl 1 (by decide) (List.mem_of_getElem? (i := 1) rfl) rfl rfl dX5_areActs_18 ?_
    refine x_callVi X hW (As := []) (rest := [.int (bf (ii + x))]) (wz := fun u => (wX cI cZ xq xa xg xh ++ (wC cI cZ (xa 1) ca cg cF ++ (wT cI cZ tq ta tg ++ (wB cI (ta 3) bf))))) (c_X0_lastReach l D cI cZ cO (xa 1) ca cg cF _ (show (cg 0) ≤ 4 from (by first | assumption | omega)) (show 1 ≤ (cg 0) from (by omega))) (cwV 0 X.2.2.2.2.2.1 gX5_areActs_X0_lastReach rfl rfl rfl (by decide +kernel) ⟨Nat.le_of_ble_eq_true rfl, Nat.le_of_ble_eq_true rfl⟩) 1 0 rfl rfl rfl [1, 2, 3, 4] [0, 5, 6] [0, 3, 4, 5, 6, 1, 2] rfl rfl (by decide) (fun _ => rfl) rfl hl.1 rfl (Nat.le_of_ble_eq_true rfl) ⟨Nat.le_of_ble_eq_true rfl, Nat.le_of_ble_eq_true rfl⟩ dX5_areActs_21 (fun r3 u4 H locs w21 hW => ?_)
    have hW : Wd D A s.heap H locs (wX cI cZ xq xa xg xh ++ (wC cI cZ (xa 1) ca cg cF ++ (wT cI cZ tq ta tg ++ (wB cI (ta 3) bf)))) := hW
    replace w21 : r3 = nI ((cg 0) - 1) := w21
    subst w21
    refine x_callSie X hW (As := [.int (bf (ii + x)), .int (nI ((cg 0) - 1))]) (rest := []) (c_X5_isFrom0To l D cI cZ cO  _ (bf (ii + x)) ((cg 0) - 1) (cg 0) (show ((cg 0) - 1) + 1 = (cg 0) from (by omega)) (show ((cg 0) - 1) < 1000 from (by omega))) (va_cwS 2 X.2.2.2.2.2.1 gX5_areActs_X5_isFrom0To rfl rfl rfl (by decide +kernel) ⟨Nat.le_of_ble_eq_true rfl, Nat.le_of_ble_eq_true rfl⟩) rfl hl.1 rfl (Nat.le_of_ble_eq_true rfl) ⟨Nat.le_of_ble_eq_true rfl, Nat.le_of_ble_eq_true rfl⟩ dX5_areActs_24 (fun r5 u6 H locs w24 hW => ?_)
    have hW : Wd D A s.heap H locs (wX cI cZ xq xa xg xh ++ (wC cI cZ (xa 1) ca cg cF ++ (wT cI cZ tq ta tg ++ (wB cI (ta 3) bf)))) := hW
    replace w24 : (r5 = nI 1 ∧ (inR (bf (ii + x)) (cg 0)) ∨ r5 = nI 0 ∧ ¬ (inR (bf (ii + x)) (cg 0))) := w24
    rcases w24 with ⟨w24, h24⟩ | ⟨w24, h24⟩
    · subst w24
      refine n_if_ne X 32 dX5_areActs_27 (by decide) (by decide) (fun c27 => ?_) (fun c27 => by exact absurd c27 (by decide))
      refine x_iinc X [(4, .int (nI (x + 1))), (0, .ref xq), (1, .ref tq), (2, .int (nI ii)), (3, .int (nI nn))] (k := 0) dX5_areActs_32 hl rfl (nI_inc1 x) (by decide) rfl (fun ls hl => ?_)
      refine x_goto X 3 dX5_areActs_35 (by decide) ?_
      exact ih3 (x + 1) _ _ _ ⟨(show (x + 1) ≤ nn ∧ allA bf ii (x + 1) (cg 0) from (by first | exact ⟨Nat.zero_le _, fun _ h => absurd h (Nat.not_lt_zero _)⟩ | exact ⟨by omega, allA_s hv.2 h24⟩)), hW, lv_sub hl [0, 1, 2, 3, 4] rfl⟩ (by omega)
    · subst w24
      refine n_if_ne X 32 dX5_areActs_27 (by decide) (by decide) (fun c27 => by exact absurd c27 (by decide)) (fun c27 => ?_)
      refine x_iconst (v := nI 0) X dX5_areActs_30 (by decide) ?_
      exact x_zret X hW rfl (Or.inl (by decide)) () (Or.inr ⟨rfl, fun q => h24 (q x (by omega))⟩) rfl dX5_areActs_31
set_option maxHeartbeats 4000000 in
set_option maxRecDepth 100000 in
theorem c_X5_actOnTrial (l : Launch) (D : va_G) (cI cZ cO : ClassId) (xq : Nat) (xa : Nat → Nat) (xg : Nat → Nat) (xh : Nat → Int32) (da : Nat → Nat) (dg : Nat → Nat) (dF : Nat → Nat → Nat) (tq : Nat) (ta : Nat → Nat) (tg : Nat → Nat) (bf : Nat → Int32) (sz : Nat) (ii : Nat) (nn : Nat) (ac : Nat → Nat) (hin : ii + nn ≤ tg 2) (hct : tg 2 ≤ 60) (hd2 : 2 ≤ dg 0) (hdn : dg 0 ≤ 4) (hdr : dg 1 ≤ 3) (hdk : ∀ z0, dF 2 z0 ≤ 2) (hdl : ∀ z0, dF 3 z0 ≤ 9) (hdm : ∀ z0, dF 4 z0 ≤ 9) (hac : ∀ z0, z0 < nn → bf (ii + z0) = nI (ac z0) ∧ ac z0 < dg 0) : Met l yX5_actOnTrial wsX5_actOnTrial ({ frames := 4, cells := 0, slots := 0, locals := 85 }) (va_Pc [.ref xq, .ref tq, .int (nI ii), .int (nI nn)] (st_W D (ty3 cI cZ cO) (wX cI cZ xq xa xg xh ++ (wC cI cZ (xa 2) da dg dF ++ (wT cI cZ tq ta tg ++ (wB cI (ta 3) bf)))) sz)) (va_Qi (fun (rr : Int32) (u : Unit) => rr = silI (runA (stepO (dg 0) (dg 1) (dF 2) (dF 4)) ac nn 0 (dF 3)).1) (fun u t => at_W D (ty3 cI cZ cO) (va_A (wX cI cZ xq xa xg xh ++ (wC cI cZ (xa 2) da dg dF ++ (wT cI cZ tq ta tg ++ (wB cI (ta 3) bf)))) sz) (wX cI cZ xq xa xg xh ++ (wC cI cZ (xa 2) da dg (sF dF 3 ((runA (stepO (dg 0) (dg 1) (dF 2) (dF 4)) ac nn 0 (dF 3)).2)) ++ (wT cI cZ tq ta tg ++ (wB cI (ta 3) bf)))) t) (va_A (wX cI cZ xq xa xg xh ++ (wC cI cZ (xa 2) da dg dF ++ (wT cI cZ tq ta tg ++ (wB cI (ta 3) bf)))) sz)) 0 0 (va_A (wX cI cZ xq xa xg xh ++ (wC cI cZ (xa 2) da dg dF ++ (wT cI cZ tq ta tg ++ (wB cI (ta 3) bf)))) sz) := by
  refine Met.goi (cc := cX5_actOnTrial) (maxL := 6) (ret := (some .int)) (by decide) rfl (Nat.le_of_ble_eq_true rfl) (fun p e s m below meth c A ls X hW hl => ?_)
  have hi5 : ∀ w ∈ wsX50, w ∈ wsX5_actOnTrial := fun w h => List.mem_cons_of_mem _ (List.mem_append_left _ (List.mem_append_left _ (List.mem_append_right _ h)))
  have hi3 : ∀ w ∈ wsX30, w ∈ wsX5_actOnTrial := fun w h => List.mem_cons_of_mem _ (List.mem_append_left _ (List.mem_append_right _ h))
  have hi0 : ∀ w ∈ wsX00, w ∈ wsX5_actOnTrial := fun w h => List.mem_cons_of_mem _ (List.mem_append_right _ h)
  have hl : lv_has ls 6 [(0, .ref xq), (1, .ref tq), (2, .int (nI ii)), (3, .int (nI nn))] := hl
  refine x_iconst (v := nI 0) X dX5_actOnTrial_0 (by decide) ?_
  refine x_istore X [(4, .int (nI 0)), (0, .ref xq), (1, .ref tq), (2, .int (nI ii)), (3, .int (nI nn))] dX5_actOnTrial_1 hl (by decide) rfl (fun ls hl => ?_)
  refine W.loop (σ := (Nat) × (Nat → Nat)) (fun u H locs ls => (u.1 ≤ nn ∧ (∀ z0, u.2 z0 ≤ 9) ∧ runA (stepO (dg 0) (dg 1) (dF 2) (dF 4)) ac nn 0 (dF 3) = runA (stepO (dg 0) (dg 1) (dF 2) (dF 4)) ac (nn - u.1) u.1 u.2) ∧ Wd D A s.heap H locs (wX cI cZ xq xa xg xh ++ (wC cI cZ (xa 2) da dg (sF dF 3 u.2) ++ (wT cI cZ tq ta tg ++ (wB cI (ta 3) bf)))) ∧ lv_has ls 6 [(4, .int (nI u.1)), (0, .ref xq), (1, .ref tq), (2, .int (nI ii)), (3, .int (nI nn))]) (fun u => nn - u.1) (fun u H locs ls hI ih => ?_) (0, (dF 3)) ⟨(show 0 ≤ nn ∧ (∀ z0, (dF 3) z0 ≤ 9) ∧ runA (stepO (dg 0) (dg 1) (dF 2) (dF 4)) ac nn 0 (dF 3) = runA (stepO (dg 0) (dg 1) (dF 2) (dF 4)) ac (nn - 0) 0 (dF 3) from ⟨Nat.zero_le _, hdl, rfl⟩), hW, hl⟩
  obtain ⟨x, L⟩ := u
  obtain ⟨hv, hW, hl⟩ := hI
  have hv : x ≤ nn ∧ (∀ z0, L z0 ≤ 9) ∧ runA (stepO (dg 0) (dg 1) (dF 2) (dF 4)) ac nn 0 (dF 3) = runA (stepO (dg 0) (dg 1) (dF 2) (dF 4)) ac (nn - x) x L := hv
  have hW : Wd D A s.heap H locs (wX cI cZ xq xa xg xh ++ (wC cI cZ (xa 2) da dg (sF dF 3 L) ++ (wT cI cZ tq ta tg ++ (wB cI (ta 3) bf)))) := hW
  have hl : lv_has ls 6 [(4, .int (nI x)), (0, .ref xq), (1, .ref tq), (2, .int (nI ii)), (3, .int (nI nn))] := hl
  have ih3 := ih
  refine x_iload X dX5_actOnTrial_3 (lv_at hl 0 rfl) ?_
  refine x_iload_n X dX5_actOnTrial_5 rfl (lv_at hl 4 rfl) ?_
  refine n_icmp_ge X 74 dX5_actOnTrial_6 (by decide) (by omega) (by omega) (fun c6 => ?_) (fun c6 => ?_)
  · have hR : runA (stepO (dg 0) (dg 1) (dF 2) (dF 4)) ac nn 0 (dF 3) = (none, L) := by rw [hv.2.2, show nn - x = 0 by omega]; rfl
    refine x_bipush (v := (-9 : Int32)) X dX5_actOnTrial_74 (by decide) ?_
    exact x_iret X hW rfl () ((by rw [hR]; rfl)) (congrArg (fun z => (wX cI cZ xq xa xg xh ++ (wC cI cZ (xa 2) da dg (sF dF 3 z) ++ (wT cI cZ tq ta tg ++ (wB cI (ta 3) bf))))) (show L = ((runA (stepO (dg 0) (dg 1) (dF 2) (dF 4)) ac nn 0 (dF 3)).2) from by rw [hR])) dX5_actOnTrial_76
  · have hacx := hac x (by omega)
    refine x_aload_n X dX5_actOnTrial_9 rfl (lv_at hl 2 rfl) ?_
    refine x_iload_n X dX5_actOnTrial_10 rfl (lv_at hl 3 rfl) ?_
    refine x_iload X dX5_actOnTrial_11 (lv_at hl 0 rfl) ?_
    refine n_iadd X dX5_actOnTrial_13 ?_
    refine x_callVi X hW (As := [.int (nI (ii + x))]) (rest := []) (wz := fun u => (wX cI cZ xq xa xg xh ++ (wC cI cZ (xa 2) da dg (sF dF 3 L) ++ (wT cI cZ tq ta tg ++ (wB cI (ta 3) bf))))) (c_X3_cellAt l D cI cZ cO tq ta tg bf _ (ii + x) (show (ii + x) < (tg 2) from (by first | assumption | omega)) (show (tg 2) ≤ 60 from (by first | assumption | omega))) (cwV 1 X.2.2.2.2.2.1 gX5_actOnTrial_X3_cellAt rfl rfl rfl (by decide +kernel) ⟨Nat.le_of_ble_eq_true rfl, Nat.le_of_ble_eq_true rfl⟩) 5 3 rfl rfl rfl [5, 6] [0, 1, 2, 3, 4] [0, 1, 2, 3, 4, 5, 6] rfl rfl (by decide) (fun _ => rfl) rfl hl.1 rfl (Nat.le_of_ble_eq_true rfl) ⟨Nat.le_of_ble_eq_true rfl, Nat.le_of_ble_eq_true rfl⟩ dX5_actOnTrial_14 (fun r1 u2 H locs w14 hW => ?_)
    have hW : Wd D A s.heap H locs (wX cI cZ xq xa xg xh ++ (wC cI cZ (xa 2) da dg (sF dF 3 L) ++ (wT cI cZ tq ta tg ++ (wB cI (ta 3) bf)))) := hW
    replace w14 : r1 = bf (ii + x) := w14
    subst w14
    refine i_as0 (b := nI (ac x)) hacx.1 ?_
    refine x_istore X [(5, .int (nI (ac x))), (4, .int (nI x)), (0, .ref xq), (1, .ref tq), (2, .int (nI ii)), (3, .int (nI nn))] dX5_actOnTrial_17 hl (by decide) rfl (fun ls hl => ?_)
    refine x_iload X dX5_actOnTrial_19 (lv_at hl 0 rfl) ?_
    refine x_aload_n X dX5_actOnTrial_21 rfl (lv_at hl 2 rfl) ?_
    refine x_get X hW (v := .ref (xa 2)) hi5 0 rfl rfl 2 (by decide) (List.mem_of_getElem? (i := 1) rfl) rfl rfl dX5_actOnTrial_22 ?_
    refine x_callVi X hW (As := []) (rest := [.int (nI (ac x))]) (wz := fun u => (wX cI cZ xq xa xg xh ++ (wC cI cZ (xa 2) da dg (sF dF 3 L) ++ (wT cI cZ tq ta tg ++ (wB cI (ta 3) bf))))) (c_X0_lastReach l D cI cZ cO (xa 2) da dg (sF dF 3 L) _ (show (dg 0) ≤ 4 from (by first | assumption | omega)) (show 1 ≤ (dg 0) from (by omega))) (cwV 0 X.2.2.2.2.2.1 gX5_actOnTrial_X0_lastReach rfl rfl rfl (by decide +kernel) ⟨Nat.le_of_ble_eq_true rfl, Nat.le_of_ble_eq_true rfl⟩) 1 0 rfl rfl rfl [1, 2, 3, 4] [0, 5, 6] [0, 3, 4, 5, 6, 1, 2] rfl rfl (by decide) (fun _ => rfl) rfl hl.1 rfl (Nat.le_of_ble_eq_true rfl) ⟨Nat.le_of_ble_eq_true rfl, Nat.le_of_ble_eq_true rfl⟩ dX5_actOnTrial_25 (fun r3 u4 H locs w25 hW => ?_)
    have hW : Wd D A s.heap H locs (wX cI cZ xq xa xg xh ++ (wC cI cZ (xa 2) da dg (sF dF 3 L) ++ (wT cI cZ tq ta tg ++ (wB cI (ta 3) bf)))) := hW
    replace w25 : r3 = nI ((dg 0) - 1) := w25
    subst w25
    refine n_icmp_ne X 41 dX5_actOnTrial_28 (by decide) (by omega) (by omega) (fun c28 => ?_) (fun c28 => ?_)
    · have hlast : ¬ ac x = dg 0 - 1 := by omega
      refine x_aload_n X dX5_actOnTrial_41 rfl (lv_at hl 2 rfl) ?_
      refine x_get X hW (v := .ref (xa 2)) hi5 0 rfl rfl 2 (by decide) (List.mem_of_getElem? (i := 1) rfl) rfl rfl dX5_actOnTrial_42 ?_
      refine x_iload X dX5_actOnTrial_45 (lv_at hl 0 rfl) ?_
      refine x_callVi X hW (As := [.int (nI (ac x))]) (rest := []) (wz := fun u => (wX cI cZ xq xa xg xh ++ (wC cI cZ (xa 2) da dg (sF dF 3 L) ++ (wT cI cZ tq ta tg ++ (wB cI (ta 3) bf))))) (c_X0_mayBeOpened l D cI cZ cO (xa 2) da dg (sF dF 3 L) _ (ac x) (show (ac x) + 1 < (dg 0) from (by omega)) (show (dg 0) ≤ 4 from (by first | assumption | omega)) (show ∀ z0, (dF 2) z0 ≤ 2 from hdk) (show ∀ z0, L z0 ≤ 9 from hv.2.1) (show ∀ z0, (dF 4) z0 ≤ 9 from hdm)) (cwV 1 X.2.2.2.2.2.1 gX5_actOnTrial_X0_mayBeOpened rfl rfl rfl (by decide +kernel) ⟨Nat.le_of_ble_eq_true rfl, Nat.le_of_ble_eq_true rfl⟩) 1 0 rfl rfl rfl [1, 2, 3, 4] [0, 5, 6] [0, 3, 4, 5, 6, 1, 2] rfl rfl (by decide) (fun _ => rfl) rfl hl.1 rfl (Nat.le_of_ble_eq_true rfl) ⟨Nat.le_of_ble_eq_true rfl, Nat.le_of_ble_eq_true rfl⟩ dX5_actOnTrial_47 (fun r5 u6 H locs w47 hW => ?_)
      have hW : Wd D A s.heap H locs (wX cI cZ xq xa xg xh ++ (wC cI cZ (xa 2) da dg (sF dF 3 L) ++ (wT cI cZ tq ta tg ++ (wB cI (ta 3) bf)))) := hW
      replace w47 : (r5 = nI 1 ∧ (mayN ((dF 2)) (L) ((dF 4)) (ac x)) ∨ r5 = nI 0 ∧ ¬ (mayN ((dF 2)) (L) ((dF 4)) (ac x))) := w47
      rcases w47 with ⟨w47, h47⟩ | ⟨w47, h47⟩
      · subst w47
        refine n_if_eq X 65 dX5_actOnTrial_50 (by decide) (by decide) (fun c50 => by exact absurd c50 (by decide)) (fun c50 => ?_)
        refine x_aload_n X dX5_actOnTrial_53 rfl (lv_at hl 2 rfl) ?_
        refine x_get X hW (v := .ref (xa 2)) hi5 0 rfl rfl 2 (by decide) (List.mem_of_getElem? (i := 1) rfl) rfl rfl dX5_actOnTrial_54 ?_
        refine x_iload X dX5_actOnTrial_57 (lv_at hl 0 rfl) ?_
        refine x_callVv X hW (As := [.int (nI (ac x))]) (rest := []) (wz := fun u => (wX cI cZ xq xa xg xh ++ (wC cI cZ (xa 2) da dg (sF dF 3 (thru (L) (ac x))) ++ (wT cI cZ tq ta tg ++ (wB cI (ta 3) bf))))) (c_X0_letThrough l D cI cZ cO (xa 2) da dg (sF dF 3 L) _ (ac x) (show (ac x) + 1 < (dg 0) from (by omega)) (show (dg 0) ≤ 4 from (by first | assumption | omega)) (show 1 ≤ L (ac x) from h47.1)) (cwV 1 X.2.2.2.2.2.1 gX5_actOnTrial_X0_letThrough rfl rfl rfl (by decide +kernel) ⟨Nat.le_of_ble_eq_true rfl, Nat.le_of_ble_eq_true rfl⟩) 1 0 rfl rfl rfl [1, 2, 3, 4] [0, 5, 6] [0, 3, 4, 5, 6, 1, 2] rfl rfl (by decide) (fun _ => rfl) rfl hl.1 rfl (Nat.le_of_ble_eq_true rfl) ⟨Nat.le_of_ble_eq_true rfl, Nat.le_of_ble_eq_true rfl⟩ dX5_actOnTrial_59 (fun u8 H locs w59 hW => ?_)
        have hW : Wd D A s.heap H locs (wX cI cZ xq xa xg xh ++ (wC cI cZ (xa 2) da dg (sF dF 3 (thru (L) (ac x))) ++ (wT cI cZ tq ta tg ++ (wB cI (ta 3) bf)))) := hW
        replace w59 : True := w59
        refine x_goto X 68 dX5_actOnTrial_62 (by decide) ?_
        refine x_iinc X [(4, .int (nI (x + 1))), (5, .int (nI (ac x))), (0, .ref xq), (1, .ref tq), (2, .int (nI ii)), (3, .int (nI nn))] (k := 1) dX5_actOnTrial_68 hl rfl (nI_inc1 x) (by decide) rfl (fun ls hl => ?_)
        refine x_goto X 3 dX5_actOnTrial_71 (by decide) ?_
        exact ih3 ((x + 1), (thru (L) (ac x))) _ _ _ ⟨(show (x + 1) ≤ nn ∧ (∀ z0, (thru (L) (ac x)) z0 ≤ 9) ∧ runA (stepO (dg 0) (dg 1) (dF 2) (dF 4)) ac nn 0 (dF 3) = runA (stepO (dg 0) (dg 1) (dF 2) (dF 4)) ac (nn - (x + 1)) (x + 1) (thru (L) (ac x)) from ⟨by omega, thru_le hv.2.1 (Nat.le_trans (want_le _ _) (hdm _)) h47.2, by rw [hv.2.2, show nn - x = (nn - (x + 1)) + 1 by omega, runA_y (Or.inr h47), act_gate hlast h47]⟩), hW, lv_sub hl [0, 2, 3, 4, 5] rfl⟩ (by dsimp only; omega)
      · subst w47
        refine n_if_eq X 65 dX5_actOnTrial_50 (by decide) (by decide) (fun c50 => ?_) (fun c50 => by exact absurd c50 (by decide))
        have hR : runA (stepO (dg 0) (dg 1) (dF 2) (dF 4)) ac nn 0 (dF 3) = (some x, L) := by rw [hv.2.2, show nn - x = (nn - (x + 1)) + 1 by omega]; exact runA_n (fun q => q.elim hlast h47)
        refine x_iload X dX5_actOnTrial_65 (lv_at hl 1 rfl) ?_
        exact x_iret X hW rfl () ((by rw [hR]; rfl)) (congrArg (fun z => (wX cI cZ xq xa xg xh ++ (wC cI cZ (xa 2) da dg (sF dF 3 z) ++ (wT cI cZ tq ta tg ++ (wB cI (ta 3) bf))))) (show L = ((runA (stepO (dg 0) (dg 1) (dF 2) (dF 4)) ac nn 0 (dF 3)).2) from by rw [hR])) dX5_actOnTrial_67
    · have hlast : ac x = dg 0 - 1 := by omega
      refine x_aload_n X dX5_actOnTrial_31 rfl (lv_at hl 2 rfl) ?_
      refine x_get X hW (v := .ref (xa 2)) hi5 0 rfl rfl 2 (by decide) (List.mem_of_getElem? (i := 1) rfl) rfl rfl dX5_actOnTrial_32 ?_
      refine x_callVv X hW (As := []) (rest := []) (wz := fun u => (wX cI cZ xq xa xg xh ++ (wC cI cZ (xa 2) da dg (sF dF 3 (night ((dg 0)) ((dg 1)) (L))) ++ (wT cI cZ tq ta tg ++ (wB cI (ta 3) bf))))) (c_X0_passNight l D cI cZ cO (xa 2) da dg (sF dF 3 L) _ (show 2 ≤ (dg 0) from hd2) (show (dg 0) ≤ 4 from (by first | assumption | omega)) (show ∀ z0, L z0 ≤ 9 from hv.2.1) (show (dg 1) ≤ 3 from (by first | assumption | omega))) (cwV 0 X.2.2.2.2.2.1 gX5_actOnTrial_X0_passNight rfl rfl rfl (by decide +kernel) ⟨Nat.le_of_ble_eq_true rfl, Nat.le_of_ble_eq_true rfl⟩) 1 0 rfl rfl rfl [1, 2, 3, 4] [0, 5, 6] [0, 3, 4, 5, 6, 1, 2] rfl rfl (by decide) (fun _ => rfl) rfl hl.1 rfl (Nat.le_of_ble_eq_true rfl) ⟨Nat.le_of_ble_eq_true rfl, Nat.le_of_ble_eq_true rfl⟩ dX5_actOnTrial_35 (fun u10 H locs w35 hW => ?_)
      have hW : Wd D A s.heap H locs (wX cI cZ xq xa xg xh ++ (wC cI cZ (xa 2) da dg (sF dF 3 (night ((dg 0)) ((dg 1)) (L))) ++ (wT cI cZ tq ta tg ++ (wB cI (ta 3) bf)))) := hW
      replace w35 : True := w35
      refine x_goto X 68 dX5_actOnTrial_38 (by decide) ?_
      refine x_iinc X [(4, .int (nI (x + 1))), (5, .int (nI (ac x))), (0, .ref xq), (1, .ref tq), (2, .int (nI ii)), (3, .int (nI nn))] (k := 1) dX5_actOnTrial_68 hl rfl (nI_inc1 x) (by decide) rfl (fun ls hl => ?_)
      refine x_goto X 3 dX5_actOnTrial_71 (by decide) ?_
      exact ih3 ((x + 1), (night ((dg 0)) ((dg 1)) (L))) _ _ _ ⟨(show (x + 1) ≤ nn ∧ (∀ z0, (night ((dg 0)) ((dg 1)) (L)) z0 ≤ 9) ∧ runA (stepO (dg 0) (dg 1) (dF 2) (dF 4)) ac nn 0 (dF 3) = runA (stepO (dg 0) (dg 1) (dF 2) (dF 4)) ac (nn - (x + 1)) (x + 1) (night ((dg 0)) ((dg 1)) (L)) from ⟨by omega, night_le hv.2.1, by rw [hv.2.2, show nn - x = (nn - (x + 1)) + 1 by omega, runA_y (Or.inl hlast), act_last hlast]⟩), hW, lv_sub hl [0, 2, 3, 4, 5] rfl⟩ (by dsimp only; omega)
set_option maxHeartbeats 4000000 in
set_option maxRecDepth 100000 in
theorem c_X5_openingsAmong (l : Launch) (D : va_G) (cI cZ cO : ClassId) (xq : Nat) (xa : Nat → Nat) (xg : Nat → Nat) (xh : Nat → Int32) (ca : Nat → Nat) (cg : Nat → Nat) (cF : Nat → Nat → Nat) (tq : Nat) (ta : Nat → Nat) (tg : Nat → Nat) (bf : Nat → Int32) (sz : Nat) (ii : Nat) (nn : Nat) (ac : Nat → Nat) (hin : ii + nn ≤ tg 2) (hct : tg 2 ≤ 60) (h2 : 2 ≤ cg 0) (hn : cg 0 ≤ 4) (hnn : nn ≤ 40) (hac : ∀ z0, z0 < nn → bf (ii + z0) = nI (ac z0) ∧ ac z0 < cg 0) : Met l yX5_openingsAmong wsX5_openingsAmong ({ frames := 1, cells := 0, slots := 0, locals := 21 }) (va_Pc [.ref xq, .ref tq, .int (nI ii), .int (nI nn)] (st_W D (ty3 cI cZ cO) (wX cI cZ xq xa xg xh ++ (wC cI cZ (xa 1) ca cg cF ++ (wT cI cZ tq ta tg ++ (wB cI (ta 3) bf)))) sz)) (va_Qi (fun (rr : Int32) (u : Unit) => rr = nI (opsN (cg 0) ac nn)) (fun u t => at_W D (ty3 cI cZ cO) (va_A (wX cI cZ xq xa xg xh ++ (wC cI cZ (xa 1) ca cg cF ++ (wT cI cZ tq ta tg ++ (wB cI (ta 3) bf)))) sz) (wX cI cZ xq xa xg xh ++ (wC cI cZ (xa 1) ca cg cF ++ (wT cI cZ tq ta tg ++ (wB cI (ta 3) bf)))) t) (va_A (wX cI cZ xq xa xg xh ++ (wC cI cZ (xa 1) ca cg cF ++ (wT cI cZ tq ta tg ++ (wB cI (ta 3) bf)))) sz)) 0 0 (va_A (wX cI cZ xq xa xg xh ++ (wC cI cZ (xa 1) ca cg cF ++ (wT cI cZ tq ta tg ++ (wB cI (ta 3) bf)))) sz) := by
  refine Met.goi (cc := cX5_openingsAmong) (maxL := 6) (ret := (some .int)) (by decide) rfl (Nat.le_of_ble_eq_true rfl) (fun p e s m below meth c A ls X hW hl => ?_)
  have hi5 : ∀ w ∈ wsX50, w ∈ wsX5_openingsAmong := fun w h => List.mem_cons_of_mem _ (List.mem_append_left _ (List.mem_append_left _ (List.mem_append_right _ h)))
  have hi3 : ∀ w ∈ wsX30, w ∈ wsX5_openingsAmong := fun w h => List.mem_cons_of_mem _ (List.mem_append_left _ (List.mem_append_right _ h))
  have hi0 : ∀ w ∈ wsX00, w ∈ wsX5_openingsAmong := fun w h => List.mem_cons_of_mem _ (List.mem_append_right _ h)
  have hl : lv_has ls 6 [(0, .ref xq), (1, .ref tq), (2, .int (nI ii)), (3, .int (nI nn))] := hl
  refine x_iconst (v := nI 0) X dX5_openingsAmong_0 (by decide) ?_
  refine x_istore X [(4, .int (nI 0)), (0, .ref xq), (1, .ref tq), (2, .int (nI ii)), (3, .int (nI nn))] dX5_openingsAmong_1 hl (by decide) rfl (fun ls hl => ?_)
  refine x_iconst (v := nI 0) X dX5_openingsAmong_3 (by decide) ?_
  refine x_istore X [(5, .int (nI 0)), (4, .int (nI 0)), (0, .ref xq), (1, .ref tq), (2, .int (nI ii)), (3, .int (nI nn))] dX5_openingsAmong_4 hl (by decide) rfl (fun ls hl => ?_)
  refine W.loop (σ := (Nat)) (fun u H locs ls => (u ≤ nn) ∧ Wd D A s.heap H locs (wX cI cZ xq xa xg xh ++ (wC cI cZ (xa 1) ca cg cF ++ (wT cI cZ tq ta tg ++ (wB cI (ta 3) bf)))) ∧ lv_has ls 6 [(5, .int (nI u)), (4, .int (nI (opsN (cg 0) ac u))), (0, .ref xq), (1, .ref tq), (2, .int (nI ii)), (3, .int (nI nn))]) (fun u => nn - u) (fun u H locs ls hI ih => ?_) 0 ⟨(show 0 ≤ nn from (by omega)), hW, hl⟩
  obtain ⟨x, xe⟩ : ∃ z, z = u := ⟨_, rfl⟩
  subst xe
  obtain ⟨hv, hW, hl⟩ := hI
  have hv : x ≤ nn := hv
  have hW : Wd D A s.heap H locs (wX cI cZ xq xa xg xh ++ (wC cI cZ (xa 1) ca cg cF ++ (wT cI cZ tq ta tg ++ (wB cI (ta 3) bf)))) := hW
  have hl : lv_has ls 6 [(5, .int (nI x)), (4, .int (nI (opsN (cg 0) ac x))), (0, .ref xq), (1, .ref tq), (2, .int (nI ii)), (3, .int (nI nn))] := hl
  have ih6 := ih
  refine x_iload X dX5_openingsAmong_6 (lv_at hl 0 rfl) ?_
  refine x_iload_n X dX5_openingsAmong_8 rfl (lv_at hl 5 rfl) ?_
  refine n_icmp_ge X 39 dX5_openingsAmong_9 (by decide) (by omega) (by omega) (fun c9 => ?_) (fun c9 => ?_)
  · have ex : x = nn := by omega
    refine x_iload X dX5_openingsAmong_39 (lv_at hl 1 rfl) ?_
    exact x_iret X hW rfl () ((congrArg nI (show opsN (cg 0) ac x = opsN (cg 0) ac nn from by rw [ex]))) rfl dX5_openingsAmong_41
  · have hacx := hac x (by omega)
    have hop := opsN_le (cg 0) ac x
    refine x_aload_n X dX5_openingsAmong_12 rfl (lv_at hl 3 rfl) ?_
    refine x_iload_n X dX5_openingsAmong_13 rfl (lv_at hl 4 rfl) ?_
    refine x_iload X dX5_openingsAmong_14 (lv_at hl 0 rfl) ?_
    refine n_iadd X dX5_openingsAmong_16 ?_
    refine x_callVi X hW (As := [.int (nI (ii + x))]) (rest := []) (wz := fun u => (wX cI cZ xq xa xg xh ++ (wC cI cZ (xa 1) ca cg cF ++ (wT cI cZ tq ta tg ++ (wB cI (ta 3) bf))))) (c_X3_cellAt l D cI cZ cO tq ta tg bf _ (ii + x) (show (ii + x) < (tg 2) from (by first | assumption | omega)) (show (tg 2) ≤ 60 from (by first | assumption | omega))) (cwV 1 X.2.2.2.2.2.1 gX5_openingsAmong_X3_cellAt rfl rfl rfl (by decide +kernel) ⟨Nat.le_of_ble_eq_true rfl, Nat.le_of_ble_eq_true rfl⟩) 5 3 rfl rfl rfl [5, 6] [0, 1, 2, 3, 4] [0, 1, 2, 3, 4, 5, 6] rfl rfl (by decide) (fun _ => rfl) rfl hl.1 rfl (Nat.le_of_ble_eq_true rfl) ⟨Nat.le_of_ble_eq_true rfl, Nat.le_of_ble_eq_true rfl⟩ dX5_openingsAmong_17 (fun r1 u2 H locs w17 hW => ?_)
    have hW : Wd D A s.heap H locs (wX cI cZ xq xa xg xh ++ (wC cI cZ (xa 1) ca cg cF ++ (wT cI cZ tq ta tg ++ (wB cI (ta 3) bf)))) := hW
    replace w17 : r1 = bf (ii + x) := w17
    subst w17
    refine i_as0 (b := nI (ac x)) hacx.1 ?_
    refine x_aload_n X dX5_openingsAmong_20 rfl (lv_at hl 2 rfl) ?_
    refine x_get X hW (v := .ref (xa 1)) hi5 0 rfl rfl 1 (by decide) (List.mem_of_getElem? (i := 1) rfl) rfl rfl dX5_openingsAmong_21 ?_
    refine x_callVi X hW (As := []) (rest := [.int (nI (ac x))]) (wz := fun u => (wX cI cZ xq xa xg xh ++ (wC cI cZ (xa 1) ca cg cF ++ (wT cI cZ tq ta tg ++ (wB cI (ta 3) bf))))) (c_X0_lastReach l D cI cZ cO (xa 1) ca cg cF _ (show (cg 0) ≤ 4 from (by first | assumption | omega)) (show 1 ≤ (cg 0) from (by omega))) (cwV 0 X.2.2.2.2.2.1 gX5_openingsAmong_X0_lastReach rfl rfl rfl (by decide +kernel) ⟨Nat.le_of_ble_eq_true rfl, Nat.le_of_ble_eq_true rfl⟩) 1 0 rfl rfl rfl [1, 2, 3, 4] [0, 5, 6] [0, 3, 4, 5, 6, 1, 2] rfl rfl (by decide) (fun _ => rfl) rfl hl.1 rfl (Nat.le_of_ble_eq_true rfl) ⟨Nat.le_of_ble_eq_true rfl, Nat.le_of_ble_eq_true rfl⟩ dX5_openingsAmong_24 (fun r3 u4 H locs w24 hW => ?_)
    have hW : Wd D A s.heap H locs (wX cI cZ xq xa xg xh ++ (wC cI cZ (xa 1) ca cg cF ++ (wT cI cZ tq ta tg ++ (wB cI (ta 3) bf)))) := hW
    replace w24 : r3 = nI ((cg 0) - 1) := w24
    subst w24
    refine n_icmp_eq X 33 dX5_openingsAmong_27 (by decide) (by omega) (by omega) (fun c27 => ?_) (fun c27 => ?_)
    · have hl : lv_has ls 6 [(5, .int (nI x)), (4, .int (nI (opsN (cg 0) ac (x + 1)))), (0, .ref xq), (1, .ref tq), (2, .int (nI ii)), (3, .int (nI nn))] := by first | (rw [opsN_y (by omega)]; exact hl) | (rw [opsN_n (by omega)]; exact hl)
      refine x_iinc X [(5, .int (nI (x + 1))), (4, .int (nI (opsN (cg 0) ac (x + 1)))), (0, .ref xq), (1, .ref tq), (2, .int (nI ii)), (3, .int (nI nn))] (k := 0) dX5_openingsAmong_33 hl rfl (nI_inc1 x) (by decide) rfl (fun ls hl => ?_)
      refine x_goto X 6 dX5_openingsAmong_36 (by decide) ?_
      exact ih6 (x + 1) _ _ _ ⟨(show (x + 1) ≤ nn from (by omega)), hW, lv_sub hl [0, 1, 2, 3, 4, 5] rfl⟩ (by omega)
    · refine x_iinc X [(4, .int (nI (opsN (cg 0) ac x + 1))), (5, .int (nI x)), (0, .ref xq), (1, .ref tq), (2, .int (nI ii)), (3, .int (nI nn))] (k := 1) dX5_openingsAmong_30 hl rfl (nI_inc1 (opsN (cg 0) ac x)) (by decide) rfl (fun ls hl => ?_)
      have hl : lv_has ls 6 [(4, .int (nI (opsN (cg 0) ac (x + 1)))), (5, .int (nI x)), (0, .ref xq), (1, .ref tq), (2, .int (nI ii)), (3, .int (nI nn))] := by first | (rw [opsN_y (by omega)]; exact hl) | (rw [opsN_n (by omega)]; exact hl)
      refine x_iinc X [(5, .int (nI (x + 1))), (4, .int (nI (opsN (cg 0) ac (x + 1)))), (0, .ref xq), (1, .ref tq), (2, .int (nI ii)), (3, .int (nI nn))] (k := 1) dX5_openingsAmong_33 hl rfl (nI_inc1 x) (by decide) rfl (fun ls hl => ?_)
      refine x_goto X 6 dX5_openingsAmong_36 (by decide) ?_
      exact ih6 (x + 1) _ _ _ ⟨(show (x + 1) ≤ nn from (by omega)), hW, lv_sub hl [0, 1, 2, 3, 4, 5] rfl⟩ (by omega)
set_option maxHeartbeats 4000000 in
set_option maxRecDepth 100000 in
theorem c_X5_behindActs (l : Launch) (D : va_G) (cI cZ cO : ClassId) (xq : Nat) (xa : Nat → Nat) (xg : Nat → Nat) (xh : Nat → Int32) (ca : Nat → Nat) (cg : Nat → Nat) (cF : Nat → Nat → Nat) (da : Nat → Nat) (dg : Nat → Nat) (dF : Nat → Nat → Nat) (tq : Nat) (ta : Nat → Nat) (tg : Nat → Nat) (bf : Nat → Int32) (sz : Nat) (ii : Nat) (nn : Nat) (v : Nat) (ac : Nat → Nat) (hin : ii + nn ≤ tg 2) (hct : tg 2 ≤ 60) (h2 : 2 ≤ cg 0) (hn : cg 0 ≤ 4) (hd0 : dg 0 = cg 0) (hdr : dg 1 ≤ 3) (hdk : ∀ z0, dF 2 z0 ≤ 2) (hdl : ∀ z0, dF 3 z0 ≤ 9) (hdm : ∀ z0, dF 4 z0 ≤ 9) (hnn : nn ≤ 40) (hac : ∀ z0, z0 < nn → bf (ii + z0) = nI (ac z0) ∧ ac z0 < cg 0) (hv1 : v ≠ 1) (hv13 : v ≤ 13) (hv3 : v ≤ 3 ∨ 10 ≤ v) : Met l yX5_behindActs wsX5_behindActs ({ frames := 5, cells := 0, slots := 0, locals := 107 }) (va_Pc [.ref xq, .ref tq, .int (nI ii), .int (nI nn), .int (nI v)] (st_W D (ty3 cI cZ cO) (wX cI cZ xq xa xg xh ++ (wC cI cZ (xa 1) ca cg cF ++ (wC cI cZ (xa 2) da dg dF ++ (wT cI cZ tq ta tg ++ (wB cI (ta 3) bf))))) sz)) (va_Qi (fun (rr : Int32) (u : Unit) => rr = tailA (dg 0) (dF 2) (dF 3) (dF 4) ac nn v) (fun u t => at_W D (ty3 cI cZ cO) (va_A (wX cI cZ xq xa xg xh ++ (wC cI cZ (xa 1) ca cg cF ++ (wC cI cZ (xa 2) da dg dF ++ (wT cI cZ tq ta tg ++ (wB cI (ta 3) bf))))) sz) (wX cI cZ xq xa xg xh ++ (wC cI cZ (xa 1) ca cg cF ++ (wC cI cZ (xa 2) da dg dF ++ (wT cI cZ tq ta tg ++ (wB cI (ta 3) bf))))) t) (va_A (wX cI cZ xq xa xg xh ++ (wC cI cZ (xa 1) ca cg cF ++ (wC cI cZ (xa 2) da dg dF ++ (wT cI cZ tq ta tg ++ (wB cI (ta 3) bf))))) sz)) 0 0 (va_A (wX cI cZ xq xa xg xh ++ (wC cI cZ (xa 1) ca cg cF ++ (wC cI cZ (xa 2) da dg dF ++ (wT cI cZ tq ta tg ++ (wB cI (ta 3) bf))))) sz) := by
  refine Met.goi (cc := cX5_behindActs) (maxL := 5) (ret := (some .int)) (by decide) rfl (Nat.le_of_ble_eq_true rfl) (fun p e s m below meth c A ls X hW hl => ?_)
  have hi5 : ∀ w ∈ wsX50, w ∈ wsX5_behindActs := fun w h => List.mem_cons_of_mem _ (List.mem_append_left _ (List.mem_append_left _ (List.mem_append_right _ h)))
  have hi0 : ∀ w ∈ wsX00, w ∈ wsX5_behindActs := fun w h => List.mem_cons_of_mem _ (List.mem_append_left _ (List.mem_append_right _ h))
  have hi3 : ∀ w ∈ wsX30, w ∈ wsX5_behindActs := fun w h => List.mem_cons_of_mem _ (List.mem_append_right _ h)
  have hl : lv_has ls 5 [(0, .ref xq), (1, .ref tq), (2, .int (nI ii)), (3, .int (nI nn)), (4, .int (nI v))] := hl
  refine x_iload X dX5_behindActs_0 (lv_at hl 4 rfl) ?_
  rcases (show v = 0 ∨ v = 2 ∨ v = 3 ∨ 10 ≤ v by omega) with rfl | rfl | rfl | hv10
  · refine lv_tableIn (off := 30) (tgt := 32) X.1 X.2.1 dX5_behindActs_2 (by decide) (by decide) (by decide) (by decide) ?_
    refine x_aload_n X dX5_behindActs_32 rfl (lv_at hl 0 rfl) ?_
    refine x_get X hW (v := .ref (xa 2)) hi5 0 rfl rfl 2 (by decide) (List.mem_of_getElem? (i := 1) rfl) rfl rfl dX5_behindActs_33 ?_
    refine x_callVi X hW (As := []) (rest := []) (wz := fun u => (wX cI cZ xq xa xg xh ++ (wC cI cZ (xa 1) ca cg cF ++ (wC cI cZ (xa 2) da dg dF ++ (wT cI cZ tq ta tg ++ (wB cI (ta 3) bf)))))) (c_X0_levelsTogether l D cI cZ cO (xa 2) da dg dF _ (show (dg 0) ≤ 4 from (by omega)) (show ∀ z0, (dF 3) z0 ≤ 9 from hdl)) (cwV 0 X.2.2.2.2.2.1 gX5_behindActs_X0_levelsTogether rfl rfl rfl (by decide +kernel) ⟨Nat.le_of_ble_eq_true rfl, Nat.le_of_ble_eq_true rfl⟩) 5 0 rfl rfl rfl [5, 6, 7, 8] [0, 1, 2, 3, 4, 9, 10] [0, 1, 2, 3, 4, 7, 8, 9, 10, 5, 6] rfl rfl (by decide) (fun _ => rfl) rfl hl.1 rfl (Nat.le_of_ble_eq_true rfl) ⟨Nat.le_of_ble_eq_true rfl, Nat.le_of_ble_eq_true rfl⟩ dX5_behindActs_36 (fun r1 u2 H locs w36 hW => ?_)
    have hW : Wd D A s.heap H locs (wX cI cZ xq xa xg xh ++ (wC cI cZ (xa 1) ca cg cF ++ (wC cI cZ (xa 2) da dg dF ++ (wT cI cZ tq ta tg ++ (wB cI (ta 3) bf))))) := hW
    replace w36 : r1 = nI (smN ((dF 3)) ((dg 0))) := w36
    subst w36
    exact x_iret X hW rfl () ((by unfold tailA; rw [if_neg (by decide), if_pos rfl])) rfl dX5_behindActs_39
  · refine lv_tableIn (off := 38) (tgt := 40) X.1 X.2.1 dX5_behindActs_2 (by decide) (by decide) (by decide) (by decide) ?_
    refine x_aload_n X dX5_behindActs_40 rfl (lv_at hl 0 rfl) ?_
    refine x_aload_n X dX5_behindActs_41 rfl (lv_at hl 1 rfl) ?_
    refine x_iload_n X dX5_behindActs_42 rfl (lv_at hl 2 rfl) ?_
    refine x_iload_n X dX5_behindActs_43 rfl (lv_at hl 3 rfl) ?_
    refine x_callVi X hW (As := [.ref tq, .int (nI ii), .int (nI nn)]) (rest := []) (wz := fun u => (wX cI cZ xq xa xg xh ++ (wC cI cZ (xa 1) ca cg cF ++ (wC cI cZ (xa 2) da dg dF ++ (wT cI cZ tq ta tg ++ (wB cI (ta 3) bf)))))) (c_X5_openingsAmong l D cI cZ cO xq xa xg xh ca cg cF tq ta tg bf _ ii nn ac (show ii + nn ≤ (tg 2) from (by first | assumption | omega)) (show (tg 2) ≤ 60 from (by first | assumption | omega)) (show 2 ≤ (cg 0) from (by first | assumption | omega)) (show (cg 0) ≤ 4 from (by first | assumption | omega)) (show nn ≤ 40 from (by first | assumption | omega)) (show ∀ z0, z0 < nn → bf (ii + z0) = nI (ac z0) ∧ ac z0 < (cg 0) from (by first | assumption | omega))) (cwV 3 X.2.2.2.2.2.1 gX5_behindActs_X5_openingsAmong rfl rfl rfl (by decide +kernel) ⟨Nat.le_of_ble_eq_true rfl, Nat.le_of_ble_eq_true rfl⟩) 0 4 rfl rfl rfl [0, 1, 2, 3, 4, 9, 10] [5, 6, 7, 8] [4, 5, 6, 7, 8, 0, 1, 2, 3, 9, 10] rfl rfl (by decide) (fun _ => rfl) rfl hl.1 rfl (Nat.le_of_ble_eq_true rfl) ⟨Nat.le_of_ble_eq_true rfl, Nat.le_of_ble_eq_true rfl⟩ dX5_behindActs_44 (fun r3 u4 H locs w44 hW => ?_)
    have hW : Wd D A s.heap H locs (wX cI cZ xq xa xg xh ++ (wC cI cZ (xa 1) ca cg cF ++ (wC cI cZ (xa 2) da dg dF ++ (wT cI cZ tq ta tg ++ (wB cI (ta 3) bf))))) := hW
    replace w44 : r3 = nI (opsN ((cg 0)) ac nn) := w44
    subst w44
    exact x_iret X hW rfl () ((by unfold tailA; rw [if_neg (by decide), if_neg (by decide), if_pos rfl, hd0])) rfl dX5_behindActs_47
  · refine lv_tableIn (off := 46) (tgt := 48) X.1 X.2.1 dX5_behindActs_2 (by decide) (by decide) (by decide) (by decide) ?_
    refine x_aload_n X dX5_behindActs_48 rfl (lv_at hl 0 rfl) ?_
    refine x_get X hW (v := .ref (xa 2)) hi5 0 rfl rfl 2 (by decide) (List.mem_of_getElem? (i := 1) rfl) rfl rfl dX5_behindActs_49 ?_
    refine x_callVi X hW (As := []) (rest := []) (wz := fun u => (wX cI cZ xq xa xg xh ++ (wC cI cZ (xa 1) ca cg cF ++ (wC cI cZ (xa 2) da dg dF ++ (wT cI cZ tq ta tg ++ (wB cI (ta 3) bf)))))) (c_X0_gatesThatMayBeOpened l D cI cZ cO (xa 2) da dg dF _ (show 1 ≤ (dg 0) from (by omega)) (show (dg 0) ≤ 4 from (by omega)) (show ∀ z0, (dF 2) z0 ≤ 2 from hdk) (show ∀ z0, (dF 3) z0 ≤ 9 from hdl) (show ∀ z0, (dF 4) z0 ≤ 9 from hdm)) (cwV 0 X.2.2.2.2.2.1 gX5_behindActs_X0_gatesThatMayBeOpened rfl rfl rfl (by decide +kernel) ⟨Nat.le_of_ble_eq_true rfl, Nat.le_of_ble_eq_true rfl⟩) 5 0 rfl rfl rfl [5, 6, 7, 8] [0, 1, 2, 3, 4, 9, 10] [0, 1, 2, 3, 4, 7, 8, 9, 10, 5, 6] rfl rfl (by decide) (fun _ => rfl) rfl hl.1 rfl (Nat.le_of_ble_eq_true rfl) ⟨Nat.le_of_ble_eq_true rfl, Nat.le_of_ble_eq_true rfl⟩ dX5_behindActs_52 (fun r5 u6 H locs w52 hW => ?_)
    have hW : Wd D A s.heap H locs (wX cI cZ xq xa xg xh ++ (wC cI cZ (xa 1) ca cg cF ++ (wC cI cZ (xa 2) da dg dF ++ (wT cI cZ tq ta tg ++ (wB cI (ta 3) bf))))) := hW
    replace w52 : r5 = setI (mayN ((dF 2)) ((dF 3)) ((dF 4))) ((dg 0) - 1) := w52
    subst w52
    exact x_iret X hW rfl () ((by unfold tailA; rw [if_neg (by decide), if_neg (by decide), if_neg (by decide)])) rfl dX5_behindActs_55
  · refine lv_tableOut (tgt := 56) X.1 X.2.1 dX5_behindActs_2 (by rw [nI_toInt (by omega)]; omega) (by decide) ?_
    refine x_aload_n X dX5_behindActs_56 rfl (lv_at hl 0 rfl) ?_
    refine x_get X hW (v := .ref (xa 2)) hi5 0 rfl rfl 2 (by decide) (List.mem_of_getElem? (i := 1) rfl) rfl rfl dX5_behindActs_57 ?_
    refine x_iload X dX5_behindActs_60 (lv_at hl 4 rfl) ?_
    refine x_bipush (v := nI 10) X dX5_behindActs_62 (by decide) ?_
    refine n_isub X dX5_behindActs_64 (by omega) ?_
    refine x_callVi X hW (As := [.int (nI (v - 10))]) (rest := []) (wz := fun u => (wX cI cZ xq xa xg xh ++ (wC cI cZ (xa 1) ca cg cF ++ (wC cI cZ (xa 2) da dg dF ++ (wT cI cZ tq ta tg ++ (wB cI (ta 3) bf)))))) (c_X0_has l D cI cZ cO (xa 2) da dg dF _ (nI (v - 10)) (show (dg 0) ≤ 4 from (by omega))) (cwV 1 X.2.2.2.2.2.1 gX5_behindActs_X0_has rfl rfl rfl (by decide +kernel) ⟨Nat.le_of_ble_eq_true rfl, Nat.le_of_ble_eq_true rfl⟩) 5 0 rfl rfl rfl [5, 6, 7, 8] [0, 1, 2, 3, 4, 9, 10] [0, 1, 2, 3, 4, 7, 8, 9, 10, 5, 6] rfl rfl (by decide) (fun _ => rfl) rfl hl.1 rfl (Nat.le_of_ble_eq_true rfl) ⟨Nat.le_of_ble_eq_true rfl, Nat.le_of_ble_eq_true rfl⟩ dX5_behindActs_65 (fun r7 u8 H locs w65 hW => ?_)
    have hW : Wd D A s.heap H locs (wX cI cZ xq xa xg xh ++ (wC cI cZ (xa 1) ca cg cF ++ (wC cI cZ (xa 2) da dg dF ++ (wT cI cZ tq ta tg ++ (wB cI (ta 3) bf))))) := hW
    replace w65 : (r7 = nI 1 ∧ (inR (nI (v - 10)) ((dg 0))) ∨ r7 = nI 0 ∧ ¬ (inR (nI (v - 10)) ((dg 0)))) := w65
    rcases w65 with ⟨w65, h65⟩ | ⟨w65, h65⟩
    · subst w65
      have hvd := (inR_nI (by omega)).mp h65
      refine n_if_eq X 86 dX5_behindActs_68 (by decide) (by decide) (fun c68 => by exact absurd c68 (by decide)) (fun c68 => ?_)
      refine x_aload_n X dX5_behindActs_71 rfl (lv_at hl 0 rfl) ?_
      refine x_get X hW (v := .ref (xa 2)) hi5 0 rfl rfl 2 (by decide) (List.mem_of_getElem? (i := 1) rfl) rfl rfl dX5_behindActs_72 ?_
      refine x_iload X dX5_behindActs_75 (lv_at hl 4 rfl) ?_
      refine x_bipush (v := nI 10) X dX5_behindActs_77 (by decide) ?_
      refine n_isub X dX5_behindActs_79 (by omega) ?_
      refine x_callVi X hW (As := [.int (nI (v - 10))]) (rest := []) (wz := fun u => (wX cI cZ xq xa xg xh ++ (wC cI cZ (xa 1) ca cg cF ++ (wC cI cZ (xa 2) da dg dF ++ (wT cI cZ tq ta tg ++ (wB cI (ta 3) bf)))))) (c_X0_levelOf l D cI cZ cO (xa 2) da dg dF _ (v - 10) (show (v - 10) < (dg 0) from hvd) (show (dg 0) ≤ 4 from (by omega))) (cwV 1 X.2.2.2.2.2.1 gX5_behindActs_X0_levelOf rfl rfl rfl (by decide +kernel) ⟨Nat.le_of_ble_eq_true rfl, Nat.le_of_ble_eq_true rfl⟩) 5 0 rfl rfl rfl [5, 6, 7, 8] [0, 1, 2, 3, 4, 9, 10] [0, 1, 2, 3, 4, 7, 8, 9, 10, 5, 6] rfl rfl (by decide) (fun _ => rfl) rfl hl.1 rfl (Nat.le_of_ble_eq_true rfl) ⟨Nat.le_of_ble_eq_true rfl, Nat.le_of_ble_eq_true rfl⟩ dX5_behindActs_80 (fun r9 u10 H locs w80 hW => ?_)
      have hW : Wd D A s.heap H locs (wX cI cZ xq xa xg xh ++ (wC cI cZ (xa 1) ca cg cF ++ (wC cI cZ (xa 2) da dg dF ++ (wT cI cZ tq ta tg ++ (wB cI (ta 3) bf))))) := hW
      replace w80 : r9 = nI ((dF 3) (v - 10)) := w80
      subst w80
      refine x_goto X 88 dX5_behindActs_83 (by decide) ?_
      exact x_iret X hW rfl () ((by unfold tailA; rw [if_pos (by omega)]; first | rw [if_pos hvd] | rw [if_neg hvd])) rfl dX5_behindActs_88
    · subst w65
      have hvd : ¬ v - 10 < dg 0 := fun q => h65 ((inR_nI (by omega)).mpr q)
      refine n_if_eq X 86 dX5_behindActs_68 (by decide) (by decide) (fun c68 => ?_) (fun c68 => by exact absurd c68 (by decide))
      refine x_bipush (v := (-9 : Int32)) X dX5_behindActs_86 (by decide) ?_
      exact x_iret X hW rfl () ((by unfold tailA; rw [if_pos (by omega)]; first | rw [if_pos hvd] | rw [if_neg hvd])) rfl dX5_behindActs_88
