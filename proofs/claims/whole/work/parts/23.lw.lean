
theorem va_D_iff {A : Nat → Prop} {ws : va_W} : va_D A ws ↔ (ws.map (fun q => q.1)).Nodup ∧ ∀ q ∈ ws, A q.1 := by
  constructor
  · intro h
    refine ⟨?_, fun q hq => ?_⟩
    · unfold List.Nodup
      rw [List.pairwise_iff_getElem]
      intro i j hi hj hij e
      rw [List.length_map] at hi hj
      rw [List.getElem_map, List.getElem_map] at e
      have := h.1 i j _ _ (List.getElem?_eq_getElem hi) (List.getElem?_eq_getElem hj) e
      omega
    · obtain ⟨k, hk⟩ := List.getElem?_of_mem hq
      exact h.2 k q hk
  · intro ⟨h1, h2⟩
    unfold List.Nodup at h1
    rw [List.pairwise_iff_getElem] at h1
    refine ⟨fun i j p q hi hj e => ?_, fun k q hk => h2 q (List.mem_of_getElem? hk)⟩
    obtain ⟨hi1, hi2⟩ := List.getElem?_eq_some_iff.mp hi
    obtain ⟨hj1, hj2⟩ := List.getElem?_eq_some_iff.mp hj
    have key : ∀ (i j : Nat) (hi : i < ws.length) (hj : j < ws.length), i < j → (ws[i]).1 ≠ (ws[j]).1 := by
      intro i j hi hj hij
      have := h1 i j (by rw [List.length_map]; exact hi) (by rw [List.length_map]; exact hj) hij
      rw [List.getElem_map, List.getElem_map] at this
      exact this
    rcases Nat.lt_trichotomy i j with z | z | z
    · exact absurd (by rw [hi2, hj2]; exact e) (key i j hi1 hj1 z)
    · exact z
    · exact absurd (by rw [hi2, hj2]; exact e.symm) (key j i hj1 hi1 z)
theorem Wd.perm {D : va_G} {A : Nat → Prop} {H0 H : Heap} {locs : List Loc} {w w' : va_W} (h : Wd D A H0 H locs w) (hp : List.Perm w w') : Wd D A H0 H locs w' := by
  refine ⟨fun k q hk => ?_, ?_, h.2.2⟩
  · obtain ⟨j, hj⟩ := List.getElem?_of_mem (hp.mem_iff.mpr (List.mem_of_getElem? hk))
    exact h.1 j q hj
  · have := va_D_iff.mp h.2.1
    exact va_D_iff.mpr ⟨(hp.map _).nodup_iff.mp this.1, fun q hq => this.2 q (hp.mem_iff.mpr hq)⟩
theorem mf {x a r r' : va_W} (h : List.Perm r (x ++ r')) : List.Perm (a ++ r) (x ++ (a ++ r')) := (h.append_left a).trans (List.perm_append_comm_assoc a x r')
theorem mf0 {x a : va_W} : List.Perm (a ++ x) (x ++ a) := List.perm_append_comm
theorem mfr (x r : va_W) : List.Perm (x ++ r) (x ++ r) := List.Perm.refl _
theorem ap1 {w x r : va_W} (h : List.Perm w (x ++ r)) : List.Perm w (x ++ r) := h
theorem apn {w x y r r' : va_W} (h : List.Perm w (x ++ r')) (h2 : List.Perm r' (y ++ r)) : List.Perm w ((x ++ y) ++ r) := by
  rw [List.append_assoc]; exact h.trans (h2.append_left x)
theorem nd_map (n : Nat) : ∀ k l, va_nd ((List.range' k l).map (fun i => n + i)) = true
  | _, 0 => rfl
  | k, l + 1 => by
    rw [List.range'_succ, List.map_cons]
    unfold va_nd
    rw [nd_map n (k + 1) l, Bool.and_true, decide_eq_true_eq]
    intro h
    obtain ⟨i, hi, e⟩ := List.mem_map.mp h
    have := (List.mem_range'_1.mp hi).1
    omega
theorem geoC (wc wr : va_W) : (List.range' 0 wc.length).map (fun i => (wc ++ wr)[i]?) = wc.map some := by
  apply List.ext_getElem?
  intro k
  rw [List.getElem?_map, List.getElem?_map]
  by_cases h : k < wc.length
  · rw [List.getElem?_range' h, List.getElem?_eq_getElem h]
    simp only [Option.map_some, Nat.zero_add, Nat.one_mul]
    rw [List.getElem?_append_left h, List.getElem?_eq_getElem h]
  · rw [List.getElem?_eq_none (by rw [List.length_range']; omega), List.getElem?_eq_none (by omega)]; rfl
theorem geoR (wc wr : va_W) : ((List.range' 0 wr.length).map (fun i => wc.length + i)).map (fun i => (wc ++ wr)[i]?) = wr.map some := by
  rw [List.map_map]
  apply List.ext_getElem?
  intro k
  rw [List.getElem?_map, List.getElem?_map]
  by_cases h : k < wr.length
  · rw [List.getElem?_range' h, List.getElem?_eq_getElem h]
    simp only [Option.map_some, Nat.zero_add, Nat.one_mul, Function.comp_def]
    rw [List.getElem?_append_right (by omega), Nat.add_sub_cancel_left, List.getElem?_eq_getElem h]
  · rw [List.getElem?_eq_none (by rw [List.length_range']; omega), List.getElem?_eq_none (by omega)]; rfl
section G7
variable {p : Program} {l : Launch} {e : Env} {R : Room} {s : State} {m : MethodId} {args : Array Value} {below : List Frame} {meth : Method} {c : Code} {H : Heap} {locs : List Loc} {cells slots : Nat} {Q : State → Prop}
variable {cc : ByteArray} {nL : Nat} {ret : Option FieldType} {Ts : List Cond} {own : String} {D : va_G} {tys : List (ClassId × FieldType)} {A : Nat → Prop} {pc : Nat} {ls : Array Slot} {rest : List Value} {ws : va_W}
theorem x_sld (X : Fx p s m args meth c cc nL ret Ts own D tys A) (hW : Wd D A s.heap H locs ws) {b L : Nat} {xs : Nat → Int32} (hX : va_X b L xs s s.heap) (hbl : b < s.heap.size) (hbA : ¬ A b) {j : Nat} (hj : j < L) (hL : L ≤ 2 ^ 31) (hd : decode cc pc = .ok (.iaload, 1)) (kk : W p l e R s m args below meth c H locs cells slots Q (F0 m (pc + 1) ls (.int (xs j) :: rest))) : W p l e R s m args below meth c H locs cells slots Q (F0 m pc ls (.int (nI j) :: .ref b :: rest)) := va_sld X.1 X.2.1 hX hbl hbA hW.2.2 (in_nI hj hL) hd (by rw [nI_clamp (by omega)]; exact kk)
theorem x_slen (X : Fx p s m args meth c cc nL ret Ts own D tys A) (hW : Wd D A s.heap H locs ws) {b L : Nat} {xs : Nat → Int32} (hX : va_X b L xs s s.heap) (hbl : b < s.heap.size) (hbA : ¬ A b) (hd : decode cc pc = .ok (.arraylength, 1)) (kk : W p l e R s m args below meth c H locs cells slots Q (F0 m (pc + 1) ls (.int (nI L) :: rest))) : W p l e R s m args below meth c H locs cells slots Q (F0 m pc ls (.ref b :: rest)) := va_slen X.1 X.2.1 hX hbl hbA hW.2.2 hd kk
theorem x_pcallVi (X : Fx p s m args meth c cc nL ret Ts own D tys A) (hW0 : Wd D A s.heap H locs ws) {y : MethodName} {bytes : ByteArray} {maxL n index : Nat} {rt : Option FieldType} {wsy : List Cond} {rm : Room} {C : String} {b : Nat} {As st0 : List Value} {wc : va_W} {S : Type} {w1 wz : S → va_W} {post : Int32 → S → Prop} (wr : va_W) (hM : Met l y wsy rm (va_Pc (.ref b :: As) (st_W D tys wc H.size)) (va_Qi post (fun u t => at_W D tys (va_A wc H.size) (w1 u) t) (va_A wc H.size)) 0 0 (va_A wc H.size)) (cw : CallW R s args own C index y bytes maxL rt wsy rm 0 0 n) (ci : Nat) {fs : List Value} {q : vw_C} (he : (wc ++ wr)[0]? = some (b, .inr (ci, fs))) (hc : vwCl[ci]? = some q) (hq : q.1 = C) (hp : List.Perm ws (wc ++ wr)) (hz0 : ∀ u, List.Perm (wz u) (w1 u ++ wr)) (hn : As.length = n) (hsz : ls.size = nL) (hst : st0 = As.reverse ++ .ref b :: rest) (hrm : (rest.map fun v => v.category).sum ≤ 8) (hcs : cells + 0 ≤ R.cells ∧ slots + 0 ≤ R.slots) (hd : decode cc pc = .ok (.invokevirtual index, 3)) (kk : ∀ (r : Int32) (u : S) (H1 : Heap) (locs1 : List Loc), post r u → Wd D A s.heap H1 locs1 (wz u) → W p l e R s m args below meth c H1 locs1 cells slots Q (F0 m (pc + 3) ls (.int r :: rest))) : W p l e R s m args below meth c H locs cells slots Q (F0 m pc ls st0) := by
  have hW := hW0.perm hp
  have hC := geoC wc wr
  have hF := va_free (wc := wc) hW.2.1 hW.2.2 X.2.2.2.2.2.2.2.2 (List.range' 0 wc.length) hC
  have hnC : va_nd (List.range' 0 wc.length) = true := by have := nd_map 0 0 wc.length; simpa using this
  refine va_calli (va_runV (As := As) (rest := rest) ⟨X.1, X.2.1, X.2.2.2.1, X.2.2.2.2.1, X.2.2.2.2.2.1⟩ hM cw ⟨st_W_blind, hq ▸ va_recv (D := D) (cl := vwCl) X.2.2.2.2.2.2.2.1 hW.1 hc he, fun U hU hWm => ⟨rfl, by rw [hU], by rw [hU]; exact hW.1.sub (List.range' 0 wc.length) (fm_of hC), va_K.moved hWm.alike X.2.2.2.2.2.2.2.1, (hW.2.1.sub (List.range' 0 wc.length) hnC hC).weaken (fun _ _ _ _ => trivial)⟩⟩ rfl hn hsz hst (lv_room hrm) hd ⟨hcs.1, hcs.2⟩) hW.2.2 (fun q _ h => hF q h) hF (fun r u t H1 locs1 ht hvm hw hB hz1 hk1 hS => ?_)
  obtain ⟨hP1, hK1, hD1⟩ := hB
  rw [ht] at hP1
  obtain ⟨hP2, hD2⟩ := va_join hW.1 hW.2.1 (List.range' 0 wc.length) ((List.range' 0 wr.length).map (fun i => wc.length + i)) hC (geoR wc wr) (nd_map _ 0 wr.length) (fun i hi hi2 => by
    obtain ⟨j, hj, e⟩ := List.mem_map.mp hi
    have := (List.mem_range'_1.mp hi2).2
    omega) hk1 hF hP1 hD1
  exact kk r u H1 locs1 hw (Wd.perm (w := wr ++ w1 u) ⟨hP2, hD2, hS⟩ (List.perm_append_comm.trans (hz0 u).symm))
theorem x_pcallVl (X : Fx p s m args meth c cc nL ret Ts own D tys A) (hW0 : Wd D A s.heap H locs ws) {y : MethodName} {bytes : ByteArray} {maxL n index : Nat} {rt : Option FieldType} {wsy : List Cond} {rm : Room} {C : String} {b : Nat} {As st0 : List Value} {wc : va_W} {S : Type} {w1 wz : S → va_W} {post : Int64 → S → Prop} (wr : va_W) (hM : Met l y wsy rm (va_Pc (.ref b :: As) (st_W D tys wc H.size)) (va_Ql post (fun u t => at_W D tys (va_A wc H.size) (w1 u) t) (va_A wc H.size)) 0 0 (va_A wc H.size)) (cw : CallW R s args own C index y bytes maxL rt wsy rm 0 0 n) (ci : Nat) {fs : List Value} {q : vw_C} (he : (wc ++ wr)[0]? = some (b, .inr (ci, fs))) (hc : vwCl[ci]? = some q) (hq : q.1 = C) (hp : List.Perm ws (wc ++ wr)) (hz0 : ∀ u, List.Perm (wz u) (w1 u ++ wr)) (hn : As.length = n) (hsz : ls.size = nL) (hst : st0 = As.reverse ++ .ref b :: rest) (hrm : (rest.map fun v => v.category).sum ≤ 8) (hcs : cells + 0 ≤ R.cells ∧ slots + 0 ≤ R.slots) (hd : decode cc pc = .ok (.invokevirtual index, 3)) (kk : ∀ (r : Int64) (u : S) (H1 : Heap) (locs1 : List Loc), post r u → Wd D A s.heap H1 locs1 (wz u) → W p l e R s m args below meth c H1 locs1 cells slots Q (F0 m (pc + 3) ls (.long r :: rest))) : W p l e R s m args below meth c H locs cells slots Q (F0 m pc ls st0) := by
  have hW := hW0.perm hp
  have hC := geoC wc wr
  have hF := va_free (wc := wc) hW.2.1 hW.2.2 X.2.2.2.2.2.2.2.2 (List.range' 0 wc.length) hC
  have hnC : va_nd (List.range' 0 wc.length) = true := by have := nd_map 0 0 wc.length; simpa using this
  refine va_calll (va_runV (As := As) (rest := rest) ⟨X.1, X.2.1, X.2.2.2.1, X.2.2.2.2.1, X.2.2.2.2.2.1⟩ hM cw ⟨st_W_blind, hq ▸ va_recv (D := D) (cl := vwCl) X.2.2.2.2.2.2.2.1 hW.1 hc he, fun U hU hWm => ⟨rfl, by rw [hU], by rw [hU]; exact hW.1.sub (List.range' 0 wc.length) (fm_of hC), va_K.moved hWm.alike X.2.2.2.2.2.2.2.1, (hW.2.1.sub (List.range' 0 wc.length) hnC hC).weaken (fun _ _ _ _ => trivial)⟩⟩ rfl hn hsz hst (lv_room hrm) hd ⟨hcs.1, hcs.2⟩) hW.2.2 (fun q _ h => hF q h) hF (fun r u t H1 locs1 ht hvm hw hB hz1 hk1 hS => ?_)
  obtain ⟨hP1, hK1, hD1⟩ := hB
  rw [ht] at hP1
  obtain ⟨hP2, hD2⟩ := va_join hW.1 hW.2.1 (List.range' 0 wc.length) ((List.range' 0 wr.length).map (fun i => wc.length + i)) hC (geoR wc wr) (nd_map _ 0 wr.length) (fun i hi hi2 => by
    obtain ⟨j, hj, e⟩ := List.mem_map.mp hi
    have := (List.mem_range'_1.mp hi2).2
    omega) hk1 hF hP1 hD1
  exact kk r u H1 locs1 hw (Wd.perm (w := wr ++ w1 u) ⟨hP2, hD2, hS⟩ (List.perm_append_comm.trans (hz0 u).symm))
end G7
/-! what ties the two worlds, part by part -/
def RC (n rn : Nat) (kd lv lm : Nat → Nat) (n' rn' : Nat) (kd' lv' lm' : Nat → Nat) : Prop := (n = 0 ∨ 2 ≤ n) ∧ n ≤ 4 ∧ rn ≤ 3 ∧ (∀ z, kd z ≤ 2) ∧ (∀ z, lv z ≤ 9) ∧ (∀ z, lm z ≤ 9) ∧ n' = n ∧ rn' = rn ∧ kd' = kd ∧ lv' = lv ∧ lm' = lm
def RR (n rc : Nat) (ro : Nat → Nat) (ra : Nat → Int32) (rd : Nat → Nat) (rc' : Nat) (ro' : Nat → Nat) (ra' : Nat → Int32) (rd' : Nat → Nat) : Prop := rc ≤ 8 ∧ (∀ z, z < rc → ro z < n) ∧ (∀ z, z < rc → okA (ra z)) ∧ (∀ z, rd z ≤ 1) ∧ rc' = rc ∧ ro' = ro ∧ ra' = ra ∧ rd' = rd
def RD (n rn : Nat) (kd lv lm : Nat → Nat) : Prop := n ≤ 4 ∧ rn ≤ 3 ∧ (∀ z, kd z ≤ 2) ∧ (∀ z, lv z ≤ 9) ∧ ∀ z, lm z ≤ 9
def RT (tg : Nat → Nat → Nat) (tf : Nat → Nat → Int32) (sz : Nat → Int32) (ln : Nat → Nat) (sh : Nat → Int32) : Prop := (∀ k, tg k 0 ≤ 1) ∧ (∀ k, tg k 1 ≤ 2) ∧ (∀ k, tg k 2 ≤ 60) ∧ (∀ k, ln k = tg k 1) ∧ (∀ k, k < 4 → (tg k 0 = 0 ∧ sz k = (-1 : Int32)) ∨ (tg k 0 = 1 ∧ sz k = nI (tg k 2))) ∧ ∀ k, k < 4 → tg k 0 = 1 → ∀ i, i < tg k 2 → tf k i = sh (60 * k + i)
def lw_I (D : va_G) (cI cZ cO : ClassId) (A : Nat → Prop) (H0 : Heap) (xq mq : Nat) (H : Heap) (locs : List Loc) : Prop := ∃ (xa : Nat → Nat) (xg : Nat → Nat) (xh : Nat → Int32) (ys : Nat → Nat) (ca : Nat → Nat) (cg : Nat → Nat) (cF : Nat → Nat → Nat) (da : Nat → Nat) (dg : Nat → Nat) (dF : Nat → Nat → Nat) (ra : Nat → Nat) (rg : Nat → Nat) (rF : Nat → Nat → Nat) (rE : Nat → Nat → Int32) (za : Nat → Nat) (zg : Nat → Nat) (zh : Nat → Int32) (zk : Int64) (zF : Nat → Nat → Nat) (ma : Nat → Nat) (mg : Nat → Nat) (mh : Nat → Int32) (mF : Nat → Nat → Nat) (mE : Nat → Nat → Int32) (ta : Nat → Nat → Nat) (tg : Nat → Nat → Nat) (tf : Nat → Nat → Int32), Wd D A H0 H locs (wX cI cZ xq xa xg xh ++ (wA cO (xa 0) ys ++ (wC cI cZ (xa 1) ca cg cF ++ (wC cI cZ (xa 2) da dg dF ++ (wR cI cZ (xa 3) ra rg rF rE ++ (wS cI cZ (xa 4) za zg zh zk zF ++ (wT cI cZ (ys 0) (ta 0) (tg 0) ++ (wB cI (ta 0 3) (tf 0) ++ (wT cI cZ (ys 1) (ta 1) (tg 1) ++ (wB cI (ta 1 3) (tf 1) ++ (wT cI cZ (ys 2) (ta 2) (tg 2) ++ (wB cI (ta 2 3) (tf 2) ++ (wT cI cZ (ys 3) (ta 3) (tg 3) ++ (wB cI (ta 3 3) (tf 3) ++ (wM cI cZ mq ma mg mh mF mE))))))))))))))) ∧ (RC (cg 0) (cg 1) (cF 2) (cF 3) (cF 4) (mg 2) (mg 1) (mF 3) (mF 4) (mF 5)) ∧ (RR (cg 0) (rg 0) (rF 1) (rE 2) (rF 3) (mg 21) (mF 22) (mE 23) (mF 24)) ∧ (RD (dg 0) (dg 1) (dF 2) (dF 3) (dF 4)) ∧ (SK (zF 0) (zF 1) (zg 2) (zh 4) zk (zF 3)) ∧ (RT tg tf (mE 25) (mF 26) (mE 27)) ∧ ((xh 5) = (mh 29) ∧ (xg 6) = (mg 0)) ∧ (∀ z0, (mF 12) z0 ≤ 9)

theorem RC_fill {n rn : Nat} {kd lv lm : Nat → Nat} {n' rn' : Nat} {kd' lv' lm' : Nat → Nat} (h : RC n rn kd lv lm n' rn' kd' lv' lm') (r v : Int32) : RC n rn kd (sFill n lv r v) lm n' rn' kd' (sFill n' lv' r v) lm' := by
  obtain ⟨a1, a2, a3, a4, a5, a6, rfl, rfl, rfl, rfl, rfl⟩ := h
  refine ⟨a1, a2, a3, a4, ?_, a6, rfl, rfl, rfl, rfl, rfl⟩
  unfold sFill onR
  split
  · split
    next q => obtain ⟨j, hj, rfl⟩ := inR_ex q (by decide); exact sF_le a5 (by rw [nI_clamp (by omega)]; omega)
    next => exact a5
  · exact a5
theorem RC_rain {n rn : Nat} {kd lv lm : Nat → Nat} {n' rn' : Nat} {kd' lv' lm' : Nat → Nat} (h : RC n rn kd lv lm n' rn' kd' lv' lm') (v : Int32) : RC n (sRain n rn v) kd lv lm n' (sRain n' rn' v) kd' lv' lm' := by
  obtain ⟨a1, a2, a3, a4, a5, a6, rfl, rfl, rfl, rfl, rfl⟩ := h
  refine ⟨a1, a2, ?_, a4, a5, a6, rfl, rfl, rfl, rfl, rfl⟩
  unfold sRain onR
  split
  next q =>
    obtain ⟨j, hj, rfl⟩ := inR_ex q (by decide)
    rw [nI_clamp (by omega)]
    dsimp only
    split <;> omega
  next => exact a3
theorem RC_open {n rn : Nat} {kd lv lm : Nat → Nat} {n' rn' : Nat} {kd' lv' lm' : Nat → Nat} (h : RC n rn kd lv lm n' rn' kd' lv' lm') (g : Int32) : RC n rn kd (sOpen n kd lv lm g) lm n' rn' kd' (sOpen n' kd' lv' lm' g) lm' := by
  obtain ⟨a1, a2, a3, a4, a5, a6, rfl, rfl, rfl, rfl, rfl⟩ := h
  refine ⟨a1, a2, a3, a4, ?_, a6, rfl, rfl, rfl, rfl, rfl⟩
  unfold sOpen onR
  split
  · dsimp only
    split
    next q => exact thru_le a5 (Nat.le_trans (want_le _ _) (a6 _)) q.2
    next => exact a5
  · exact a5
theorem RC_nights {n rn : Nat} {kd lv lm : Nat → Nat} {n' rn' : Nat} {kd' lv' lm' : Nat → Nat} (h : RC n rn kd lv lm n' rn' kd' lv' lm') (v : Int32) : RC n rn kd (sNights n rn lv v) lm n' rn' kd' (sNights n' rn' lv' v) lm' := by
  obtain ⟨a1, a2, a3, a4, a5, a6, rfl, rfl, rfl, rfl, rfl⟩ := h
  refine ⟨a1, a2, a3, a4, ?_, a6, rfl, rfl, rfl, rfl, rfl⟩
  unfold sNights onR
  split
  · dsimp only
    split
    · exact a5
    · exact nts_le a5 _
  · exact a5
set_option maxHeartbeats 4000000 in
set_option maxRecDepth 100000 in
theorem law_trace {p : Program} {e : Env} {s : State} {m : MethodId} {below : List Frame} {meth : Method} {c : Code} {D : va_G} {cI cZ cO : ClassId} {A : Nat → Prop} {Q : State → Prop} {l : Launch} {b L xq mq i : Nat} {xs : Nat → Int32} {H : Heap} {locs : List Loc} {ls : Array Slot} (X : Fx p s m #[Value.ref b] meth c code 4 ret wsL_law RL D (ty3 cI cZ cO) A) (hX : va_X b L xs s s.heap) (hbl : b < s.heap.size) (hbA : ¬ A b) (hL : L ≤ 3072) (hi : i + 6 ≤ L) (hI : lw_I D cI cZ cO A s.heap xq mq H locs) (hl : lv_has ls 4 [(3, .int (nI i)), (2, .ref mq), (1, .ref xq), (0, .ref b)]) (next : ∀ (H : Heap) (locs : List Loc) (ls : Array Slot), lw_I D cI cZ cO A s.heap xq mq H locs → lv_has ls 4 [(3, .int (nI i)), (2, .ref mq), (1, .ref xq), (0, .ref b)] → W p l e room_1 s m #[Value.ref b] below meth c H locs 600000 7302250 Q (F0 m 1045 ls [])) : W p l e room_1 s m #[Value.ref b] below meth c H locs 600000 7302250 Q (F0 m 996 ls []) := by
  obtain ⟨xa, xg, xh, ys, ca, cg, cF, da, dg, dF, ra, rg, rF, rE, za, zg, zh, zk, zF, ma, mg, mh, mF, mE, ta, tg, tf, hW, hRC, hRR, hRD, hSK, hRT, hRX, hRM⟩ := hI
  have hW : Wd D A s.heap H locs (wX cI cZ xq xa xg xh ++ (wA cO (xa 0) ys ++ (wC cI cZ (xa 1) ca cg cF ++ (wC cI cZ (xa 2) da dg dF ++ (wR cI cZ (xa 3) ra rg rF rE ++ (wS cI cZ (xa 4) za zg zh zk zF ++ (wT cI cZ (ys 0) (ta 0) (tg 0) ++ (wB cI (ta 0 3) (tf 0) ++ (wT cI cZ (ys 1) (ta 1) (tg 1) ++ (wB cI (ta 1 3) (tf 1) ++ (wT cI cZ (ys 2) (ta 2) (tg 2) ++ (wB cI (ta 2 3) (tf 2) ++ (wT cI cZ (ys 3) (ta 3) (tg 3) ++ (wB cI (ta 3 3) (tf 3) ++ (wM cI cZ mq ma mg mh mF mE))))))))))))))) := hW
  obtain ⟨h02, hn, hrn, hk, hlv, hm, e2, e1, e3, e4, e5⟩ := id hRC
  obtain ⟨hrc, hro, hra, hrd, f1, f2, f3, f4⟩ := id hRR
  obtain ⟨hdn, hdr, hdk, hdl, hdm⟩ := id hRD
  obtain ⟨ht0, ht1, ht2, htl, hts, htc⟩ := id hRT
  refine x_aload_n X dL_law_996 rfl (lv_at hl 2 rfl) ?_
  refine x_pcallVi X hW (As := []) (rest := []) (wz := fun u => (wX cI cZ xq xa xg xh ++ (wA cO (xa 0) ys ++ (wC cI cZ (xa 1) ca cg cF ++ (wC cI cZ (xa 2) da dg dF ++ (wR cI cZ (xa 3) ra rg rF rE ++ (wS cI cZ (xa 4) za zg zh zk zF ++ (wT cI cZ (ys 0) (ta 0) (tg 0) ++ (wB cI (ta 0 3) (tf 0) ++ (wT cI cZ (ys 1) (ta 1) (tg 1) ++ (wB cI (ta 1 3) (tf 1) ++ (wT cI cZ (ys 2) (ta 2) (tg 2) ++ (wB cI (ta 2 3) (tf 2) ++ (wT cI cZ (ys 3) (ta 3) (tg 3) ++ (wB cI (ta 3 3) (tf 3) ++ (wM cI cZ mq ma mg mh mF mE)))))))))))))))) (wA cO (xa 0) ys ++ (wC cI cZ (xa 1) ca cg cF ++ (wC cI cZ (xa 2) da dg dF ++ (wR cI cZ (xa 3) ra rg rF rE ++ (wS cI cZ (xa 4) za zg zh zk zF ++ (wT cI cZ (ys 0) (ta 0) (tg 0) ++ (wB cI (ta 0 3) (tf 0) ++ (wT cI cZ (ys 1) (ta 1) (tg 1) ++ (wB cI (ta 1 3) (tf 1) ++ (wT cI cZ (ys 2) (ta 2) (tg 2) ++ (wB cI (ta 2 3) (tf 2) ++ (wT cI cZ (ys 3) (ta 3) (tg 3) ++ (wB cI (ta 3 3) (tf 3) ++ (wM cI cZ mq ma mg mh mF mE)))))))))))))) (c_X5_trace l D cI cZ cO xq xa xg xh _ ) (cwV 0 X.2.2.2.2.2.1 gL_law_X5_trace rfl rfl rfl (by decide +kernel) ⟨Nat.le_of_ble_eq_true rfl, Nat.le_of_ble_eq_true rfl⟩) 4 rfl rfl rfl (ap1 (mfr _ _)) (fun u => (ap1 (mfr _ _))) rfl hl.1 rfl (Nat.le_of_ble_eq_true rfl) ⟨Nat.le_of_ble_eq_true rfl, Nat.le_of_ble_eq_true rfl⟩ dL_law_997 (fun r1 u2 H locs w997 hW => ?_)
  have hW : Wd D A s.heap H locs (wX cI cZ xq xa xg xh ++ (wA cO (xa 0) ys ++ (wC cI cZ (xa 1) ca cg cF ++ (wC cI cZ (xa 2) da dg dF ++ (wR cI cZ (xa 3) ra rg rF rE ++ (wS cI cZ (xa 4) za zg zh zk zF ++ (wT cI cZ (ys 0) (ta 0) (tg 0) ++ (wB cI (ta 0 3) (tf 0) ++ (wT cI cZ (ys 1) (ta 1) (tg 1) ++ (wB cI (ta 1 3) (tf 1) ++ (wT cI cZ (ys 2) (ta 2) (tg 2) ++ (wB cI (ta 2 3) (tf 2) ++ (wT cI cZ (ys 3) (ta 3) (tg 3) ++ (wB cI (ta 3 3) (tf 3) ++ (wM cI cZ mq ma mg mh mF mE))))))))))))))) := hW
  replace w997 : r1 = (xh 5) := w997
  subst w997
  refine x_aload_n X dL_law_1000 rfl (lv_at hl 1 rfl) ?_
  refine x_pcallVi X hW (As := []) (rest := [.int (xh 5)]) (wz := fun u => (wX cI cZ xq xa xg xh ++ (wA cO (xa 0) ys ++ (wC cI cZ (xa 1) ca cg cF ++ (wC cI cZ (xa 2) da dg dF ++ (wR cI cZ (xa 3) ra rg rF rE ++ (wS cI cZ (xa 4) za zg zh zk zF ++ (wT cI cZ (ys 0) (ta 0) (tg 0) ++ (wB cI (ta 0 3) (tf 0) ++ (wT cI cZ (ys 1) (ta 1) (tg 1) ++ (wB cI (ta 1 3) (tf 1) ++ (wT cI cZ (ys 2) (ta 2) (tg 2) ++ (wB cI (ta 2 3) (tf 2) ++ (wT cI cZ (ys 3) (ta 3) (tg 3) ++ (wB cI (ta 3 3) (tf 3) ++ (wM cI cZ mq ma mg mh mF mE)))))))))))))))) (wX cI cZ xq xa xg xh ++ (wA cO (xa 0) ys ++ (wC cI cZ (xa 1) ca cg cF ++ (wC cI cZ (xa 2) da dg dF ++ (wR cI cZ (xa 3) ra rg rF rE ++ (wS cI cZ (xa 4) za zg zh zk zF ++ (wT cI cZ (ys 0) (ta 0) (tg 0) ++ (wB cI (ta 0 3) (tf 0) ++ (wT cI cZ (ys 1) (ta 1) (tg 1) ++ (wB cI (ta 1 3) (tf 1) ++ (wT cI cZ (ys 2) (ta 2) (tg 2) ++ (wB cI (ta 2 3) (tf 2) ++ (wT cI cZ (ys 3) (ta 3) (tg 3) ++ (wB cI (ta 3 3) (tf 3))))))))))))))) (c_X6_trace l D cI cZ cO mq ma mg mh mF mE _ ) (cwV 0 X.2.2.2.2.2.1 gL_law_X6_trace rfl rfl rfl (by decide +kernel) ⟨Nat.le_of_ble_eq_true rfl, Nat.le_of_ble_eq_true rfl⟩) 5 rfl rfl rfl (ap1 (mf (mf (mf (mf (mf (mf (mf (mf (mf (mf (mf (mf (mf mf0)))))))))))))) (fun u => (ap1 (mf (mf (mf (mf (mf (mf (mf (mf (mf (mf (mf (mf (mf mf0))))))))))))))) rfl hl.1 rfl (Nat.le_of_ble_eq_true rfl) ⟨Nat.le_of_ble_eq_true rfl, Nat.le_of_ble_eq_true rfl⟩ dL_law_1001 (fun r3 u4 H locs w1001 hW => ?_)
  have hW : Wd D A s.heap H locs (wX cI cZ xq xa xg xh ++ (wA cO (xa 0) ys ++ (wC cI cZ (xa 1) ca cg cF ++ (wC cI cZ (xa 2) da dg dF ++ (wR cI cZ (xa 3) ra rg rF rE ++ (wS cI cZ (xa 4) za zg zh zk zF ++ (wT cI cZ (ys 0) (ta 0) (tg 0) ++ (wB cI (ta 0 3) (tf 0) ++ (wT cI cZ (ys 1) (ta 1) (tg 1) ++ (wB cI (ta 1 3) (tf 1) ++ (wT cI cZ (ys 2) (ta 2) (tg 2) ++ (wB cI (ta 2 3) (tf 2) ++ (wT cI cZ (ys 3) (ta 3) (tg 3) ++ (wB cI (ta 3 3) (tf 3) ++ (wM cI cZ mq ma mg mh mF mE))))))))))))))) := hW
  replace w1001 : r3 = (mh 29) := w1001
  subst w1001
  refine x_icmp_eq X 1045 dL_law_1004 (by decide) (fun c1004 => ?_) (fun c1004 => by exact absurd (by exact hRX.1) c1004)
  exact next _ _ _ ⟨xa, xg, xh, ys, ca, cg, cF, da, dg, dF, ra, rg, rF, rE, za, zg, zh, zk, zF, ma, mg, mh, mF, mE, ta, tg, tf, hW, hRC, hRR, hRD, hSK, hRT, hRX, hRM⟩ (lv_sub hl [0, 1, 2, 3] rfl)
set_option maxHeartbeats 4000000 in
set_option maxRecDepth 100000 in
theorem law_fault {p : Program} {e : Env} {s : State} {m : MethodId} {below : List Frame} {meth : Method} {c : Code} {D : va_G} {cI cZ cO : ClassId} {A : Nat → Prop} {Q : State → Prop} {l : Launch} {b L xq mq i : Nat} {xs : Nat → Int32} {H : Heap} {locs : List Loc} {ls : Array Slot} (X : Fx p s m #[Value.ref b] meth c code 4 ret wsL_law RL D (ty3 cI cZ cO) A) (hX : va_X b L xs s s.heap) (hbl : b < s.heap.size) (hbA : ¬ A b) (hL : L ≤ 3072) (hi : i + 6 ≤ L) (hI : lw_I D cI cZ cO A s.heap xq mq H locs) (hl : lv_has ls 4 [(3, .int (nI i)), (2, .ref mq), (1, .ref xq), (0, .ref b)]) (next : ∀ (H : Heap) (locs : List Loc) (ls : Array Slot), lw_I D cI cZ cO A s.heap xq mq H locs → lv_has ls 4 [(3, .int (nI i)), (2, .ref mq), (1, .ref xq), (0, .ref b)] → W p l e room_1 s m #[Value.ref b] below meth c H locs 600000 7302250 Q (F0 m 1045 ls [])) : W p l e room_1 s m #[Value.ref b] below meth c H locs 600000 7302250 Q (F0 m 1009 ls []) := by
  obtain ⟨xa, xg, xh, ys, ca, cg, cF, da, dg, dF, ra, rg, rF, rE, za, zg, zh, zk, zF, ma, mg, mh, mF, mE, ta, tg, tf, hW, hRC, hRR, hRD, hSK, hRT, hRX, hRM⟩ := hI
  have hW : Wd D A s.heap H locs (wX cI cZ xq xa xg xh ++ (wA cO (xa 0) ys ++ (wC cI cZ (xa 1) ca cg cF ++ (wC cI cZ (xa 2) da dg dF ++ (wR cI cZ (xa 3) ra rg rF rE ++ (wS cI cZ (xa 4) za zg zh zk zF ++ (wT cI cZ (ys 0) (ta 0) (tg 0) ++ (wB cI (ta 0 3) (tf 0) ++ (wT cI cZ (ys 1) (ta 1) (tg 1) ++ (wB cI (ta 1 3) (tf 1) ++ (wT cI cZ (ys 2) (ta 2) (tg 2) ++ (wB cI (ta 2 3) (tf 2) ++ (wT cI cZ (ys 3) (ta 3) (tg 3) ++ (wB cI (ta 3 3) (tf 3) ++ (wM cI cZ mq ma mg mh mF mE))))))))))))))) := hW
  obtain ⟨h02, hn, hrn, hk, hlv, hm, e2, e1, e3, e4, e5⟩ := id hRC
  obtain ⟨hrc, hro, hra, hrd, f1, f2, f3, f4⟩ := id hRR
  obtain ⟨hdn, hdr, hdk, hdl, hdm⟩ := id hRD
  obtain ⟨ht0, ht1, ht2, htl, hts, htc⟩ := id hRT
  refine x_aload_n X dL_law_1009 rfl (lv_at hl 2 rfl) ?_
  refine x_pcallVi X hW (As := []) (rest := []) (wz := fun u => (wX cI cZ xq xa xg xh ++ (wA cO (xa 0) ys ++ (wC cI cZ (xa 1) ca cg cF ++ (wC cI cZ (xa 2) da dg dF ++ (wR cI cZ (xa 3) ra rg rF rE ++ (wS cI cZ (xa 4) za zg zh zk zF ++ (wT cI cZ (ys 0) (ta 0) (tg 0) ++ (wB cI (ta 0 3) (tf 0) ++ (wT cI cZ (ys 1) (ta 1) (tg 1) ++ (wB cI (ta 1 3) (tf 1) ++ (wT cI cZ (ys 2) (ta 2) (tg 2) ++ (wB cI (ta 2 3) (tf 2) ++ (wT cI cZ (ys 3) (ta 3) (tg 3) ++ (wB cI (ta 3 3) (tf 3) ++ (wM cI cZ mq ma mg mh mF mE)))))))))))))))) (wA cO (xa 0) ys ++ (wC cI cZ (xa 1) ca cg cF ++ (wC cI cZ (xa 2) da dg dF ++ (wR cI cZ (xa 3) ra rg rF rE ++ (wS cI cZ (xa 4) za zg zh zk zF ++ (wT cI cZ (ys 0) (ta 0) (tg 0) ++ (wB cI (ta 0 3) (tf 0) ++ (wT cI cZ (ys 1) (ta 1) (tg 1) ++ (wB cI (ta 1 3) (tf 1) ++ (wT cI cZ (ys 2) (ta 2) (tg 2) ++ (wB cI (ta 2 3) (tf 2) ++ (wT cI cZ (ys 3) (ta 3) (tg 3) ++ (wB cI (ta 3 3) (tf 3) ++ (wM cI cZ mq ma mg mh mF mE)))))))))))))) (c_X5_fault l D cI cZ cO xq xa xg xh _ ) (cwV 0 X.2.2.2.2.2.1 gL_law_X5_fault rfl rfl rfl (by decide +kernel) ⟨Nat.le_of_ble_eq_true rfl, Nat.le_of_ble_eq_true rfl⟩) 4 rfl rfl rfl (ap1 (mfr _ _)) (fun u => (ap1 (mfr _ _))) rfl hl.1 rfl (Nat.le_of_ble_eq_true rfl) ⟨Nat.le_of_ble_eq_true rfl, Nat.le_of_ble_eq_true rfl⟩ dL_law_1010 (fun r1 u2 H locs w1010 hW => ?_)
  have hW : Wd D A s.heap H locs (wX cI cZ xq xa xg xh ++ (wA cO (xa 0) ys ++ (wC cI cZ (xa 1) ca cg cF ++ (wC cI cZ (xa 2) da dg dF ++ (wR cI cZ (xa 3) ra rg rF rE ++ (wS cI cZ (xa 4) za zg zh zk zF ++ (wT cI cZ (ys 0) (ta 0) (tg 0) ++ (wB cI (ta 0 3) (tf 0) ++ (wT cI cZ (ys 1) (ta 1) (tg 1) ++ (wB cI (ta 1 3) (tf 1) ++ (wT cI cZ (ys 2) (ta 2) (tg 2) ++ (wB cI (ta 2 3) (tf 2) ++ (wT cI cZ (ys 3) (ta 3) (tg 3) ++ (wB cI (ta 3 3) (tf 3) ++ (wM cI cZ mq ma mg mh mF mE))))))))))))))) := hW
  replace w1010 : r1 = nI ((xg 6)) := w1010
  subst w1010
  refine x_aload_n X dL_law_1013 rfl (lv_at hl 1 rfl) ?_
  refine x_pcallVi X hW (As := []) (rest := [.int (nI ((xg 6)))]) (wz := fun u => (wX cI cZ xq xa xg xh ++ (wA cO (xa 0) ys ++ (wC cI cZ (xa 1) ca cg cF ++ (wC cI cZ (xa 2) da dg dF ++ (wR cI cZ (xa 3) ra rg rF rE ++ (wS cI cZ (xa 4) za zg zh zk zF ++ (wT cI cZ (ys 0) (ta 0) (tg 0) ++ (wB cI (ta 0 3) (tf 0) ++ (wT cI cZ (ys 1) (ta 1) (tg 1) ++ (wB cI (ta 1 3) (tf 1) ++ (wT cI cZ (ys 2) (ta 2) (tg 2) ++ (wB cI (ta 2 3) (tf 2) ++ (wT cI cZ (ys 3) (ta 3) (tg 3) ++ (wB cI (ta 3 3) (tf 3) ++ (wM cI cZ mq ma mg mh mF mE)))))))))))))))) (wX cI cZ xq xa xg xh ++ (wA cO (xa 0) ys ++ (wC cI cZ (xa 1) ca cg cF ++ (wC cI cZ (xa 2) da dg dF ++ (wR cI cZ (xa 3) ra rg rF rE ++ (wS cI cZ (xa 4) za zg zh zk zF ++ (wT cI cZ (ys 0) (ta 0) (tg 0) ++ (wB cI (ta 0 3) (tf 0) ++ (wT cI cZ (ys 1) (ta 1) (tg 1) ++ (wB cI (ta 1 3) (tf 1) ++ (wT cI cZ (ys 2) (ta 2) (tg 2) ++ (wB cI (ta 2 3) (tf 2) ++ (wT cI cZ (ys 3) (ta 3) (tg 3) ++ (wB cI (ta 3 3) (tf 3))))))))))))))) (c_X6_fault l D cI cZ cO mq ma mg mh mF mE _ ) (cwV 0 X.2.2.2.2.2.1 gL_law_X6_fault rfl rfl rfl (by decide +kernel) ⟨Nat.le_of_ble_eq_true rfl, Nat.le_of_ble_eq_true rfl⟩) 5 rfl rfl rfl (ap1 (mf (mf (mf (mf (mf (mf (mf (mf (mf (mf (mf (mf (mf mf0)))))))))))))) (fun u => (ap1 (mf (mf (mf (mf (mf (mf (mf (mf (mf (mf (mf (mf (mf mf0))))))))))))))) rfl hl.1 rfl (Nat.le_of_ble_eq_true rfl) ⟨Nat.le_of_ble_eq_true rfl, Nat.le_of_ble_eq_true rfl⟩ dL_law_1014 (fun r3 u4 H locs w1014 hW => ?_)
  have hW : Wd D A s.heap H locs (wX cI cZ xq xa xg xh ++ (wA cO (xa 0) ys ++ (wC cI cZ (xa 1) ca cg cF ++ (wC cI cZ (xa 2) da dg dF ++ (wR cI cZ (xa 3) ra rg rF rE ++ (wS cI cZ (xa 4) za zg zh zk zF ++ (wT cI cZ (ys 0) (ta 0) (tg 0) ++ (wB cI (ta 0 3) (tf 0) ++ (wT cI cZ (ys 1) (ta 1) (tg 1) ++ (wB cI (ta 1 3) (tf 1) ++ (wT cI cZ (ys 2) (ta 2) (tg 2) ++ (wB cI (ta 2 3) (tf 2) ++ (wT cI cZ (ys 3) (ta 3) (tg 3) ++ (wB cI (ta 3 3) (tf 3) ++ (wM cI cZ mq ma mg mh mF mE))))))))))))))) := hW
  replace w1014 : r3 = nI ((mg 0)) := w1014
  subst w1014
  refine x_icmp_eq X 1045 dL_law_1017 (by decide) (fun c1017 => ?_) (fun c1017 => by exact absurd (by rw [hRX.2]) c1017)
  exact next _ _ _ ⟨xa, xg, xh, ys, ca, cg, cF, da, dg, dF, ra, rg, rF, rE, za, zg, zh, zk, zF, ma, mg, mh, mF, mE, ta, tg, tf, hW, hRC, hRR, hRD, hSK, hRT, hRX, hRM⟩ (lv_sub hl [0, 1, 2, 3] rfl)
set_option maxHeartbeats 4000000 in
set_option maxRecDepth 100000 in
theorem law_gates {p : Program} {e : Env} {s : State} {m : MethodId} {below : List Frame} {meth : Method} {c : Code} {D : va_G} {cI cZ cO : ClassId} {A : Nat → Prop} {Q : State → Prop} {l : Launch} {b L xq mq i : Nat} {xs : Nat → Int32} {H : Heap} {locs : List Loc} {ls : Array Slot} (X : Fx p s m #[Value.ref b] meth c code 4 ret wsL_law RL D (ty3 cI cZ cO) A) (hX : va_X b L xs s s.heap) (hbl : b < s.heap.size) (hbA : ¬ A b) (hL : L ≤ 3072) (hi : i + 6 ≤ L) (hI : lw_I D cI cZ cO A s.heap xq mq H locs) (hl : lv_has ls 4 [(3, .int (nI i)), (2, .ref mq), (1, .ref xq), (0, .ref b)]) (next : ∀ (H : Heap) (locs : List Loc) (ls : Array Slot), lw_I D cI cZ cO A s.heap xq mq H locs → lv_has ls 4 [(3, .int (nI i)), (2, .ref mq), (1, .ref xq), (0, .ref b)] → W p l e room_1 s m #[Value.ref b] below meth c H locs 600000 7302250 Q (F0 m 1045 ls [])) : W p l e room_1 s m #[Value.ref b] below meth c H locs 600000 7302250 Q (F0 m 298 ls []) := by
  obtain ⟨xa, xg, xh, ys, ca, cg, cF, da, dg, dF, ra, rg, rF, rE, za, zg, zh, zk, zF, ma, mg, mh, mF, mE, ta, tg, tf, hW, hRC, hRR, hRD, hSK, hRT, hRX, hRM⟩ := hI
  have hW : Wd D A s.heap H locs (wX cI cZ xq xa xg xh ++ (wA cO (xa 0) ys ++ (wC cI cZ (xa 1) ca cg cF ++ (wC cI cZ (xa 2) da dg dF ++ (wR cI cZ (xa 3) ra rg rF rE ++ (wS cI cZ (xa 4) za zg zh zk zF ++ (wT cI cZ (ys 0) (ta 0) (tg 0) ++ (wB cI (ta 0 3) (tf 0) ++ (wT cI cZ (ys 1) (ta 1) (tg 1) ++ (wB cI (ta 1 3) (tf 1) ++ (wT cI cZ (ys 2) (ta 2) (tg 2) ++ (wB cI (ta 2 3) (tf 2) ++ (wT cI cZ (ys 3) (ta 3) (tg 3) ++ (wB cI (ta 3 3) (tf 3) ++ (wM cI cZ mq ma mg mh mF mE))))))))))))))) := hW
  obtain ⟨h02, hn, hrn, hk, hlv, hm, e2, e1, e3, e4, e5⟩ := id hRC
  obtain ⟨hrc, hro, hra, hrd, f1, f2, f3, f4⟩ := id hRR
  obtain ⟨hdn, hdr, hdk, hdl, hdm⟩ := id hRD
  obtain ⟨ht0, ht1, ht2, htl, hts, htc⟩ := id hRT
  refine x_aload_n X dL_law_298 rfl (lv_at hl 2 rfl) ?_
  refine x_pcallVi X hW (As := []) (rest := []) (wz := fun u => (wX cI cZ xq xa xg xh ++ (wA cO (xa 0) ys ++ (wC cI cZ (xa 1) ca cg cF ++ (wC cI cZ (xa 2) da dg dF ++ (wR cI cZ (xa 3) ra rg rF rE ++ (wS cI cZ (xa 4) za zg zh zk zF ++ (wT cI cZ (ys 0) (ta 0) (tg 0) ++ (wB cI (ta 0 3) (tf 0) ++ (wT cI cZ (ys 1) (ta 1) (tg 1) ++ (wB cI (ta 1 3) (tf 1) ++ (wT cI cZ (ys 2) (ta 2) (tg 2) ++ (wB cI (ta 2 3) (tf 2) ++ (wT cI cZ (ys 3) (ta 3) (tg 3) ++ (wB cI (ta 3 3) (tf 3) ++ (wM cI cZ mq ma mg mh mF mE)))))))))))))))) (wA cO (xa 0) ys ++ (wC cI cZ (xa 2) da dg dF ++ (wR cI cZ (xa 3) ra rg rF rE ++ (wS cI cZ (xa 4) za zg zh zk zF ++ (wT cI cZ (ys 0) (ta 0) (tg 0) ++ (wB cI (ta 0 3) (tf 0) ++ (wT cI cZ (ys 1) (ta 1) (tg 1) ++ (wB cI (ta 1 3) (tf 1) ++ (wT cI cZ (ys 2) (ta 2) (tg 2) ++ (wB cI (ta 2 3) (tf 2) ++ (wT cI cZ (ys 3) (ta 3) (tg 3) ++ (wB cI (ta 3 3) (tf 3) ++ (wM cI cZ mq ma mg mh mF mE))))))))))))) (c_X5_gates l D cI cZ cO xq xa xg xh ca cg cF _ (show (cg 0) = 0 ∨ 2 ≤ (cg 0) from (by first | assumption | omega)) (show (cg 0) ≤ 4 from (by first | assumption | omega)) (show ∀ z0, (cF 2) z0 ≤ 2 from (by first | assumption | omega)) (show ∀ z0, (cF 3) z0 ≤ 9 from (by first | assumption | omega)) (show ∀ z0, (cF 4) z0 ≤ 9 from (by first | assumption | omega))) (cwV 0 X.2.2.2.2.2.1 gL_law_X5_gates rfl rfl rfl (by decide +kernel) ⟨Nat.le_of_ble_eq_true rfl, Nat.le_of_ble_eq_true rfl⟩) 4 rfl rfl rfl (apn (mfr _ _) (mf (mfr _ _))) (fun u => (apn (mfr _ _) (mf (mfr _ _)))) rfl hl.1 rfl (Nat.le_of_ble_eq_true rfl) ⟨Nat.le_of_ble_eq_true rfl, Nat.le_of_ble_eq_true rfl⟩ dL_law_299 (fun r1 u2 H locs w299 hW => ?_)
  have hW : Wd D A s.heap H locs (wX cI cZ xq xa xg xh ++ (wA cO (xa 0) ys ++ (wC cI cZ (xa 1) ca cg cF ++ (wC cI cZ (xa 2) da dg dF ++ (wR cI cZ (xa 3) ra rg rF rE ++ (wS cI cZ (xa 4) za zg zh zk zF ++ (wT cI cZ (ys 0) (ta 0) (tg 0) ++ (wB cI (ta 0 3) (tf 0) ++ (wT cI cZ (ys 1) (ta 1) (tg 1) ++ (wB cI (ta 1 3) (tf 1) ++ (wT cI cZ (ys 2) (ta 2) (tg 2) ++ (wB cI (ta 2 3) (tf 2) ++ (wT cI cZ (ys 3) (ta 3) (tg 3) ++ (wB cI (ta 3 3) (tf 3) ++ (wM cI cZ mq ma mg mh mF mE))))))))))))))) := hW
  replace w299 : r1 = aGates ((cg 0)) ((cF 2)) ((cF 3)) ((cF 4)) := w299
  subst w299
  refine x_aload_n X dL_law_302 rfl (lv_at hl 1 rfl) ?_
  refine x_pcallVi X hW (As := []) (rest := [.int (aGates ((cg 0)) ((cF 2)) ((cF 3)) ((cF 4)))]) (wz := fun u => (wX cI cZ xq xa xg xh ++ (wA cO (xa 0) ys ++ (wC cI cZ (xa 1) ca cg cF ++ (wC cI cZ (xa 2) da dg dF ++ (wR cI cZ (xa 3) ra rg rF rE ++ (wS cI cZ (xa 4) za zg zh zk zF ++ (wT cI cZ (ys 0) (ta 0) (tg 0) ++ (wB cI (ta 0 3) (tf 0) ++ (wT cI cZ (ys 1) (ta 1) (tg 1) ++ (wB cI (ta 1 3) (tf 1) ++ (wT cI cZ (ys 2) (ta 2) (tg 2) ++ (wB cI (ta 2 3) (tf 2) ++ (wT cI cZ (ys 3) (ta 3) (tg 3) ++ (wB cI (ta 3 3) (tf 3) ++ (wM cI cZ mq ma mg mh (sF mF 12 u) mE)))))))))))))))) (wX cI cZ xq xa xg xh ++ (wA cO (xa 0) ys ++ (wC cI cZ (xa 1) ca cg cF ++ (wC cI cZ (xa 2) da dg dF ++ (wR cI cZ (xa 3) ra rg rF rE ++ (wS cI cZ (xa 4) za zg zh zk zF ++ (wT cI cZ (ys 0) (ta 0) (tg 0) ++ (wB cI (ta 0 3) (tf 0) ++ (wT cI cZ (ys 1) (ta 1) (tg 1) ++ (wB cI (ta 1 3) (tf 1) ++ (wT cI cZ (ys 2) (ta 2) (tg 2) ++ (wB cI (ta 2 3) (tf 2) ++ (wT cI cZ (ys 3) (ta 3) (tg 3) ++ (wB cI (ta 3 3) (tf 3))))))))))))))) (c_X6_gates l D cI cZ cO mq ma mg mh mF mE _ (show (mg 2) = 0 ∨ 2 ≤ (mg 2) from (by rw [e2]; exact h02)) (show (mg 2) ≤ 4 from (by rw [e2]; exact hn)) (show ∀ z0, (mF 3) z0 ≤ 2 from (by rw [e3]; exact hk)) (show ∀ z0, (mF 4) z0 ≤ 9 from (by rw [e4]; exact hlv)) (show ∀ z0, (mF 5) z0 ≤ 9 from (by rw [e5]; exact hm)) (show ∀ z0, (mF 12) z0 ≤ 9 from hRM)) (cwV 0 X.2.2.2.2.2.1 gL_law_X6_gates rfl rfl rfl (by decide +kernel) ⟨Nat.le_of_ble_eq_true rfl, Nat.le_of_ble_eq_true rfl⟩) 5 rfl rfl rfl (ap1 (mf (mf (mf (mf (mf (mf (mf (mf (mf (mf (mf (mf (mf mf0)))))))))))))) (fun u => (ap1 (mf (mf (mf (mf (mf (mf (mf (mf (mf (mf (mf (mf (mf mf0))))))))))))))) rfl hl.1 rfl (Nat.le_of_ble_eq_true rfl) ⟨Nat.le_of_ble_eq_true rfl, Nat.le_of_ble_eq_true rfl⟩ dL_law_303 (fun r4 u5 H locs w303 hW => ?_)
  obtain ⟨o1_3, o1_3e⟩ : ∃ z, z = u5 := ⟨_, rfl⟩
  subst o1_3e
  have hW : Wd D A s.heap H locs (wX cI cZ xq xa xg xh ++ (wA cO (xa 0) ys ++ (wC cI cZ (xa 1) ca cg cF ++ (wC cI cZ (xa 2) da dg dF ++ (wR cI cZ (xa 3) ra rg rF rE ++ (wS cI cZ (xa 4) za zg zh zk zF ++ (wT cI cZ (ys 0) (ta 0) (tg 0) ++ (wB cI (ta 0 3) (tf 0) ++ (wT cI cZ (ys 1) (ta 1) (tg 1) ++ (wB cI (ta 1 3) (tf 1) ++ (wT cI cZ (ys 2) (ta 2) (tg 2) ++ (wB cI (ta 2 3) (tf 2) ++ (wT cI cZ (ys 3) (ta 3) (tg 3) ++ (wB cI (ta 3 3) (tf 3) ++ (wM cI cZ mq ma mg mh (sF mF 12 o1_3) mE))))))))))))))) := hW
  replace w303 : (r4 = aGates ((mg 2)) ((mF 3)) ((mF 4)) ((mF 5))) ∧ (∀ z0, o1_3 z0 ≤ 9) := w303
  obtain ⟨r4e, w303⟩ := w303
  subst r4e
  refine x_icmp_eq X 1045 dL_law_306 (by decide) (fun c306 => ?_) (fun c306 => by exact absurd (by (try rw [e1]); (try rw [e2]); (try rw [e3]); (try rw [e4]); (try rw [e5]); (try rw [f1]); (try rw [f2]); (try rw [f3]); (try rw [f4]); (try rfl)) c306)
  exact next _ _ _ ⟨xa, xg, xh, ys, ca, cg, cF, da, dg, dF, ra, rg, rF, rE, za, zg, zh, zk, zF, ma, mg, mh, (sF mF 12 o1_3), mE, ta, tg, tf, hW, hRC, hRR, hRD, hSK, hRT, hRX, w303⟩ (lv_sub hl [0, 1, 2, 3] rfl)
set_option maxHeartbeats 4000000 in
set_option maxRecDepth 100000 in
theorem law_ofReach {p : Program} {e : Env} {s : State} {m : MethodId} {below : List Frame} {meth : Method} {c : Code} {D : va_G} {cI cZ cO : ClassId} {A : Nat → Prop} {Q : State → Prop} {l : Launch} {b L xq mq i : Nat} {xs : Nat → Int32} {H : Heap} {locs : List Loc} {ls : Array Slot} (X : Fx p s m #[Value.ref b] meth c code 4 ret wsL_law RL D (ty3 cI cZ cO) A) (hX : va_X b L xs s s.heap) (hbl : b < s.heap.size) (hbA : ¬ A b) (hL : L ≤ 3072) (hi : i + 6 ≤ L) (hI : lw_I D cI cZ cO A s.heap xq mq H locs) (hl : lv_has ls 4 [(3, .int (nI i)), (2, .ref mq), (1, .ref xq), (0, .ref b)]) (next : ∀ (H : Heap) (locs : List Loc) (ls : Array Slot), lw_I D cI cZ cO A s.heap xq mq H locs → lv_has ls 4 [(3, .int (nI i)), (2, .ref mq), (1, .ref xq), (0, .ref b)] → W p l e room_1 s m #[Value.ref b] below meth c H locs 600000 7302250 Q (F0 m 1045 ls [])) : W p l e room_1 s m #[Value.ref b] below meth c H locs 600000 7302250 Q (F0 m 209 ls []) := by
  obtain ⟨xa, xg, xh, ys, ca, cg, cF, da, dg, dF, ra, rg, rF, rE, za, zg, zh, zk, zF, ma, mg, mh, mF, mE, ta, tg, tf, hW, hRC, hRR, hRD, hSK, hRT, hRX, hRM⟩ := hI
  have hW : Wd D A s.heap H locs (wX cI cZ xq xa xg xh ++ (wA cO (xa 0) ys ++ (wC cI cZ (xa 1) ca cg cF ++ (wC cI cZ (xa 2) da dg dF ++ (wR cI cZ (xa 3) ra rg rF rE ++ (wS cI cZ (xa 4) za zg zh zk zF ++ (wT cI cZ (ys 0) (ta 0) (tg 0) ++ (wB cI (ta 0 3) (tf 0) ++ (wT cI cZ (ys 1) (ta 1) (tg 1) ++ (wB cI (ta 1 3) (tf 1) ++ (wT cI cZ (ys 2) (ta 2) (tg 2) ++ (wB cI (ta 2 3) (tf 2) ++ (wT cI cZ (ys 3) (ta 3) (tg 3) ++ (wB cI (ta 3 3) (tf 3) ++ (wM cI cZ mq ma mg mh mF mE))))))))))))))) := hW
  obtain ⟨h02, hn, hrn, hk, hlv, hm, e2, e1, e3, e4, e5⟩ := id hRC
  obtain ⟨hrc, hro, hra, hrd, f1, f2, f3, f4⟩ := id hRR
  obtain ⟨hdn, hdr, hdk, hdl, hdm⟩ := id hRD
  obtain ⟨ht0, ht1, ht2, htl, hts, htc⟩ := id hRT
  refine x_aload_n X dL_law_209 rfl (lv_at hl 2 rfl) ?_
  refine x_aload_n X dL_law_210 rfl (lv_at hl 3 rfl) ?_
  refine x_iload_n X dL_law_211 rfl (lv_at hl 0 rfl) ?_
  refine x_iconst (v := nI 1) X dL_law_212 (by decide) ?_
  refine n_iadd X dL_law_213 ?_
  refine x_sld X hW hX hbl hbA (j := i + 1) (by omega) (by omega) dL_law_214 ?_
  refine x_aload_n X dL_law_215 rfl (lv_at hl 3 rfl) ?_
  refine x_iload_n X dL_law_216 rfl (lv_at hl 0 rfl) ?_
  refine x_iconst (v := nI 2) X dL_law_217 (by decide) ?_
  refine n_iadd X dL_law_218 ?_
  refine x_sld X hW hX hbl hbA (j := i + 2) (by omega) (by omega) dL_law_219 ?_
  refine x_pcallVi X hW (As := [.int (xs (i + 1)), .int (xs (i + 2))]) (rest := []) (wz := fun u => (wX cI cZ xq xa xg xh ++ (wA cO (xa 0) ys ++ (wC cI cZ (xa 1) ca cg cF ++ (wC cI cZ (xa 2) da dg dF ++ (wR cI cZ (xa 3) ra rg rF rE ++ (wS cI cZ (xa 4) za zg zh zk zF ++ (wT cI cZ (ys 0) (ta 0) (tg 0) ++ (wB cI (ta 0 3) (tf 0) ++ (wT cI cZ (ys 1) (ta 1) (tg 1) ++ (wB cI (ta 1 3) (tf 1) ++ (wT cI cZ (ys 2) (ta 2) (tg 2) ++ (wB cI (ta 2 3) (tf 2) ++ (wT cI cZ (ys 3) (ta 3) (tg 3) ++ (wB cI (ta 3 3) (tf 3) ++ (wM cI cZ mq ma mg mh mF mE)))))))))))))))) (wA cO (xa 0) ys ++ (wC cI cZ (xa 2) da dg dF ++ (wR cI cZ (xa 3) ra rg rF rE ++ (wS cI cZ (xa 4) za zg zh zk zF ++ (wT cI cZ (ys 0) (ta 0) (tg 0) ++ (wB cI (ta 0 3) (tf 0) ++ (wT cI cZ (ys 1) (ta 1) (tg 1) ++ (wB cI (ta 1 3) (tf 1) ++ (wT cI cZ (ys 2) (ta 2) (tg 2) ++ (wB cI (ta 2 3) (tf 2) ++ (wT cI cZ (ys 3) (ta 3) (tg 3) ++ (wB cI (ta 3 3) (tf 3) ++ (wM cI cZ mq ma mg mh mF mE))))))))))))) (c_X5_ofReach l D cI cZ cO xq xa xg xh ca cg cF _ (xs (i + 1)) (xs (i + 2)) (show (cg 0) ≤ 4 from (by first | assumption | omega)) (show ∀ z0, (cF 2) z0 ≤ 2 from (by first | assumption | omega)) (show ∀ z0, (cF 4) z0 ≤ 9 from (by first | assumption | omega))) (cwV 2 X.2.2.2.2.2.1 gL_law_X5_ofReach rfl rfl rfl (by decide +kernel) ⟨Nat.le_of_ble_eq_true rfl, Nat.le_of_ble_eq_true rfl⟩) 4 rfl rfl rfl (apn (mfr _ _) (mf (mfr _ _))) (fun u => (apn (mfr _ _) (mf (mfr _ _)))) rfl hl.1 rfl (Nat.le_of_ble_eq_true rfl) ⟨Nat.le_of_ble_eq_true rfl, Nat.le_of_ble_eq_true rfl⟩ dL_law_220 (fun r1 u2 H locs w220 hW => ?_)
  have hW : Wd D A s.heap H locs (wX cI cZ xq xa xg xh ++ (wA cO (xa 0) ys ++ (wC cI cZ (xa 1) ca cg cF ++ (wC cI cZ (xa 2) da dg dF ++ (wR cI cZ (xa 3) ra rg rF rE ++ (wS cI cZ (xa 4) za zg zh zk zF ++ (wT cI cZ (ys 0) (ta 0) (tg 0) ++ (wB cI (ta 0 3) (tf 0) ++ (wT cI cZ (ys 1) (ta 1) (tg 1) ++ (wB cI (ta 1 3) (tf 1) ++ (wT cI cZ (ys 2) (ta 2) (tg 2) ++ (wB cI (ta 2 3) (tf 2) ++ (wT cI cZ (ys 3) (ta 3) (tg 3) ++ (wB cI (ta 3 3) (tf 3) ++ (wM cI cZ mq ma mg mh mF mE))))))))))))))) := hW
  replace w220 : r1 = aOf ((cg 0)) ((cF 2)) ((cF 3)) ((cF 4)) (xs (i + 1)) (xs (i + 2)) := w220
  subst w220
  refine x_aload_n X dL_law_223 rfl (lv_at hl 1 rfl) ?_
  refine x_aload_n X dL_law_224 rfl (lv_at hl 3 rfl) ?_
  refine x_iload_n X dL_law_225 rfl (lv_at hl 0 rfl) ?_
  refine x_iconst (v := nI 1) X dL_law_226 (by decide) ?_
  refine n_iadd X dL_law_227 ?_
  refine x_sld X hW hX hbl hbA (j := i + 1) (by omega) (by omega) dL_law_228 ?_
  refine x_aload_n X dL_law_229 rfl (lv_at hl 3 rfl) ?_
  refine x_iload_n X dL_law_230 rfl (lv_at hl 0 rfl) ?_
  refine x_iconst (v := nI 2) X dL_law_231 (by decide) ?_
  refine n_iadd X dL_law_232 ?_
  refine x_sld X hW hX hbl hbA (j := i + 2) (by omega) (by omega) dL_law_233 ?_
  refine x_pcallVi X hW (As := [.int (xs (i + 1)), .int (xs (i + 2))]) (rest := [.int (aOf ((cg 0)) ((cF 2)) ((cF 3)) ((cF 4)) (xs (i + 1)) (xs (i + 2)))]) (wz := fun u => (wX cI cZ xq xa xg xh ++ (wA cO (xa 0) ys ++ (wC cI cZ (xa 1) ca cg cF ++ (wC cI cZ (xa 2) da dg dF ++ (wR cI cZ (xa 3) ra rg rF rE ++ (wS cI cZ (xa 4) za zg zh zk zF ++ (wT cI cZ (ys 0) (ta 0) (tg 0) ++ (wB cI (ta 0 3) (tf 0) ++ (wT cI cZ (ys 1) (ta 1) (tg 1) ++ (wB cI (ta 1 3) (tf 1) ++ (wT cI cZ (ys 2) (ta 2) (tg 2) ++ (wB cI (ta 2 3) (tf 2) ++ (wT cI cZ (ys 3) (ta 3) (tg 3) ++ (wB cI (ta 3 3) (tf 3) ++ (wM cI cZ mq ma mg mh mF mE)))))))))))))))) (wX cI cZ xq xa xg xh ++ (wA cO (xa 0) ys ++ (wC cI cZ (xa 1) ca cg cF ++ (wC cI cZ (xa 2) da dg dF ++ (wR cI cZ (xa 3) ra rg rF rE ++ (wS cI cZ (xa 4) za zg zh zk zF ++ (wT cI cZ (ys 0) (ta 0) (tg 0) ++ (wB cI (ta 0 3) (tf 0) ++ (wT cI cZ (ys 1) (ta 1) (tg 1) ++ (wB cI (ta 1 3) (tf 1) ++ (wT cI cZ (ys 2) (ta 2) (tg 2) ++ (wB cI (ta 2 3) (tf 2) ++ (wT cI cZ (ys 3) (ta 3) (tg 3) ++ (wB cI (ta 3 3) (tf 3))))))))))))))) (c_X6_ofReach l D cI cZ cO mq ma mg mh mF mE _ (xs (i + 1)) (xs (i + 2)) (show (mg 2) ≤ 4 from (by rw [e2]; exact hn)) (show ∀ z0, (mF 3) z0 ≤ 2 from (by rw [e3]; exact hk)) (show ∀ z0, (mF 5) z0 ≤ 9 from (by rw [e5]; exact hm))) (cwV 2 X.2.2.2.2.2.1 gL_law_X6_ofReach rfl rfl rfl (by decide +kernel) ⟨Nat.le_of_ble_eq_true rfl, Nat.le_of_ble_eq_true rfl⟩) 5 rfl rfl rfl (ap1 (mf (mf (mf (mf (mf (mf (mf (mf (mf (mf (mf (mf (mf mf0)))))))))))))) (fun u => (ap1 (mf (mf (mf (mf (mf (mf (mf (mf (mf (mf (mf (mf (mf mf0))))))))))))))) rfl hl.1 rfl (Nat.le_of_ble_eq_true rfl) ⟨Nat.le_of_ble_eq_true rfl, Nat.le_of_ble_eq_true rfl⟩ dL_law_234 (fun r3 u4 H locs w234 hW => ?_)
  have hW : Wd D A s.heap H locs (wX cI cZ xq xa xg xh ++ (wA cO (xa 0) ys ++ (wC cI cZ (xa 1) ca cg cF ++ (wC cI cZ (xa 2) da dg dF ++ (wR cI cZ (xa 3) ra rg rF rE ++ (wS cI cZ (xa 4) za zg zh zk zF ++ (wT cI cZ (ys 0) (ta 0) (tg 0) ++ (wB cI (ta 0 3) (tf 0) ++ (wT cI cZ (ys 1) (ta 1) (tg 1) ++ (wB cI (ta 1 3) (tf 1) ++ (wT cI cZ (ys 2) (ta 2) (tg 2) ++ (wB cI (ta 2 3) (tf 2) ++ (wT cI cZ (ys 3) (ta 3) (tg 3) ++ (wB cI (ta 3 3) (tf 3) ++ (wM cI cZ mq ma mg mh mF mE))))))))))))))) := hW
  replace w234 : r3 = aOf ((mg 2)) ((mF 3)) ((mF 4)) ((mF 5)) (xs (i + 1)) (xs (i + 2)) := w234
  subst w234
  refine x_icmp_eq X 1045 dL_law_237 (by decide) (fun c237 => ?_) (fun c237 => by exact absurd (by (try rw [e1]); (try rw [e2]); (try rw [e3]); (try rw [e4]); (try rw [e5]); (try rw [f1]); (try rw [f2]); (try rw [f3]); (try rw [f4]); (try rfl)) c237)
  exact next _ _ _ ⟨xa, xg, xh, ys, ca, cg, cF, da, dg, dF, ra, rg, rF, rE, za, zg, zh, zk, zF, ma, mg, mh, mF, mE, ta, tg, tf, hW, hRC, hRR, hRD, hSK, hRT, hRX, hRM⟩ (lv_sub hl [0, 1, 2, 3] rfl)
set_option maxHeartbeats 4000000 in
set_option maxRecDepth 100000 in
theorem law_fill {p : Program} {e : Env} {s : State} {m : MethodId} {below : List Frame} {meth : Method} {c : Code} {D : va_G} {cI cZ cO : ClassId} {A : Nat → Prop} {Q : State → Prop} {l : Launch} {b L xq mq i : Nat} {xs : Nat → Int32} {H : Heap} {locs : List Loc} {ls : Array Slot} (X : Fx p s m #[Value.ref b] meth c code 4 ret wsL_law RL D (ty3 cI cZ cO) A) (hX : va_X b L xs s s.heap) (hbl : b < s.heap.size) (hbA : ¬ A b) (hL : L ≤ 3072) (hi : i + 6 ≤ L) (hI : lw_I D cI cZ cO A s.heap xq mq H locs) (hl : lv_has ls 4 [(3, .int (nI i)), (2, .ref mq), (1, .ref xq), (0, .ref b)]) (next : ∀ (H : Heap) (locs : List Loc) (ls : Array Slot), lw_I D cI cZ cO A s.heap xq mq H locs → lv_has ls 4 [(3, .int (nI i)), (2, .ref mq), (1, .ref xq), (0, .ref b)] → W p l e room_1 s m #[Value.ref b] below meth c H locs 600000 7302250 Q (F0 m 1045 ls [])) : W p l e room_1 s m #[Value.ref b] below meth c H locs 600000 7302250 Q (F0 m 242 ls []) := by
  obtain ⟨xa, xg, xh, ys, ca, cg, cF, da, dg, dF, ra, rg, rF, rE, za, zg, zh, zk, zF, ma, mg, mh, mF, mE, ta, tg, tf, hW, hRC, hRR, hRD, hSK, hRT, hRX, hRM⟩ := hI
  have hW : Wd D A s.heap H locs (wX cI cZ xq xa xg xh ++ (wA cO (xa 0) ys ++ (wC cI cZ (xa 1) ca cg cF ++ (wC cI cZ (xa 2) da dg dF ++ (wR cI cZ (xa 3) ra rg rF rE ++ (wS cI cZ (xa 4) za zg zh zk zF ++ (wT cI cZ (ys 0) (ta 0) (tg 0) ++ (wB cI (ta 0 3) (tf 0) ++ (wT cI cZ (ys 1) (ta 1) (tg 1) ++ (wB cI (ta 1 3) (tf 1) ++ (wT cI cZ (ys 2) (ta 2) (tg 2) ++ (wB cI (ta 2 3) (tf 2) ++ (wT cI cZ (ys 3) (ta 3) (tg 3) ++ (wB cI (ta 3 3) (tf 3) ++ (wM cI cZ mq ma mg mh mF mE))))))))))))))) := hW
  obtain ⟨h02, hn, hrn, hk, hlv, hm, e2, e1, e3, e4, e5⟩ := id hRC
  obtain ⟨hrc, hro, hra, hrd, f1, f2, f3, f4⟩ := id hRR
  obtain ⟨hdn, hdr, hdk, hdl, hdm⟩ := id hRD
  obtain ⟨ht0, ht1, ht2, htl, hts, htc⟩ := id hRT
  refine x_aload_n X dL_law_242 rfl (lv_at hl 2 rfl) ?_
  refine x_aload_n X dL_law_243 rfl (lv_at hl 3 rfl) ?_
  refine x_iload_n X dL_law_244 rfl (lv_at hl 0 rfl) ?_
  refine x_iconst (v := nI 1) X dL_law_245 (by decide) ?_
  refine n_iadd X dL_law_246 ?_
  refine x_sld X hW hX hbl hbA (j := i + 1) (by omega) (by omega) dL_law_247 ?_
  refine x_aload_n X dL_law_248 rfl (lv_at hl 3 rfl) ?_
  refine x_iload_n X dL_law_249 rfl (lv_at hl 0 rfl) ?_
  refine x_iconst (v := nI 2) X dL_law_250 (by decide) ?_
  refine n_iadd X dL_law_251 ?_
  refine x_sld X hW hX hbl hbA (j := i + 2) (by omega) (by omega) dL_law_252 ?_
  refine x_pcallVi X hW (As := [.int (xs (i + 1)), .int (xs (i + 2))]) (rest := []) (wz := fun u => (wX cI cZ xq xa xg xh ++ (wA cO (xa 0) ys ++ (wC cI cZ (xa 1) ca cg (sF cF 3 (sFill ((cg 0)) ((cF 3)) (xs (i + 1)) (xs (i + 2)))) ++ (wC cI cZ (xa 2) da dg dF ++ (wR cI cZ (xa 3) ra rg rF rE ++ (wS cI cZ (xa 4) za zg zh zk zF ++ (wT cI cZ (ys 0) (ta 0) (tg 0) ++ (wB cI (ta 0 3) (tf 0) ++ (wT cI cZ (ys 1) (ta 1) (tg 1) ++ (wB cI (ta 1 3) (tf 1) ++ (wT cI cZ (ys 2) (ta 2) (tg 2) ++ (wB cI (ta 2 3) (tf 2) ++ (wT cI cZ (ys 3) (ta 3) (tg 3) ++ (wB cI (ta 3 3) (tf 3) ++ (wM cI cZ mq ma mg mh mF mE)))))))))))))))) (wA cO (xa 0) ys ++ (wC cI cZ (xa 2) da dg dF ++ (wR cI cZ (xa 3) ra rg rF rE ++ (wS cI cZ (xa 4) za zg zh zk zF ++ (wT cI cZ (ys 0) (ta 0) (tg 0) ++ (wB cI (ta 0 3) (tf 0) ++ (wT cI cZ (ys 1) (ta 1) (tg 1) ++ (wB cI (ta 1 3) (tf 1) ++ (wT cI cZ (ys 2) (ta 2) (tg 2) ++ (wB cI (ta 2 3) (tf 2) ++ (wT cI cZ (ys 3) (ta 3) (tg 3) ++ (wB cI (ta 3 3) (tf 3) ++ (wM cI cZ mq ma mg mh mF mE))))))))))))) (c_X5_fill l D cI cZ cO xq xa xg xh ca cg cF _ (xs (i + 1)) (xs (i + 2)) (show (cg 0) ≤ 4 from (by first | assumption | omega))) (cwV 2 X.2.2.2.2.2.1 gL_law_X5_fill rfl rfl rfl (by decide +kernel) ⟨Nat.le_of_ble_eq_true rfl, Nat.le_of_ble_eq_true rfl⟩) 4 rfl rfl rfl (apn (mfr _ _) (mf (mfr _ _))) (fun u => (apn (mfr _ _) (mf (mfr _ _)))) rfl hl.1 rfl (Nat.le_of_ble_eq_true rfl) ⟨Nat.le_of_ble_eq_true rfl, Nat.le_of_ble_eq_true rfl⟩ dL_law_253 (fun r1 u2 H locs w253 hW => ?_)
  have hW : Wd D A s.heap H locs (wX cI cZ xq xa xg xh ++ (wA cO (xa 0) ys ++ (wC cI cZ (xa 1) ca cg (sF cF 3 (sFill ((cg 0)) ((cF 3)) (xs (i + 1)) (xs (i + 2)))) ++ (wC cI cZ (xa 2) da dg dF ++ (wR cI cZ (xa 3) ra rg rF rE ++ (wS cI cZ (xa 4) za zg zh zk zF ++ (wT cI cZ (ys 0) (ta 0) (tg 0) ++ (wB cI (ta 0 3) (tf 0) ++ (wT cI cZ (ys 1) (ta 1) (tg 1) ++ (wB cI (ta 1 3) (tf 1) ++ (wT cI cZ (ys 2) (ta 2) (tg 2) ++ (wB cI (ta 2 3) (tf 2) ++ (wT cI cZ (ys 3) (ta 3) (tg 3) ++ (wB cI (ta 3 3) (tf 3) ++ (wM cI cZ mq ma mg mh mF mE))))))))))))))) := hW
  replace w253 : r1 = aFill ((cg 0)) ((cF 3)) (xs (i + 1)) (xs (i + 2)) := w253
  subst w253
  refine x_aload_n X dL_law_256 rfl (lv_at hl 1 rfl) ?_
  refine x_aload_n X dL_law_257 rfl (lv_at hl 3 rfl) ?_
  refine x_iload_n X dL_law_258 rfl (lv_at hl 0 rfl) ?_
  refine x_iconst (v := nI 1) X dL_law_259 (by decide) ?_
  refine n_iadd X dL_law_260 ?_
  refine x_sld X hW hX hbl hbA (j := i + 1) (by omega) (by omega) dL_law_261 ?_
  refine x_aload_n X dL_law_262 rfl (lv_at hl 3 rfl) ?_
  refine x_iload_n X dL_law_263 rfl (lv_at hl 0 rfl) ?_
  refine x_iconst (v := nI 2) X dL_law_264 (by decide) ?_
  refine n_iadd X dL_law_265 ?_
  refine x_sld X hW hX hbl hbA (j := i + 2) (by omega) (by omega) dL_law_266 ?_
  refine x_pcallVi X hW (As := [.int (xs (i + 1)), .int (xs (i + 2))]) (rest := [.int (aFill ((cg 0)) ((cF 3)) (xs (i + 1)) (xs (i + 2)))]) (wz := fun u => (wX cI cZ xq xa xg xh ++ (wA cO (xa 0) ys ++ (wC cI cZ (xa 1) ca cg (sF cF 3 (sFill ((cg 0)) ((cF 3)) (xs (i + 1)) (xs (i + 2)))) ++ (wC cI cZ (xa 2) da dg dF ++ (wR cI cZ (xa 3) ra rg rF rE ++ (wS cI cZ (xa 4) za zg zh zk zF ++ (wT cI cZ (ys 0) (ta 0) (tg 0) ++ (wB cI (ta 0 3) (tf 0) ++ (wT cI cZ (ys 1) (ta 1) (tg 1) ++ (wB cI (ta 1 3) (tf 1) ++ (wT cI cZ (ys 2) (ta 2) (tg 2) ++ (wB cI (ta 2 3) (tf 2) ++ (wT cI cZ (ys 3) (ta 3) (tg 3) ++ (wB cI (ta 3 3) (tf 3) ++ (wM cI cZ mq ma mg mh (sF mF 4 (sFill ((mg 2)) ((mF 4)) (xs (i + 1)) (xs (i + 2)))) mE)))))))))))))))) (wX cI cZ xq xa xg xh ++ (wA cO (xa 0) ys ++ (wC cI cZ (xa 1) ca cg (sF cF 3 (sFill ((cg 0)) ((cF 3)) (xs (i + 1)) (xs (i + 2)))) ++ (wC cI cZ (xa 2) da dg dF ++ (wR cI cZ (xa 3) ra rg rF rE ++ (wS cI cZ (xa 4) za zg zh zk zF ++ (wT cI cZ (ys 0) (ta 0) (tg 0) ++ (wB cI (ta 0 3) (tf 0) ++ (wT cI cZ (ys 1) (ta 1) (tg 1) ++ (wB cI (ta 1 3) (tf 1) ++ (wT cI cZ (ys 2) (ta 2) (tg 2) ++ (wB cI (ta 2 3) (tf 2) ++ (wT cI cZ (ys 3) (ta 3) (tg 3) ++ (wB cI (ta 3 3) (tf 3))))))))))))))) (c_X6_fill l D cI cZ cO mq ma mg mh mF mE _ (xs (i + 1)) (xs (i + 2)) (show (mg 2) ≤ 4 from (by rw [e2]; exact hn))) (cwV 2 X.2.2.2.2.2.1 gL_law_X6_fill rfl rfl rfl (by decide +kernel) ⟨Nat.le_of_ble_eq_true rfl, Nat.le_of_ble_eq_true rfl⟩) 5 rfl rfl rfl (ap1 (mf (mf (mf (mf (mf (mf (mf (mf (mf (mf (mf (mf (mf mf0)))))))))))))) (fun u => (ap1 (mf (mf (mf (mf (mf (mf (mf (mf (mf (mf (mf (mf (mf mf0))))))))))))))) rfl hl.1 rfl (Nat.le_of_ble_eq_true rfl) ⟨Nat.le_of_ble_eq_true rfl, Nat.le_of_ble_eq_true rfl⟩ dL_law_267 (fun r3 u4 H locs w267 hW => ?_)
  have hW : Wd D A s.heap H locs (wX cI cZ xq xa xg xh ++ (wA cO (xa 0) ys ++ (wC cI cZ (xa 1) ca cg (sF cF 3 (sFill ((cg 0)) ((cF 3)) (xs (i + 1)) (xs (i + 2)))) ++ (wC cI cZ (xa 2) da dg dF ++ (wR cI cZ (xa 3) ra rg rF rE ++ (wS cI cZ (xa 4) za zg zh zk zF ++ (wT cI cZ (ys 0) (ta 0) (tg 0) ++ (wB cI (ta 0 3) (tf 0) ++ (wT cI cZ (ys 1) (ta 1) (tg 1) ++ (wB cI (ta 1 3) (tf 1) ++ (wT cI cZ (ys 2) (ta 2) (tg 2) ++ (wB cI (ta 2 3) (tf 2) ++ (wT cI cZ (ys 3) (ta 3) (tg 3) ++ (wB cI (ta 3 3) (tf 3) ++ (wM cI cZ mq ma mg mh (sF mF 4 (sFill ((mg 2)) ((mF 4)) (xs (i + 1)) (xs (i + 2)))) mE))))))))))))))) := hW
  replace w267 : r3 = aFill ((mg 2)) ((mF 4)) (xs (i + 1)) (xs (i + 2)) := w267
  subst w267
  refine x_icmp_eq X 1045 dL_law_270 (by decide) (fun c270 => ?_) (fun c270 => by exact absurd (by (try rw [e1]); (try rw [e2]); (try rw [e3]); (try rw [e4]); (try rw [e5]); (try rw [f1]); (try rw [f2]); (try rw [f3]); (try rw [f4]); (try rfl)) c270)
  exact next _ _ _ ⟨xa, xg, xh, ys, ca, cg, (sF cF 3 (sFill ((cg 0)) ((cF 3)) (xs (i + 1)) (xs (i + 2)))), da, dg, dF, ra, rg, rF, rE, za, zg, zh, zk, zF, ma, mg, mh, (sF mF 4 (sFill ((mg 2)) ((mF 4)) (xs (i + 1)) (xs (i + 2)))), mE, ta, tg, tf, hW, RC_fill hRC _ _, hRR, hRD, hSK, hRT, hRX, hRM⟩ (lv_sub hl [0, 1, 2, 3] rfl)
set_option maxHeartbeats 4000000 in
set_option maxRecDepth 100000 in
theorem law_rain {p : Program} {e : Env} {s : State} {m : MethodId} {below : List Frame} {meth : Method} {c : Code} {D : va_G} {cI cZ cO : ClassId} {A : Nat → Prop} {Q : State → Prop} {l : Launch} {b L xq mq i : Nat} {xs : Nat → Int32} {H : Heap} {locs : List Loc} {ls : Array Slot} (X : Fx p s m #[Value.ref b] meth c code 4 ret wsL_law RL D (ty3 cI cZ cO) A) (hX : va_X b L xs s s.heap) (hbl : b < s.heap.size) (hbA : ¬ A b) (hL : L ≤ 3072) (hi : i + 6 ≤ L) (hI : lw_I D cI cZ cO A s.heap xq mq H locs) (hl : lv_has ls 4 [(3, .int (nI i)), (2, .ref mq), (1, .ref xq), (0, .ref b)]) (next : ∀ (H : Heap) (locs : List Loc) (ls : Array Slot), lw_I D cI cZ cO A s.heap xq mq H locs → lv_has ls 4 [(3, .int (nI i)), (2, .ref mq), (1, .ref xq), (0, .ref b)] → W p l e room_1 s m #[Value.ref b] below meth c H locs 600000 7302250 Q (F0 m 1045 ls [])) : W p l e room_1 s m #[Value.ref b] below meth c H locs 600000 7302250 Q (F0 m 275 ls []) := by
  obtain ⟨xa, xg, xh, ys, ca, cg, cF, da, dg, dF, ra, rg, rF, rE, za, zg, zh, zk, zF, ma, mg, mh, mF, mE, ta, tg, tf, hW, hRC, hRR, hRD, hSK, hRT, hRX, hRM⟩ := hI
  have hW : Wd D A s.heap H locs (wX cI cZ xq xa xg xh ++ (wA cO (xa 0) ys ++ (wC cI cZ (xa 1) ca cg cF ++ (wC cI cZ (xa 2) da dg dF ++ (wR cI cZ (xa 3) ra rg rF rE ++ (wS cI cZ (xa 4) za zg zh zk zF ++ (wT cI cZ (ys 0) (ta 0) (tg 0) ++ (wB cI (ta 0 3) (tf 0) ++ (wT cI cZ (ys 1) (ta 1) (tg 1) ++ (wB cI (ta 1 3) (tf 1) ++ (wT cI cZ (ys 2) (ta 2) (tg 2) ++ (wB cI (ta 2 3) (tf 2) ++ (wT cI cZ (ys 3) (ta 3) (tg 3) ++ (wB cI (ta 3 3) (tf 3) ++ (wM cI cZ mq ma mg mh mF mE))))))))))))))) := hW
  obtain ⟨h02, hn, hrn, hk, hlv, hm, e2, e1, e3, e4, e5⟩ := id hRC
  obtain ⟨hrc, hro, hra, hrd, f1, f2, f3, f4⟩ := id hRR
  obtain ⟨hdn, hdr, hdk, hdl, hdm⟩ := id hRD
  obtain ⟨ht0, ht1, ht2, htl, hts, htc⟩ := id hRT
  refine x_aload_n X dL_law_275 rfl (lv_at hl 2 rfl) ?_
  refine x_aload_n X dL_law_276 rfl (lv_at hl 3 rfl) ?_
  refine x_iload_n X dL_law_277 rfl (lv_at hl 0 rfl) ?_
  refine x_iconst (v := nI 1) X dL_law_278 (by decide) ?_
  refine n_iadd X dL_law_279 ?_
  refine x_sld X hW hX hbl hbA (j := i + 1) (by omega) (by omega) dL_law_280 ?_
  refine x_pcallVi X hW (As := [.int (xs (i + 1))]) (rest := []) (wz := fun u => (wX cI cZ xq xa xg xh ++ (wA cO (xa 0) ys ++ (wC cI cZ (xa 1) ca (sF cg 1 (sRain ((cg 0)) ((cg 1)) (xs (i + 1)))) cF ++ (wC cI cZ (xa 2) da dg dF ++ (wR cI cZ (xa 3) ra rg rF rE ++ (wS cI cZ (xa 4) za zg zh zk zF ++ (wT cI cZ (ys 0) (ta 0) (tg 0) ++ (wB cI (ta 0 3) (tf 0) ++ (wT cI cZ (ys 1) (ta 1) (tg 1) ++ (wB cI (ta 1 3) (tf 1) ++ (wT cI cZ (ys 2) (ta 2) (tg 2) ++ (wB cI (ta 2 3) (tf 2) ++ (wT cI cZ (ys 3) (ta 3) (tg 3) ++ (wB cI (ta 3 3) (tf 3) ++ (wM cI cZ mq ma mg mh mF mE)))))))))))))))) (wA cO (xa 0) ys ++ (wC cI cZ (xa 2) da dg dF ++ (wR cI cZ (xa 3) ra rg rF rE ++ (wS cI cZ (xa 4) za zg zh zk zF ++ (wT cI cZ (ys 0) (ta 0) (tg 0) ++ (wB cI (ta 0 3) (tf 0) ++ (wT cI cZ (ys 1) (ta 1) (tg 1) ++ (wB cI (ta 1 3) (tf 1) ++ (wT cI cZ (ys 2) (ta 2) (tg 2) ++ (wB cI (ta 2 3) (tf 2) ++ (wT cI cZ (ys 3) (ta 3) (tg 3) ++ (wB cI (ta 3 3) (tf 3) ++ (wM cI cZ mq ma mg mh mF mE))))))))))))) (c_X5_rain l D cI cZ cO xq xa xg xh ca cg cF _ (xs (i + 1)) (show (cg 0) ≤ 4 from (by first | assumption | omega))) (cwV 1 X.2.2.2.2.2.1 gL_law_X5_rain rfl rfl rfl (by decide +kernel) ⟨Nat.le_of_ble_eq_true rfl, Nat.le_of_ble_eq_true rfl⟩) 4 rfl rfl rfl (apn (mfr _ _) (mf (mfr _ _))) (fun u => (apn (mfr _ _) (mf (mfr _ _)))) rfl hl.1 rfl (Nat.le_of_ble_eq_true rfl) ⟨Nat.le_of_ble_eq_true rfl, Nat.le_of_ble_eq_true rfl⟩ dL_law_281 (fun r1 u2 H locs w281 hW => ?_)
  have hW : Wd D A s.heap H locs (wX cI cZ xq xa xg xh ++ (wA cO (xa 0) ys ++ (wC cI cZ (xa 1) ca (sF cg 1 (sRain ((cg 0)) ((cg 1)) (xs (i + 1)))) cF ++ (wC cI cZ (xa 2) da dg dF ++ (wR cI cZ (xa 3) ra rg rF rE ++ (wS cI cZ (xa 4) za zg zh zk zF ++ (wT cI cZ (ys 0) (ta 0) (tg 0) ++ (wB cI (ta 0 3) (tf 0) ++ (wT cI cZ (ys 1) (ta 1) (tg 1) ++ (wB cI (ta 1 3) (tf 1) ++ (wT cI cZ (ys 2) (ta 2) (tg 2) ++ (wB cI (ta 2 3) (tf 2) ++ (wT cI cZ (ys 3) (ta 3) (tg 3) ++ (wB cI (ta 3 3) (tf 3) ++ (wM cI cZ mq ma mg mh mF mE))))))))))))))) := hW
  replace w281 : r1 = aRain ((cg 0)) ((cg 1)) (xs (i + 1)) := w281
  subst w281
  refine x_aload_n X dL_law_284 rfl (lv_at hl 1 rfl) ?_
  refine x_aload_n X dL_law_285 rfl (lv_at hl 3 rfl) ?_
  refine x_iload_n X dL_law_286 rfl (lv_at hl 0 rfl) ?_
  refine x_iconst (v := nI 1) X dL_law_287 (by decide) ?_
  refine n_iadd X dL_law_288 ?_
  refine x_sld X hW hX hbl hbA (j := i + 1) (by omega) (by omega) dL_law_289 ?_
  refine x_pcallVi X hW (As := [.int (xs (i + 1))]) (rest := [.int (aRain ((cg 0)) ((cg 1)) (xs (i + 1)))]) (wz := fun u => (wX cI cZ xq xa xg xh ++ (wA cO (xa 0) ys ++ (wC cI cZ (xa 1) ca (sF cg 1 (sRain ((cg 0)) ((cg 1)) (xs (i + 1)))) cF ++ (wC cI cZ (xa 2) da dg dF ++ (wR cI cZ (xa 3) ra rg rF rE ++ (wS cI cZ (xa 4) za zg zh zk zF ++ (wT cI cZ (ys 0) (ta 0) (tg 0) ++ (wB cI (ta 0 3) (tf 0) ++ (wT cI cZ (ys 1) (ta 1) (tg 1) ++ (wB cI (ta 1 3) (tf 1) ++ (wT cI cZ (ys 2) (ta 2) (tg 2) ++ (wB cI (ta 2 3) (tf 2) ++ (wT cI cZ (ys 3) (ta 3) (tg 3) ++ (wB cI (ta 3 3) (tf 3) ++ (wM cI cZ mq ma (sF mg 1 (sRain ((mg 2)) ((mg 1)) (xs (i + 1)))) mh mF mE)))))))))))))))) (wX cI cZ xq xa xg xh ++ (wA cO (xa 0) ys ++ (wC cI cZ (xa 1) ca (sF cg 1 (sRain ((cg 0)) ((cg 1)) (xs (i + 1)))) cF ++ (wC cI cZ (xa 2) da dg dF ++ (wR cI cZ (xa 3) ra rg rF rE ++ (wS cI cZ (xa 4) za zg zh zk zF ++ (wT cI cZ (ys 0) (ta 0) (tg 0) ++ (wB cI (ta 0 3) (tf 0) ++ (wT cI cZ (ys 1) (ta 1) (tg 1) ++ (wB cI (ta 1 3) (tf 1) ++ (wT cI cZ (ys 2) (ta 2) (tg 2) ++ (wB cI (ta 2 3) (tf 2) ++ (wT cI cZ (ys 3) (ta 3) (tg 3) ++ (wB cI (ta 3 3) (tf 3))))))))))))))) (c_X6_rain l D cI cZ cO mq ma mg mh mF mE _ (xs (i + 1)) (show (mg 2) ≤ 4 from (by rw [e2]; exact hn))) (cwV 1 X.2.2.2.2.2.1 gL_law_X6_rain rfl rfl rfl (by decide +kernel) ⟨Nat.le_of_ble_eq_true rfl, Nat.le_of_ble_eq_true rfl⟩) 5 rfl rfl rfl (ap1 (mf (mf (mf (mf (mf (mf (mf (mf (mf (mf (mf (mf (mf mf0)))))))))))))) (fun u => (ap1 (mf (mf (mf (mf (mf (mf (mf (mf (mf (mf (mf (mf (mf mf0))))))))))))))) rfl hl.1 rfl (Nat.le_of_ble_eq_true rfl) ⟨Nat.le_of_ble_eq_true rfl, Nat.le_of_ble_eq_true rfl⟩ dL_law_290 (fun r3 u4 H locs w290 hW => ?_)
  have hW : Wd D A s.heap H locs (wX cI cZ xq xa xg xh ++ (wA cO (xa 0) ys ++ (wC cI cZ (xa 1) ca (sF cg 1 (sRain ((cg 0)) ((cg 1)) (xs (i + 1)))) cF ++ (wC cI cZ (xa 2) da dg dF ++ (wR cI cZ (xa 3) ra rg rF rE ++ (wS cI cZ (xa 4) za zg zh zk zF ++ (wT cI cZ (ys 0) (ta 0) (tg 0) ++ (wB cI (ta 0 3) (tf 0) ++ (wT cI cZ (ys 1) (ta 1) (tg 1) ++ (wB cI (ta 1 3) (tf 1) ++ (wT cI cZ (ys 2) (ta 2) (tg 2) ++ (wB cI (ta 2 3) (tf 2) ++ (wT cI cZ (ys 3) (ta 3) (tg 3) ++ (wB cI (ta 3 3) (tf 3) ++ (wM cI cZ mq ma (sF mg 1 (sRain ((mg 2)) ((mg 1)) (xs (i + 1)))) mh mF mE))))))))))))))) := hW
  replace w290 : r3 = aRain ((mg 2)) ((mg 1)) (xs (i + 1)) := w290
  subst w290
  refine x_icmp_eq X 1045 dL_law_293 (by decide) (fun c293 => ?_) (fun c293 => by exact absurd (by (try rw [e1]); (try rw [e2]); (try rw [e3]); (try rw [e4]); (try rw [e5]); (try rw [f1]); (try rw [f2]); (try rw [f3]); (try rw [f4]); (try rfl)) c293)
  exact next _ _ _ ⟨xa, xg, xh, ys, ca, (sF cg 1 (sRain ((cg 0)) ((cg 1)) (xs (i + 1)))), cF, da, dg, dF, ra, rg, rF, rE, za, zg, zh, zk, zF, ma, (sF mg 1 (sRain ((mg 2)) ((mg 1)) (xs (i + 1)))), mh, mF, mE, ta, tg, tf, hW, RC_rain hRC _, hRR, hRD, hSK, hRT, hRX, hRM⟩ (lv_sub hl [0, 1, 2, 3] rfl)
set_option maxHeartbeats 4000000 in
set_option maxRecDepth 100000 in
theorem law_open {p : Program} {e : Env} {s : State} {m : MethodId} {below : List Frame} {meth : Method} {c : Code} {D : va_G} {cI cZ cO : ClassId} {A : Nat → Prop} {Q : State → Prop} {l : Launch} {b L xq mq i : Nat} {xs : Nat → Int32} {H : Heap} {locs : List Loc} {ls : Array Slot} (X : Fx p s m #[Value.ref b] meth c code 4 ret wsL_law RL D (ty3 cI cZ cO) A) (hX : va_X b L xs s s.heap) (hbl : b < s.heap.size) (hbA : ¬ A b) (hL : L ≤ 3072) (hi : i + 6 ≤ L) (hI : lw_I D cI cZ cO A s.heap xq mq H locs) (hl : lv_has ls 4 [(3, .int (nI i)), (2, .ref mq), (1, .ref xq), (0, .ref b)]) (next : ∀ (H : Heap) (locs : List Loc) (ls : Array Slot), lw_I D cI cZ cO A s.heap xq mq H locs → lv_has ls 4 [(3, .int (nI i)), (2, .ref mq), (1, .ref xq), (0, .ref b)] → W p l e room_1 s m #[Value.ref b] below meth c H locs 600000 7302250 Q (F0 m 1045 ls [])) : W p l e room_1 s m #[Value.ref b] below meth c H locs 600000 7302250 Q (F0 m 311 ls []) := by
  obtain ⟨xa, xg, xh, ys, ca, cg, cF, da, dg, dF, ra, rg, rF, rE, za, zg, zh, zk, zF, ma, mg, mh, mF, mE, ta, tg, tf, hW, hRC, hRR, hRD, hSK, hRT, hRX, hRM⟩ := hI
  have hW : Wd D A s.heap H locs (wX cI cZ xq xa xg xh ++ (wA cO (xa 0) ys ++ (wC cI cZ (xa 1) ca cg cF ++ (wC cI cZ (xa 2) da dg dF ++ (wR cI cZ (xa 3) ra rg rF rE ++ (wS cI cZ (xa 4) za zg zh zk zF ++ (wT cI cZ (ys 0) (ta 0) (tg 0) ++ (wB cI (ta 0 3) (tf 0) ++ (wT cI cZ (ys 1) (ta 1) (tg 1) ++ (wB cI (ta 1 3) (tf 1) ++ (wT cI cZ (ys 2) (ta 2) (tg 2) ++ (wB cI (ta 2 3) (tf 2) ++ (wT cI cZ (ys 3) (ta 3) (tg 3) ++ (wB cI (ta 3 3) (tf 3) ++ (wM cI cZ mq ma mg mh mF mE))))))))))))))) := hW
  obtain ⟨h02, hn, hrn, hk, hlv, hm, e2, e1, e3, e4, e5⟩ := id hRC
  obtain ⟨hrc, hro, hra, hrd, f1, f2, f3, f4⟩ := id hRR
  obtain ⟨hdn, hdr, hdk, hdl, hdm⟩ := id hRD
  obtain ⟨ht0, ht1, ht2, htl, hts, htc⟩ := id hRT
  refine x_aload_n X dL_law_311 rfl (lv_at hl 2 rfl) ?_
  refine x_aload_n X dL_law_312 rfl (lv_at hl 3 rfl) ?_
  refine x_iload_n X dL_law_313 rfl (lv_at hl 0 rfl) ?_
  refine x_iconst (v := nI 1) X dL_law_314 (by decide) ?_
  refine n_iadd X dL_law_315 ?_
  refine x_sld X hW hX hbl hbA (j := i + 1) (by omega) (by omega) dL_law_316 ?_
  refine x_pcallVi X hW (As := [.int (xs (i + 1))]) (rest := []) (wz := fun u => (wX cI cZ xq xa xg xh ++ (wA cO (xa 0) ys ++ (wC cI cZ (xa 1) ca cg (sF cF 3 (sOpen ((cg 0)) ((cF 2)) ((cF 3)) ((cF 4)) (xs (i + 1)))) ++ (wC cI cZ (xa 2) da dg dF ++ (wR cI cZ (xa 3) ra rg rF rE ++ (wS cI cZ (xa 4) za zg zh zk zF ++ (wT cI cZ (ys 0) (ta 0) (tg 0) ++ (wB cI (ta 0 3) (tf 0) ++ (wT cI cZ (ys 1) (ta 1) (tg 1) ++ (wB cI (ta 1 3) (tf 1) ++ (wT cI cZ (ys 2) (ta 2) (tg 2) ++ (wB cI (ta 2 3) (tf 2) ++ (wT cI cZ (ys 3) (ta 3) (tg 3) ++ (wB cI (ta 3 3) (tf 3) ++ (wM cI cZ mq ma mg mh mF mE)))))))))))))))) (wA cO (xa 0) ys ++ (wC cI cZ (xa 2) da dg dF ++ (wR cI cZ (xa 3) ra rg rF rE ++ (wS cI cZ (xa 4) za zg zh zk zF ++ (wT cI cZ (ys 0) (ta 0) (tg 0) ++ (wB cI (ta 0 3) (tf 0) ++ (wT cI cZ (ys 1) (ta 1) (tg 1) ++ (wB cI (ta 1 3) (tf 1) ++ (wT cI cZ (ys 2) (ta 2) (tg 2) ++ (wB cI (ta 2 3) (tf 2) ++ (wT cI cZ (ys 3) (ta 3) (tg 3) ++ (wB cI (ta 3 3) (tf 3) ++ (wM cI cZ mq ma mg mh mF mE))))))))))))) (c_X5_open l D cI cZ cO xq xa xg xh ca cg cF _ (xs (i + 1)) (show (cg 0) ≤ 4 from (by first | assumption | omega)) (show ∀ z0, (cF 2) z0 ≤ 2 from (by first | assumption | omega)) (show ∀ z0, (cF 3) z0 ≤ 9 from (by first | assumption | omega)) (show ∀ z0, (cF 4) z0 ≤ 9 from (by first | assumption | omega))) (cwV 1 X.2.2.2.2.2.1 gL_law_X5_open rfl rfl rfl (by decide +kernel) ⟨Nat.le_of_ble_eq_true rfl, Nat.le_of_ble_eq_true rfl⟩) 4 rfl rfl rfl (apn (mfr _ _) (mf (mfr _ _))) (fun u => (apn (mfr _ _) (mf (mfr _ _)))) rfl hl.1 rfl (Nat.le_of_ble_eq_true rfl) ⟨Nat.le_of_ble_eq_true rfl, Nat.le_of_ble_eq_true rfl⟩ dL_law_317 (fun r1 u2 H locs w317 hW => ?_)
  have hW : Wd D A s.heap H locs (wX cI cZ xq xa xg xh ++ (wA cO (xa 0) ys ++ (wC cI cZ (xa 1) ca cg (sF cF 3 (sOpen ((cg 0)) ((cF 2)) ((cF 3)) ((cF 4)) (xs (i + 1)))) ++ (wC cI cZ (xa 2) da dg dF ++ (wR cI cZ (xa 3) ra rg rF rE ++ (wS cI cZ (xa 4) za zg zh zk zF ++ (wT cI cZ (ys 0) (ta 0) (tg 0) ++ (wB cI (ta 0 3) (tf 0) ++ (wT cI cZ (ys 1) (ta 1) (tg 1) ++ (wB cI (ta 1 3) (tf 1) ++ (wT cI cZ (ys 2) (ta 2) (tg 2) ++ (wB cI (ta 2 3) (tf 2) ++ (wT cI cZ (ys 3) (ta 3) (tg 3) ++ (wB cI (ta 3 3) (tf 3) ++ (wM cI cZ mq ma mg mh mF mE))))))))))))))) := hW
  replace w317 : r1 = aOpen ((cg 0)) ((cF 2)) ((cF 3)) ((cF 4)) (xs (i + 1)) := w317
  subst w317
  refine x_aload_n X dL_law_320 rfl (lv_at hl 1 rfl) ?_
  refine x_aload_n X dL_law_321 rfl (lv_at hl 3 rfl) ?_
  refine x_iload_n X dL_law_322 rfl (lv_at hl 0 rfl) ?_
  refine x_iconst (v := nI 1) X dL_law_323 (by decide) ?_
  refine n_iadd X dL_law_324 ?_
  refine x_sld X hW hX hbl hbA (j := i + 1) (by omega) (by omega) dL_law_325 ?_
  refine x_pcallVi X hW (As := [.int (xs (i + 1))]) (rest := [.int (aOpen ((cg 0)) ((cF 2)) ((cF 3)) ((cF 4)) (xs (i + 1)))]) (wz := fun u => (wX cI cZ xq xa xg xh ++ (wA cO (xa 0) ys ++ (wC cI cZ (xa 1) ca cg (sF cF 3 (sOpen ((cg 0)) ((cF 2)) ((cF 3)) ((cF 4)) (xs (i + 1)))) ++ (wC cI cZ (xa 2) da dg dF ++ (wR cI cZ (xa 3) ra rg rF rE ++ (wS cI cZ (xa 4) za zg zh zk zF ++ (wT cI cZ (ys 0) (ta 0) (tg 0) ++ (wB cI (ta 0 3) (tf 0) ++ (wT cI cZ (ys 1) (ta 1) (tg 1) ++ (wB cI (ta 1 3) (tf 1) ++ (wT cI cZ (ys 2) (ta 2) (tg 2) ++ (wB cI (ta 2 3) (tf 2) ++ (wT cI cZ (ys 3) (ta 3) (tg 3) ++ (wB cI (ta 3 3) (tf 3) ++ (wM cI cZ mq ma mg mh (sF (sF mF 4 (sOpen ((mg 2)) ((mF 3)) ((mF 4)) ((mF 5)) (xs (i + 1)))) 12 u) mE)))))))))))))))) (wX cI cZ xq xa xg xh ++ (wA cO (xa 0) ys ++ (wC cI cZ (xa 1) ca cg (sF cF 3 (sOpen ((cg 0)) ((cF 2)) ((cF 3)) ((cF 4)) (xs (i + 1)))) ++ (wC cI cZ (xa 2) da dg dF ++ (wR cI cZ (xa 3) ra rg rF rE ++ (wS cI cZ (xa 4) za zg zh zk zF ++ (wT cI cZ (ys 0) (ta 0) (tg 0) ++ (wB cI (ta 0 3) (tf 0) ++ (wT cI cZ (ys 1) (ta 1) (tg 1) ++ (wB cI (ta 1 3) (tf 1) ++ (wT cI cZ (ys 2) (ta 2) (tg 2) ++ (wB cI (ta 2 3) (tf 2) ++ (wT cI cZ (ys 3) (ta 3) (tg 3) ++ (wB cI (ta 3 3) (tf 3))))))))))))))) (c_X6_open l D cI cZ cO mq ma mg mh mF mE _ (xs (i + 1)) (show (mg 2) = 0 ∨ 2 ≤ (mg 2) from (by rw [e2]; exact h02)) (show (mg 2) ≤ 4 from (by rw [e2]; exact hn)) (show ∀ z0, (mF 3) z0 ≤ 2 from (by rw [e3]; exact hk)) (show ∀ z0, (mF 4) z0 ≤ 9 from (by rw [e4]; exact hlv)) (show ∀ z0, (mF 5) z0 ≤ 9 from (by rw [e5]; exact hm)) (show ∀ z0, (mF 12) z0 ≤ 9 from hRM) (show (mg 1) ≤ 3 from (by rw [e1]; exact hrn))) (cwV 1 X.2.2.2.2.2.1 gL_law_X6_open rfl rfl rfl (by decide +kernel) ⟨Nat.le_of_ble_eq_true rfl, Nat.le_of_ble_eq_true rfl⟩) 5 rfl rfl rfl (ap1 (mf (mf (mf (mf (mf (mf (mf (mf (mf (mf (mf (mf (mf mf0)))))))))))))) (fun u => (ap1 (mf (mf (mf (mf (mf (mf (mf (mf (mf (mf (mf (mf (mf mf0))))))))))))))) rfl hl.1 rfl (Nat.le_of_ble_eq_true rfl) ⟨Nat.le_of_ble_eq_true rfl, Nat.le_of_ble_eq_true rfl⟩ dL_law_326 (fun r4 u5 H locs w326 hW => ?_)
  obtain ⟨o1_3, o1_3e⟩ : ∃ z, z = u5 := ⟨_, rfl⟩
  subst o1_3e
  have hW : Wd D A s.heap H locs (wX cI cZ xq xa xg xh ++ (wA cO (xa 0) ys ++ (wC cI cZ (xa 1) ca cg (sF cF 3 (sOpen ((cg 0)) ((cF 2)) ((cF 3)) ((cF 4)) (xs (i + 1)))) ++ (wC cI cZ (xa 2) da dg dF ++ (wR cI cZ (xa 3) ra rg rF rE ++ (wS cI cZ (xa 4) za zg zh zk zF ++ (wT cI cZ (ys 0) (ta 0) (tg 0) ++ (wB cI (ta 0 3) (tf 0) ++ (wT cI cZ (ys 1) (ta 1) (tg 1) ++ (wB cI (ta 1 3) (tf 1) ++ (wT cI cZ (ys 2) (ta 2) (tg 2) ++ (wB cI (ta 2 3) (tf 2) ++ (wT cI cZ (ys 3) (ta 3) (tg 3) ++ (wB cI (ta 3 3) (tf 3) ++ (wM cI cZ mq ma mg mh (sF (sF mF 4 (sOpen ((mg 2)) ((mF 3)) ((mF 4)) ((mF 5)) (xs (i + 1)))) 12 o1_3) mE))))))))))))))) := hW
  replace w326 : (r4 = aOpen ((mg 2)) ((mF 3)) ((mF 4)) ((mF 5)) (xs (i + 1))) ∧ (∀ z0, o1_3 z0 ≤ 9) := w326
  obtain ⟨r4e, w326⟩ := w326
  subst r4e
  refine x_icmp_eq X 1045 dL_law_329 (by decide) (fun c329 => ?_) (fun c329 => by exact absurd (by (try rw [e1]); (try rw [e2]); (try rw [e3]); (try rw [e4]); (try rw [e5]); (try rw [f1]); (try rw [f2]); (try rw [f3]); (try rw [f4]); (try rfl)) c329)
  exact next _ _ _ ⟨xa, xg, xh, ys, ca, cg, (sF cF 3 (sOpen ((cg 0)) ((cF 2)) ((cF 3)) ((cF 4)) (xs (i + 1)))), da, dg, dF, ra, rg, rF, rE, za, zg, zh, zk, zF, ma, mg, mh, (sF (sF mF 4 (sOpen ((mg 2)) ((mF 3)) ((mF 4)) ((mF 5)) (xs (i + 1)))) 12 o1_3), mE, ta, tg, tf, hW, RC_open hRC _, hRR, hRD, hSK, hRT, hRX, w326⟩ (lv_sub hl [0, 1, 2, 3] rfl)
set_option maxHeartbeats 4000000 in
set_option maxRecDepth 100000 in
theorem law_nights {p : Program} {e : Env} {s : State} {m : MethodId} {below : List Frame} {meth : Method} {c : Code} {D : va_G} {cI cZ cO : ClassId} {A : Nat → Prop} {Q : State → Prop} {l : Launch} {b L xq mq i : Nat} {xs : Nat → Int32} {H : Heap} {locs : List Loc} {ls : Array Slot} (X : Fx p s m #[Value.ref b] meth c code 4 ret wsL_law RL D (ty3 cI cZ cO) A) (hX : va_X b L xs s s.heap) (hbl : b < s.heap.size) (hbA : ¬ A b) (hL : L ≤ 3072) (hi : i + 6 ≤ L) (hI : lw_I D cI cZ cO A s.heap xq mq H locs) (hl : lv_has ls 4 [(3, .int (nI i)), (2, .ref mq), (1, .ref xq), (0, .ref b)]) (next : ∀ (H : Heap) (locs : List Loc) (ls : Array Slot), lw_I D cI cZ cO A s.heap xq mq H locs → lv_has ls 4 [(3, .int (nI i)), (2, .ref mq), (1, .ref xq), (0, .ref b)] → W p l e room_1 s m #[Value.ref b] below meth c H locs 600000 7302250 Q (F0 m 1045 ls [])) : W p l e room_1 s m #[Value.ref b] below meth c H locs 600000 7302250 Q (F0 m 334 ls []) := by
  obtain ⟨xa, xg, xh, ys, ca, cg, cF, da, dg, dF, ra, rg, rF, rE, za, zg, zh, zk, zF, ma, mg, mh, mF, mE, ta, tg, tf, hW, hRC, hRR, hRD, hSK, hRT, hRX, hRM⟩ := hI
  have hW : Wd D A s.heap H locs (wX cI cZ xq xa xg xh ++ (wA cO (xa 0) ys ++ (wC cI cZ (xa 1) ca cg cF ++ (wC cI cZ (xa 2) da dg dF ++ (wR cI cZ (xa 3) ra rg rF rE ++ (wS cI cZ (xa 4) za zg zh zk zF ++ (wT cI cZ (ys 0) (ta 0) (tg 0) ++ (wB cI (ta 0 3) (tf 0) ++ (wT cI cZ (ys 1) (ta 1) (tg 1) ++ (wB cI (ta 1 3) (tf 1) ++ (wT cI cZ (ys 2) (ta 2) (tg 2) ++ (wB cI (ta 2 3) (tf 2) ++ (wT cI cZ (ys 3) (ta 3) (tg 3) ++ (wB cI (ta 3 3) (tf 3) ++ (wM cI cZ mq ma mg mh mF mE))))))))))))))) := hW
  obtain ⟨h02, hn, hrn, hk, hlv, hm, e2, e1, e3, e4, e5⟩ := id hRC
  obtain ⟨hrc, hro, hra, hrd, f1, f2, f3, f4⟩ := id hRR
  obtain ⟨hdn, hdr, hdk, hdl, hdm⟩ := id hRD
  obtain ⟨ht0, ht1, ht2, htl, hts, htc⟩ := id hRT
  refine x_aload_n X dL_law_334 rfl (lv_at hl 2 rfl) ?_
  refine x_aload_n X dL_law_335 rfl (lv_at hl 3 rfl) ?_
  refine x_iload_n X dL_law_336 rfl (lv_at hl 0 rfl) ?_
  refine x_iconst (v := nI 1) X dL_law_337 (by decide) ?_
  refine n_iadd X dL_law_338 ?_
  refine x_sld X hW hX hbl hbA (j := i + 1) (by omega) (by omega) dL_law_339 ?_
  refine x_pcallVi X hW (As := [.int (xs (i + 1))]) (rest := []) (wz := fun u => (wX cI cZ xq xa xg xh ++ (wA cO (xa 0) ys ++ (wC cI cZ (xa 1) ca cg (sF cF 3 (sNights ((cg 0)) ((cg 1)) ((cF 3)) (xs (i + 1)))) ++ (wC cI cZ (xa 2) da dg dF ++ (wR cI cZ (xa 3) ra rg rF rE ++ (wS cI cZ (xa 4) za zg zh zk zF ++ (wT cI cZ (ys 0) (ta 0) (tg 0) ++ (wB cI (ta 0 3) (tf 0) ++ (wT cI cZ (ys 1) (ta 1) (tg 1) ++ (wB cI (ta 1 3) (tf 1) ++ (wT cI cZ (ys 2) (ta 2) (tg 2) ++ (wB cI (ta 2 3) (tf 2) ++ (wT cI cZ (ys 3) (ta 3) (tg 3) ++ (wB cI (ta 3 3) (tf 3) ++ (wM cI cZ mq ma mg mh mF mE)))))))))))))))) (wA cO (xa 0) ys ++ (wC cI cZ (xa 2) da dg dF ++ (wR cI cZ (xa 3) ra rg rF rE ++ (wS cI cZ (xa 4) za zg zh zk zF ++ (wT cI cZ (ys 0) (ta 0) (tg 0) ++ (wB cI (ta 0 3) (tf 0) ++ (wT cI cZ (ys 1) (ta 1) (tg 1) ++ (wB cI (ta 1 3) (tf 1) ++ (wT cI cZ (ys 2) (ta 2) (tg 2) ++ (wB cI (ta 2 3) (tf 2) ++ (wT cI cZ (ys 3) (ta 3) (tg 3) ++ (wB cI (ta 3 3) (tf 3) ++ (wM cI cZ mq ma mg mh mF mE))))))))))))) (c_X5_nights l D cI cZ cO xq xa xg xh ca cg cF _ (xs (i + 1)) (show (cg 0) = 0 ∨ 2 ≤ (cg 0) from (by first | assumption | omega)) (show (cg 0) ≤ 4 from (by first | assumption | omega)) (show ∀ z0, (cF 3) z0 ≤ 9 from (by first | assumption | omega)) (show (cg 1) ≤ 3 from (by first | assumption | omega))) (cwV 1 X.2.2.2.2.2.1 gL_law_X5_nights rfl rfl rfl (by decide +kernel) ⟨Nat.le_of_ble_eq_true rfl, Nat.le_of_ble_eq_true rfl⟩) 4 rfl rfl rfl (apn (mfr _ _) (mf (mfr _ _))) (fun u => (apn (mfr _ _) (mf (mfr _ _)))) rfl hl.1 rfl (Nat.le_of_ble_eq_true rfl) ⟨Nat.le_of_ble_eq_true rfl, Nat.le_of_ble_eq_true rfl⟩ dL_law_340 (fun r1 u2 H locs w340 hW => ?_)
  have hW : Wd D A s.heap H locs (wX cI cZ xq xa xg xh ++ (wA cO (xa 0) ys ++ (wC cI cZ (xa 1) ca cg (sF cF 3 (sNights ((cg 0)) ((cg 1)) ((cF 3)) (xs (i + 1)))) ++ (wC cI cZ (xa 2) da dg dF ++ (wR cI cZ (xa 3) ra rg rF rE ++ (wS cI cZ (xa 4) za zg zh zk zF ++ (wT cI cZ (ys 0) (ta 0) (tg 0) ++ (wB cI (ta 0 3) (tf 0) ++ (wT cI cZ (ys 1) (ta 1) (tg 1) ++ (wB cI (ta 1 3) (tf 1) ++ (wT cI cZ (ys 2) (ta 2) (tg 2) ++ (wB cI (ta 2 3) (tf 2) ++ (wT cI cZ (ys 3) (ta 3) (tg 3) ++ (wB cI (ta 3 3) (tf 3) ++ (wM cI cZ mq ma mg mh mF mE))))))))))))))) := hW
  replace w340 : r1 = aNights ((cg 0)) ((cg 1)) ((cF 3)) (xs (i + 1)) := w340
  subst w340
  refine x_aload_n X dL_law_343 rfl (lv_at hl 1 rfl) ?_
  refine x_aload_n X dL_law_344 rfl (lv_at hl 3 rfl) ?_
  refine x_iload_n X dL_law_345 rfl (lv_at hl 0 rfl) ?_
  refine x_iconst (v := nI 1) X dL_law_346 (by decide) ?_
  refine n_iadd X dL_law_347 ?_
  refine x_sld X hW hX hbl hbA (j := i + 1) (by omega) (by omega) dL_law_348 ?_
  refine x_pcallVi X hW (As := [.int (xs (i + 1))]) (rest := [.int (aNights ((cg 0)) ((cg 1)) ((cF 3)) (xs (i + 1)))]) (wz := fun u => (wX cI cZ xq xa xg xh ++ (wA cO (xa 0) ys ++ (wC cI cZ (xa 1) ca cg (sF cF 3 (sNights ((cg 0)) ((cg 1)) ((cF 3)) (xs (i + 1)))) ++ (wC cI cZ (xa 2) da dg dF ++ (wR cI cZ (xa 3) ra rg rF rE ++ (wS cI cZ (xa 4) za zg zh zk zF ++ (wT cI cZ (ys 0) (ta 0) (tg 0) ++ (wB cI (ta 0 3) (tf 0) ++ (wT cI cZ (ys 1) (ta 1) (tg 1) ++ (wB cI (ta 1 3) (tf 1) ++ (wT cI cZ (ys 2) (ta 2) (tg 2) ++ (wB cI (ta 2 3) (tf 2) ++ (wT cI cZ (ys 3) (ta 3) (tg 3) ++ (wB cI (ta 3 3) (tf 3) ++ (wM cI cZ mq ma mg mh (sF (sF mF 4 (sNights ((mg 2)) ((mg 1)) ((mF 4)) (xs (i + 1)))) 12 u) mE)))))))))))))))) (wX cI cZ xq xa xg xh ++ (wA cO (xa 0) ys ++ (wC cI cZ (xa 1) ca cg (sF cF 3 (sNights ((cg 0)) ((cg 1)) ((cF 3)) (xs (i + 1)))) ++ (wC cI cZ (xa 2) da dg dF ++ (wR cI cZ (xa 3) ra rg rF rE ++ (wS cI cZ (xa 4) za zg zh zk zF ++ (wT cI cZ (ys 0) (ta 0) (tg 0) ++ (wB cI (ta 0 3) (tf 0) ++ (wT cI cZ (ys 1) (ta 1) (tg 1) ++ (wB cI (ta 1 3) (tf 1) ++ (wT cI cZ (ys 2) (ta 2) (tg 2) ++ (wB cI (ta 2 3) (tf 2) ++ (wT cI cZ (ys 3) (ta 3) (tg 3) ++ (wB cI (ta 3 3) (tf 3))))))))))))))) (c_X6_nights l D cI cZ cO mq ma mg mh mF mE _ (xs (i + 1)) (show (mg 2) = 0 ∨ 2 ≤ (mg 2) from (by rw [e2]; exact h02)) (show (mg 2) ≤ 4 from (by rw [e2]; exact hn)) (show ∀ z0, (mF 4) z0 ≤ 9 from (by rw [e4]; exact hlv)) (show ∀ z0, (mF 12) z0 ≤ 9 from hRM) (show (mg 1) ≤ 3 from (by rw [e1]; exact hrn))) (cwV 1 X.2.2.2.2.2.1 gL_law_X6_nights rfl rfl rfl (by decide +kernel) ⟨Nat.le_of_ble_eq_true rfl, Nat.le_of_ble_eq_true rfl⟩) 5 rfl rfl rfl (ap1 (mf (mf (mf (mf (mf (mf (mf (mf (mf (mf (mf (mf (mf mf0)))))))))))))) (fun u => (ap1 (mf (mf (mf (mf (mf (mf (mf (mf (mf (mf (mf (mf (mf mf0))))))))))))))) rfl hl.1 rfl (Nat.le_of_ble_eq_true rfl) ⟨Nat.le_of_ble_eq_true rfl, Nat.le_of_ble_eq_true rfl⟩ dL_law_349 (fun r4 u5 H locs w349 hW => ?_)
  obtain ⟨o1_3, o1_3e⟩ : ∃ z, z = u5 := ⟨_, rfl⟩
  subst o1_3e
  have hW : Wd D A s.heap H locs (wX cI cZ xq xa xg xh ++ (wA cO (xa 0) ys ++ (wC cI cZ (xa 1) ca cg (sF cF 3 (sNights ((cg 0)) ((cg 1)) ((cF 3)) (xs (i + 1)))) ++ (wC cI cZ (xa 2) da dg dF ++ (wR cI cZ (xa 3) ra rg rF rE ++ (wS cI cZ (xa 4) za zg zh zk zF ++ (wT cI cZ (ys 0) (ta 0) (tg 0) ++ (wB cI (ta 0 3) (tf 0) ++ (wT cI cZ (ys 1) (ta 1) (tg 1) ++ (wB cI (ta 1 3) (tf 1) ++ (wT cI cZ (ys 2) (ta 2) (tg 2) ++ (wB cI (ta 2 3) (tf 2) ++ (wT cI cZ (ys 3) (ta 3) (tg 3) ++ (wB cI (ta 3 3) (tf 3) ++ (wM cI cZ mq ma mg mh (sF (sF mF 4 (sNights ((mg 2)) ((mg 1)) ((mF 4)) (xs (i + 1)))) 12 o1_3) mE))))))))))))))) := hW
  replace w349 : (r4 = aNights ((mg 2)) ((mg 1)) ((mF 4)) (xs (i + 1))) ∧ (∀ z0, o1_3 z0 ≤ 9) := w349
  obtain ⟨r4e, w349⟩ := w349
  subst r4e
  refine x_icmp_eq X 1045 dL_law_352 (by decide) (fun c352 => ?_) (fun c352 => by exact absurd (by (try rw [e1]); (try rw [e2]); (try rw [e3]); (try rw [e4]); (try rw [e5]); (try rw [f1]); (try rw [f2]); (try rw [f3]); (try rw [f4]); (try rfl)) c352)
  exact next _ _ _ ⟨xa, xg, xh, ys, ca, cg, (sF cF 3 (sNights ((cg 0)) ((cg 1)) ((cF 3)) (xs (i + 1)))), da, dg, dF, ra, rg, rF, rE, za, zg, zh, zk, zF, ma, mg, mh, (sF (sF mF 4 (sNights ((mg 2)) ((mg 1)) ((mF 4)) (xs (i + 1)))) 12 o1_3), mE, ta, tg, tf, hW, RC_nights hRC _, hRR, hRD, hSK, hRT, hRX, w349⟩ (lv_sub hl [0, 1, 2, 3] rfl)

