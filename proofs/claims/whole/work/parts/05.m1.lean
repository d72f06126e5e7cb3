
abbrev canN (n : Nat) (kd lm lv : Nat → Nat) (a : Nat) : Prop := a = n - 1 ∨ mayN kd lv lm a
def actN (n rn : Nat) (kd lm lv : Nat → Nat) (a : Nat) : Nat → Nat := if a = n - 1 then night n rn lv else if mayN kd lv lm a then thru lv a else lv
theorem sF_le {f : Nat → Nat} {b k x : Nat} (hf : ∀ i, f i ≤ b) (hx : x ≤ b) : ∀ i, sF f k x i ≤ b := by
  intro i; rw [sF_ap]; split
  · exact hx
  · exact hf i
theorem night_eq {n rn x y : Nat} {lv : Nat → Nat} (hx : x = min 9 (lv 0 + rn)) (hy : y = lv (n - 1) - 1) : sF (sF lv 0 x) (n - 1) y = night n rn lv := by subst hx; subst hy; rfl
theorem night_le {n rn : Nat} {lv : Nat → Nat} (h : ∀ i, lv i ≤ 9) : ∀ i, night n rn lv i ≤ 9 := by
  unfold night
  exact sF_le (sF_le h (by omega)) (by have := h (n - 1); omega)
theorem thru_le {lv : Nat → Nat} {g w : Nat} (h : ∀ i, lv i ≤ 9) (hw : w ≤ 9) (h2 : lv (g + 1) < w) : ∀ i, thru lv g i ≤ 9 := by
  unfold thru
  exact sF_le (sF_le h (by have := h g; omega)) (by omega)
theorem actN_le {n rn : Nat} {kd lm lv : Nat → Nat} {a : Nat} (h : ∀ i, lv i ≤ 9) (hm : ∀ i, lm i ≤ 9) : ∀ i, actN n rn kd lm lv a i ≤ 9 := by
  unfold actN
  split
  · exact night_le h
  · split
    next q => exact thru_le h (Nat.le_trans (want_le _ _) (hm _)) q.2
    next => exact h
def cpN (n : Nat) (f g : Nat → Nat) : Nat → Nat := fun i => if i < n then f i else g i
theorem cpN_0 (f g : Nat → Nat) : cpN 0 f g = g := by funext i; simp [cpN]
theorem cpN_s (i : Nat) (f g : Nat → Nat) : sF (cpN i f g) i (f i) = cpN (i + 1) f g := by
  funext j
  rw [sF_ap]
  unfold cpN
  by_cases h : j = i
  · rw [if_pos h, if_pos (by omega), h]
  · rw [if_neg h]
    by_cases h2 : j < i
    · rw [if_pos h2, if_pos (by omega)]
    · rw [if_neg h2, if_neg (by omega)]
theorem cpN_le {n b : Nat} {f g : Nat → Nat} (hf : ∀ i, f i ≤ b) (hg : ∀ i, g i ≤ b) : ∀ i, cpN n f g i ≤ b := by
  intro i; unfold cpN; split
  · exact hf i
  · exact hg i

set_option maxHeartbeats 4000000 in
set_option maxRecDepth 100000 in
theorem c_X6_in (l : Launch) (D : va_G) (cI cZ cO : ClassId)  (sz : Nat) (v : Int64) (lo : Int64) (hi : Int64)   : Met l yX6_in wsX6_in ({ frames := 0, cells := 0, slots := 0, locals := 0 }) (va_Pc [.long v, .long lo, .long hi] (st_W D (ty3 cI cZ cO) ([] : va_W) sz)) (va_Qi (fun (rr : Int32) (u : Unit) => (rr = nI 1 ∧ (lo.toInt ≤ v.toInt ∧ v.toInt ≤ hi.toInt) ∨ rr = nI 0 ∧ ¬ (lo.toInt ≤ v.toInt ∧ v.toInt ≤ hi.toInt))) (fun u t => at_W D (ty3 cI cZ cO) (va_A ([] : va_W) sz) ([] : va_W) t) (va_A ([] : va_W) sz)) 0 0 (va_A ([] : va_W) sz) := by
  refine Met.goi (cc := cX6_in) (maxL := 6) (ret := (some .boolean)) (by decide) rfl (Nat.le_of_ble_eq_true rfl) (fun p e s m below meth c A ls X hW hl => ?_)
  have hl : lv_has ls 6 [(0, .long v), (2, .long lo), (4, .long hi)] := hl
  refine x_lload_n X dX6_in_0 rfl (lv_at hl 0 rfl) ?_
  refine x_lload_n X dX6_in_1 rfl (lv_at hl 1 rfl) ?_
  refine x_lcmp X dX6_in_2 ?_
  refine x_if_lt X 17 dX6_in_3 (by decide) (fun c3 => ?_) (fun c3 => ?_)
  · refine x_iconst (v := nI 0) X dX6_in_17 (by decide) ?_
    exact x_zret X hW rfl (Or.inl (by decide)) () (Or.inr ⟨rfl, by (try rw [lcmp_lt] at c3); (try rw [lcmp_gt] at c10); omega⟩) rfl dX6_in_18
  · refine x_lload_n X dX6_in_6 rfl (lv_at hl 0 rfl) ?_
    refine x_lload X dX6_in_7 (lv_at hl 2 rfl) ?_
    refine x_lcmp X dX6_in_9 ?_
    refine x_if_gt X 17 dX6_in_10 (by decide) (fun c10 => ?_) (fun c10 => ?_)
    · refine x_iconst (v := nI 0) X dX6_in_17 (by decide) ?_
      exact x_zret X hW rfl (Or.inl (by decide)) () (Or.inr ⟨rfl, by (try rw [lcmp_lt] at c3); (try rw [lcmp_gt] at c10); omega⟩) rfl dX6_in_18
    · refine x_iconst (v := nI 1) X dX6_in_13 (by decide) ?_
      refine x_goto X 18 dX6_in_14 (by decide) ?_
      exact x_zret X hW rfl (Or.inr (by decide)) () (Or.inl ⟨rfl, by (try rw [lcmp_lt] at c3); (try rw [lcmp_gt] at c10); omega⟩) rfl dX6_in_18
set_option maxHeartbeats 4000000 in
set_option maxRecDepth 100000 in
theorem c_X6_lost (l : Launch) (D : va_G) (cI cZ cO : ClassId)  (sz : Nat)    : Met l yX6_lost wsX6_lost ({ frames := 0, cells := 0, slots := 0, locals := 0 }) (va_Pc [] (st_W D (ty3 cI cZ cO) ([] : va_W) sz)) (va_Ql (fun (rr : Int64) (u : Unit) => rr = (-9223372036854775808)) (fun u t => at_W D (ty3 cI cZ cO) (va_A ([] : va_W) sz) ([] : va_W) t) (va_A ([] : va_W) sz)) 0 0 (va_A ([] : va_W) sz) := by
  refine Met.gol (cc := cX6_lost) (maxL := 0) (ret := (some .long)) (by decide) rfl (Nat.le_of_ble_eq_true rfl) (fun p e s m below meth c A ls X hW hl => ?_)
  have hl : lv_has ls 0 [] := hl
  refine x_ldc2 (v := (-9223372036854775808)) X (List.mem_of_getElem? (i := 1) rfl) dX6_lost_0 ?_
  exact x_lret X hW rfl () ((by decide)) rfl dX6_lost_3
set_option maxHeartbeats 4000000 in
set_option maxRecDepth 100000 in
theorem c_X6_refused (l : Launch) (D : va_G) (cI cZ cO : ClassId) (mq : Nat) (ma : Nat → Nat) (mg : Nat → Nat) (mh : Nat → Int32) (mF : Nat → Nat → Nat) (mE : Nat → Nat → Int32) (sz : Nat) (cc0 : Int32)   : Met l yX6_refused wsX6_refused ({ frames := 0, cells := 0, slots := 0, locals := 0 }) (va_Pc [.ref mq, .int cc0] (st_W D (ty3 cI cZ cO) (wM cI cZ mq ma mg mh mF mE) sz)) (va_Qi (fun (rr : Int32) (u : Unit) => rr = cc0) (fun u t => at_W D (ty3 cI cZ cO) (va_A (wM cI cZ mq ma mg mh mF mE) sz) (wM cI cZ mq ma (sF mg 0 0) mh mF mE) t) (va_A (wM cI cZ mq ma mg mh mF mE) sz)) 0 0 (va_A (wM cI cZ mq ma mg mh mF mE) sz) := by
  refine Met.goi (cc := cX6_refused) (maxL := 2) (ret := (some .int)) (by decide) rfl (Nat.le_of_ble_eq_true rfl) (fun p e s m below meth c A ls X hW hl => ?_)
  have hi6 : ∀ w ∈ wsX60, w ∈ wsX6_refused := fun w h => List.mem_cons_of_mem _ (List.mem_append_right _ h)
  have hl : lv_has ls 2 [(0, .ref mq), (1, .int cc0)] := hl
  refine x_aload_n X dX6_refused_0 rfl (lv_at hl 0 rfl) ?_
  refine x_iconst (v := nI 0) X dX6_refused_1 (by decide) ?_
  refine x_put X hW (v := .int (nI 0)) hi6 tyX6 tyX6_ok nmX6 0 rfl rfl 0 (by decide) (List.mem_of_getElem? (i := 1) rfl) rfl rfl rfl rfl (Nat.le_of_ble_eq_true rfl) dX6_refused_2 (wM cI cZ mq ma (sF mg 0 0) mh mF mE) rfl (fun H locs hW => ?_)
  refine x_iload_n X dX6_refused_5 rfl (lv_at hl 1 rfl) ?_
  exact x_iret X hW rfl () (rfl) rfl dX6_refused_6
set_option maxHeartbeats 4000000 in
set_option maxRecDepth 100000 in
theorem c_X6_failed (l : Launch) (D : va_G) (cI cZ cO : ClassId) (mq : Nat) (ma : Nat → Nat) (mg : Nat → Nat) (mh : Nat → Int32) (mF : Nat → Nat → Nat) (mE : Nat → Nat → Int32) (sz : Nat) (f : Nat)   : Met l yX6_failed wsX6_failed ({ frames := 0, cells := 0, slots := 0, locals := 0 }) (va_Pc [.ref mq, .int (nI f)] (st_W D (ty3 cI cZ cO) (wM cI cZ mq ma mg mh mF mE) sz)) (va_Qi (fun (rr : Int32) (u : Unit) => rr = (-10) - nI f) (fun u t => at_W D (ty3 cI cZ cO) (va_A (wM cI cZ mq ma mg mh mF mE) sz) (wM cI cZ mq ma (sF mg 0 f) mh mF mE) t) (va_A (wM cI cZ mq ma mg mh mF mE) sz)) 0 0 (va_A (wM cI cZ mq ma mg mh mF mE) sz) := by
  refine Met.goi (cc := cX6_failed) (maxL := 2) (ret := (some .int)) (by decide) rfl (Nat.le_of_ble_eq_true rfl) (fun p e s m below meth c A ls X hW hl => ?_)
  have hi6 : ∀ w ∈ wsX60, w ∈ wsX6_failed := fun w h => List.mem_cons_of_mem _ (List.mem_append_right _ h)
  have hl : lv_has ls 2 [(0, .ref mq), (1, .int (nI f))] := hl
  refine x_aload_n X dX6_failed_0 rfl (lv_at hl 0 rfl) ?_
  refine x_iload_n X dX6_failed_1 rfl (lv_at hl 1 rfl) ?_
  refine x_put X hW (v := .int (nI f)) hi6 tyX6 tyX6_ok nmX6 0 rfl rfl 0 (by decide) (List.mem_of_getElem? (i := 1) rfl) rfl rfl rfl rfl (Nat.le_of_ble_eq_true rfl) dX6_failed_2 (wM cI cZ mq ma (sF mg 0 f) mh mF mE) rfl (fun H locs hW => ?_)
  refine x_bipush (v := (-10 : Int32)) X dX6_failed_5 (by decide) ?_
  refine x_iload_n X dX6_failed_7 rfl (lv_at hl 1 rfl) ?_
  refine x_isub (v := (-10 : Int32) - (nI f)) X dX6_failed_8 rfl ?_
  exact x_iret X hW rfl () ((by first | rfl | assumption | omega)) rfl dX6_failed_9
set_option maxHeartbeats 4000000 in
set_option maxRecDepth 100000 in
theorem c_X6_failedLong (l : Launch) (D : va_G) (cI cZ cO : ClassId) (mq : Nat) (ma : Nat → Nat) (mg : Nat → Nat) (mh : Nat → Int32) (mF : Nat → Nat → Nat) (mE : Nat → Nat → Int32) (sz : Nat) (f : Nat)   : Met l yX6_failedLong wsX6_failedLong ({ frames := 1, cells := 0, slots := 0, locals := 19 }) (va_Pc [.ref mq, .int (nI f)] (st_W D (ty3 cI cZ cO) (wM cI cZ mq ma mg mh mF mE) sz)) (va_Ql (fun (rr : Int64) (u : Unit) => rr = (-9223372036854775808)) (fun u t => at_W D (ty3 cI cZ cO) (va_A (wM cI cZ mq ma mg mh mF mE) sz) (wM cI cZ mq ma (sF mg 0 f) mh mF mE) t) (va_A (wM cI cZ mq ma mg mh mF mE) sz)) 0 0 (va_A (wM cI cZ mq ma mg mh mF mE) sz) := by
  refine Met.gol (cc := cX6_failedLong) (maxL := 2) (ret := (some .long)) (by decide) rfl (Nat.le_of_ble_eq_true rfl) (fun p e s m below meth c A ls X hW hl => ?_)
  have hi6 : ∀ w ∈ wsX60, w ∈ wsX6_failedLong := fun w h => List.mem_cons_of_mem _ (List.mem_append_right _ h)
  have hl : lv_has ls 2 [(0, .ref mq), (1, .int (nI f))] := hl
  refine x_aload_n X dX6_failedLong_0 rfl (lv_at hl 0 rfl) ?_
  refine x_iload_n X dX6_failedLong_1 rfl (lv_at hl 1 rfl) ?_
  refine x_put X hW (v := .int (nI f)) hi6 tyX6 tyX6_ok nmX6 0 rfl rfl 0 (by decide) (List.mem_of_getElem? (i := 1) rfl) rfl rfl rfl rfl (Nat.le_of_ble_eq_true rfl) dX6_failedLong_2 (wM cI cZ mq ma (sF mg 0 f) mh mF mE) rfl (fun H locs hW => ?_)
  refine x_callSle X hW (As := []) (rest := []) (c_X6_lost l D cI cZ cO  _ ) (va_cwS 0 X.2.2.2.2.2.1 gX6_failedLong_X6_lost rfl rfl rfl (by decide +kernel) ⟨Nat.le_of_ble_eq_true rfl, Nat.le_of_ble_eq_true rfl⟩) rfl hl.1 rfl (Nat.le_of_ble_eq_true rfl) ⟨Nat.le_of_ble_eq_true rfl, Nat.le_of_ble_eq_true rfl⟩ dX6_failedLong_5 (fun r1 u2 H locs w5 hW => ?_)
  have hW : Wd D A s.heap H locs (wM cI cZ mq ma (sF mg 0 f) mh mF mE) := hW
  replace w5 : r1 = (-9223372036854775808) := w5
  subst w5
  exact x_lret X hW rfl () (rfl) rfl dX6_failedLong_8
set_option maxHeartbeats 4000000 in
set_option maxRecDepth 100000 in
theorem c_X6_noReach (l : Launch) (D : va_G) (cI cZ cO : ClassId) (mq : Nat) (ma : Nat → Nat) (mg : Nat → Nat) (mh : Nat → Int32) (mF : Nat → Nat → Nat) (mE : Nat → Nat → Int32) (sz : Nat) (r : Int32)  (hn : mg 2 ≤ 4) : Met l yX6_noReach wsX6_noReach ({ frames := 1, cells := 0, slots := 0, locals := 25 }) (va_Pc [.ref mq, .int r] (st_W D (ty3 cI cZ cO) (wM cI cZ mq ma mg mh mF mE) sz)) (va_Qi (fun (rr : Int32) (u : Unit) => (rr = nI 1 ∧ (¬ inR r (mg 2)) ∨ rr = nI 0 ∧ ¬ (¬ inR r (mg 2)))) (fun u t => at_W D (ty3 cI cZ cO) (va_A (wM cI cZ mq ma mg mh mF mE) sz) (wM cI cZ mq ma mg mh mF mE) t) (va_A (wM cI cZ mq ma mg mh mF mE) sz)) 0 0 (va_A (wM cI cZ mq ma mg mh mF mE) sz) := by
  refine Met.goi (cc := cX6_noReach) (maxL := 2) (ret := (some .boolean)) (by decide) rfl (Nat.le_of_ble_eq_true rfl) (fun p e s m below meth c A ls X hW hl => ?_)
  have hi6 : ∀ w ∈ wsX60, w ∈ wsX6_noReach := fun w h => List.mem_cons_of_mem _ (List.mem_append_right _ h)
  have hl : lv_has ls 2 [(0, .ref mq), (1, .int r)] := hl
  refine x_iload_n X dX6_noReach_0 rfl (lv_at hl 1 rfl) ?_
  refine x_i2l (v := r.toInt64) X dX6_noReach_1 rfl ?_
  refine x_lconst (v := 0) X dX6_noReach_2 (by decide) ?_
  refine x_aload_n X dX6_noReach_3 rfl (lv_at hl 0 rfl) ?_
  refine x_get X hW (v := .int (nI (mg 2))) hi6 0 rfl rfl 2 (by decide) (List.mem_of_getElem? (i := 1) rfl) rfl rfl dX6_noReach_4 ?_
  refine x_i2l (v := (nI (mg 2)).toInt64) X dX6_noReach_7 rfl ?_
  refine x_lconst (v := 1) X dX6_noReach_8 (by decide) ?_
  refine x_lsub (v := ((nI (mg 2)).toInt64) - (1 : Int64)) X dX6_noReach_9 rfl ?_
  refine x_callSie X hW (As := [.long r.toInt64, .long (0 : Int64), .long (((nI (mg 2)).toInt64) - (1 : Int64))]) (rest := []) (c_X6_in l D cI cZ cO  _ r.toInt64 (0 : Int64) (((nI (mg 2)).toInt64) - (1 : Int64))) (va_cwS 3 X.2.2.2.2.2.1 gX6_noReach_X6_in rfl rfl rfl (by decide +kernel) ⟨Nat.le_of_ble_eq_true rfl, Nat.le_of_ble_eq_true rfl⟩) rfl hl.1 rfl (Nat.le_of_ble_eq_true rfl) ⟨Nat.le_of_ble_eq_true rfl, Nat.le_of_ble_eq_true rfl⟩ dX6_noReach_10 (fun r1 u2 H locs w10 hW => ?_)
  have hW : Wd D A s.heap H locs (wM cI cZ mq ma mg mh mF mE) := hW
  replace w10 : (r1 = nI 1 ∧ ((0 : Int64).toInt ≤ r.toInt64.toInt ∧ r.toInt64.toInt ≤ (((nI (mg 2)).toInt64) - (1 : Int64)).toInt) ∨ r1 = nI 0 ∧ ¬ ((0 : Int64).toInt ≤ r.toInt64.toInt ∧ r.toInt64.toInt ≤ (((nI (mg 2)).toInt64) - (1 : Int64)).toInt)) := w10
  rcases w10 with ⟨w10, h10⟩ | ⟨w10, h10⟩
  · subst w10
    have gi := (in_iff (r := r) l_0 (hi_sub (k := 1) (m := 1) (by omega) (by decide) (by decide))).mp h10
    refine n_if_ne X 20 dX6_noReach_13 (by decide) (by decide) (fun c13 => ?_) (fun c13 => by exact absurd c13 (by decide))
    refine x_iconst (v := nI 0) X dX6_noReach_20 (by decide) ?_
    exact x_zret X hW rfl (Or.inl (by decide)) () (Or.inr ⟨rfl, by first | exact gi | exact fun q => q gi⟩) rfl dX6_noReach_21
  · subst w10
    have gi := fun q => h10 ((in_iff (r := r) l_0 (hi_sub (k := 1) (m := 1) (by omega) (by decide) (by decide))).mpr q)
    refine n_if_ne X 20 dX6_noReach_13 (by decide) (by decide) (fun c13 => by exact absurd c13 (by decide)) (fun c13 => ?_)
    refine x_iconst (v := nI 1) X dX6_noReach_16 (by decide) ?_
    refine x_goto X 21 dX6_noReach_17 (by decide) ?_
    exact x_zret X hW rfl (Or.inr (by decide)) () (Or.inl ⟨rfl, by first | exact gi | exact fun q => q gi⟩) rfl dX6_noReach_21
set_option maxHeartbeats 4000000 in
set_option maxRecDepth 100000 in
theorem c_X6_wantOf (l : Launch) (D : va_G) (cI cZ cO : ClassId) (mq : Nat) (ma : Nat → Nat) (mg : Nat → Nat) (mh : Nat → Int32) (mF : Nat → Nat → Nat) (mE : Nat → Nat → Int32) (sz : Nat) (j : Nat)  (hj : j < 4) (hk : ∀ z0, mF 3 z0 ≤ 2) (hm : ∀ z0, mF 5 z0 ≤ 9) : Met l yX6_wantOf wsX6_wantOf ({ frames := 0, cells := 0, slots := 0, locals := 0 }) (va_Pc [.ref mq, .int (nI j)] (st_W D (ty3 cI cZ cO) (wM cI cZ mq ma mg mh mF mE) sz)) (va_Qi (fun (rr : Int32) (u : Unit) => rr = nI (want (mF 3 j) (mF 5 j))) (fun u t => at_W D (ty3 cI cZ cO) (va_A (wM cI cZ mq ma mg mh mF mE) sz) (wM cI cZ mq ma mg mh mF mE) t) (va_A (wM cI cZ mq ma mg mh mF mE) sz)) 0 0 (va_A (wM cI cZ mq ma mg mh mF mE) sz) := by
  refine Met.goi (cc := cX6_wantOf) (maxL := 3) (ret := (some .int)) (by decide) rfl (Nat.le_of_ble_eq_true rfl) (fun p e s m below meth c A ls X hW hl => ?_)
  have hi6 : ∀ w ∈ wsX60, w ∈ wsX6_wantOf := fun w h => List.mem_cons_of_mem _ (List.mem_append_right _ h)
  have hl : lv_has ls 3 [(0, .ref mq), (1, .int (nI j))] := hl
  have b1 := hk j
  have b2 := hm j
  refine x_aload_n X dX6_wantOf_0 rfl (lv_at hl 0 rfl) ?_
  refine x_get X hW (v := .ref (ma 5)) hi6 0 rfl rfl 5 (by decide) (List.mem_of_getElem? (i := 1) rfl) rfl rfl dX6_wantOf_1 ?_
  refine x_iload_n X dX6_wantOf_4 rfl (lv_at hl 1 rfl) ?_
  refine n_iald X hW (f := mF 5) 3 0 rfl rfl (by omega) (by decide) dX6_wantOf_5 ?_
  refine n_if_le X 20 dX6_wantOf_6 (by decide) (by omega) (fun c6 => ?_) (fun c6 => ?_)
  · refine x_iconst (v := nI 0) X dX6_wantOf_20 (by decide) ?_
    refine x_istore_n X [(2, .int (nI 0)), (0, .ref mq), (1, .int (nI j))] dX6_wantOf_21 rfl hl (by decide) rfl (fun ls hl => ?_)
    refine x_aload_n X dX6_wantOf_22 rfl (lv_at hl 1 rfl) ?_
    refine x_get X hW (v := .ref (ma 3)) hi6 0 rfl rfl 3 (by decide) (List.mem_of_getElem? (i := 2) rfl) rfl rfl dX6_wantOf_23 ?_
    refine x_iload_n X dX6_wantOf_26 rfl (lv_at hl 2 rfl) ?_
    refine n_iald X hW (f := mF 3) 1 0 rfl rfl (by omega) (by decide) dX6_wantOf_27 ?_
    refine n_if_ne X 40 dX6_wantOf_28 (by decide) (by omega) (fun c28 => ?_) (fun c28 => ?_)
    · refine x_aload_n X dX6_wantOf_40 rfl (lv_at hl 1 rfl) ?_
      refine x_get X hW (v := .ref (ma 3)) hi6 0 rfl rfl 3 (by decide) (List.mem_of_getElem? (i := 2) rfl) rfl rfl dX6_wantOf_41 ?_
      refine x_iload_n X dX6_wantOf_44 rfl (lv_at hl 2 rfl) ?_
      refine n_iald X hW (f := mF 3) 1 0 rfl rfl (by omega) (by decide) dX6_wantOf_45 ?_
      refine x_iconst (v := nI 1) X dX6_wantOf_46 (by decide) ?_
      refine n_icmp_ne X 54 dX6_wantOf_47 (by decide) (by omega) (by decide) (fun c47 => ?_) (fun c47 => ?_)
      · refine x_iload_n X dX6_wantOf_54 rfl (lv_at hl 0 rfl) ?_
        refine x_iconst (v := nI 2) X dX6_wantOf_55 (by decide) ?_
        refine n_idiv X dX6_wantOf_56 (by omega) (by omega) (by decide) ?_
        refine n_as0 (b := 0) (by decide) ?_
        exact x_iret X hW rfl () ((congrArg nI (show 0 = want (mF 3 j) (mF 5 j) from by unfold want; (repeat' split) <;> omega))) rfl dX6_wantOf_57
      · refine x_iload_n X dX6_wantOf_50 rfl (lv_at hl 0 rfl) ?_
        refine x_goto X 57 dX6_wantOf_51 (by decide) ?_
        exact x_iret X hW rfl () ((congrArg nI (show 0 = want (mF 3 j) (mF 5 j) from by unfold want; (repeat' split) <;> omega))) rfl dX6_wantOf_57
    · refine x_aload_n X dX6_wantOf_31 rfl (lv_at hl 1 rfl) ?_
      refine x_get X hW (v := .ref (ma 5)) hi6 0 rfl rfl 5 (by decide) (List.mem_of_getElem? (i := 1) rfl) rfl rfl dX6_wantOf_32 ?_
      refine x_iload_n X dX6_wantOf_35 rfl (lv_at hl 2 rfl) ?_
      refine n_iald X hW (f := mF 5) 3 0 rfl rfl (by omega) (by decide) dX6_wantOf_36 ?_
      refine x_goto X 57 dX6_wantOf_37 (by decide) ?_
      exact x_iret X hW rfl () ((congrArg nI (show mF 5 j = want (mF 3 j) (mF 5 j) from by unfold want; (repeat' split) <;> omega))) rfl dX6_wantOf_57
  · refine x_aload_n X dX6_wantOf_9 rfl (lv_at hl 0 rfl) ?_
    refine x_get X hW (v := .ref (ma 5)) hi6 0 rfl rfl 5 (by decide) (List.mem_of_getElem? (i := 1) rfl) rfl rfl dX6_wantOf_10 ?_
    refine x_iload_n X dX6_wantOf_13 rfl (lv_at hl 1 rfl) ?_
    refine n_iald X hW (f := mF 5) 3 0 rfl rfl (by omega) (by decide) dX6_wantOf_14 ?_
    refine x_iconst (v := nI 1) X dX6_wantOf_15 (by decide) ?_
    refine n_isub X dX6_wantOf_16 (by omega) ?_
    refine x_goto X 21 dX6_wantOf_17 (by decide) ?_
    refine x_istore_n X [(2, .int (nI (mF 5 j - 1))), (0, .ref mq), (1, .int (nI j))] dX6_wantOf_21 rfl hl (by decide) rfl (fun ls hl => ?_)
    refine x_aload_n X dX6_wantOf_22 rfl (lv_at hl 1 rfl) ?_
    refine x_get X hW (v := .ref (ma 3)) hi6 0 rfl rfl 3 (by decide) (List.mem_of_getElem? (i := 2) rfl) rfl rfl dX6_wantOf_23 ?_
    refine x_iload_n X dX6_wantOf_26 rfl (lv_at hl 2 rfl) ?_
    refine n_iald X hW (f := mF 3) 1 0 rfl rfl (by omega) (by decide) dX6_wantOf_27 ?_
    refine n_if_ne X 40 dX6_wantOf_28 (by decide) (by omega) (fun c28 => ?_) (fun c28 => ?_)
    · refine x_aload_n X dX6_wantOf_40 rfl (lv_at hl 1 rfl) ?_
      refine x_get X hW (v := .ref (ma 3)) hi6 0 rfl rfl 3 (by decide) (List.mem_of_getElem? (i := 2) rfl) rfl rfl dX6_wantOf_41 ?_
      refine x_iload_n X dX6_wantOf_44 rfl (lv_at hl 2 rfl) ?_
      refine n_iald X hW (f := mF 3) 1 0 rfl rfl (by omega) (by decide) dX6_wantOf_45 ?_
      refine x_iconst (v := nI 1) X dX6_wantOf_46 (by decide) ?_
      refine n_icmp_ne X 54 dX6_wantOf_47 (by decide) (by omega) (by decide) (fun c47 => ?_) (fun c47 => ?_)
      · refine x_iload_n X dX6_wantOf_54 rfl (lv_at hl 0 rfl) ?_
        refine x_iconst (v := nI 2) X dX6_wantOf_55 (by decide) ?_
        refine n_idiv X dX6_wantOf_56 (by omega) (by omega) (by decide) ?_
        exact x_iret X hW rfl () ((congrArg nI (show (mF 5 j - 1) / 2 = want (mF 3 j) (mF 5 j) from by unfold want; (repeat' split) <;> omega))) rfl dX6_wantOf_57
      · refine x_iload_n X dX6_wantOf_50 rfl (lv_at hl 0 rfl) ?_
        refine x_goto X 57 dX6_wantOf_51 (by decide) ?_
        exact x_iret X hW rfl () ((congrArg nI (show mF 5 j - 1 = want (mF 3 j) (mF 5 j) from by unfold want; (repeat' split) <;> omega))) rfl dX6_wantOf_57
    · refine x_aload_n X dX6_wantOf_31 rfl (lv_at hl 1 rfl) ?_
      refine x_get X hW (v := .ref (ma 5)) hi6 0 rfl rfl 5 (by decide) (List.mem_of_getElem? (i := 1) rfl) rfl rfl dX6_wantOf_32 ?_
      refine x_iload_n X dX6_wantOf_35 rfl (lv_at hl 2 rfl) ?_
      refine n_iald X hW (f := mF 5) 3 0 rfl rfl (by omega) (by decide) dX6_wantOf_36 ?_
      refine x_goto X 57 dX6_wantOf_37 (by decide) ?_
      exact x_iret X hW rfl () ((congrArg nI (show mF 5 j = want (mF 3 j) (mF 5 j) from by unfold want; (repeat' split) <;> omega))) rfl dX6_wantOf_57
set_option maxHeartbeats 4000000 in
set_option maxRecDepth 100000 in
theorem c_X6_begin (l : Launch) (D : va_G) (cI cZ cO : ClassId) (mq : Nat) (ma : Nat → Nat) (mg : Nat → Nat) (mh : Nat → Int32) (mF : Nat → Nat → Nat) (mE : Nat → Nat → Int32) (sz : Nat)   (hn : mg 2 ≤ 4) : Met l yX6_begin wsX6_begin ({ frames := 0, cells := 0, slots := 0, locals := 0 }) (va_Pc [.ref mq] (st_W D (ty3 cI cZ cO) (wM cI cZ mq ma mg mh mF mE) sz)) (va_Qv (fun (u : Unit) => True) (fun u t => at_W D (ty3 cI cZ cO) (va_A (wM cI cZ mq ma mg mh mF mE) sz) (wM cI cZ mq ma mg mh (sF mF 12 (cpN (mg 2) (mF 4) (mF 12))) mE) t) (va_A (wM cI cZ mq ma mg mh mF mE) sz)) 0 0 (va_A (wM cI cZ mq ma mg mh mF mE) sz) := by
  refine Met.gov (cc := cX6_begin) (maxL := 2) (ret := none) (by decide) rfl (Nat.le_of_ble_eq_true rfl) (fun p e s m below meth c A ls X hW hl => ?_)
  have hi6 : ∀ w ∈ wsX60, w ∈ wsX6_begin := fun w h => List.mem_cons_of_mem _ (List.mem_append_right _ h)
  have hl : lv_has ls 2 [(0, .ref mq)] := hl
  refine x_iconst (v := nI 0) X dX6_begin_0 (by decide) ?_
  refine x_istore_n X [(1, .int (nI 0)), (0, .ref mq)] dX6_begin_1 rfl hl (by decide) rfl (fun ls hl => ?_)
  refine W.loop (σ := (Nat)) (fun u H locs ls => (u ≤ mg 2) ∧ Wd D A s.heap H locs (wM cI cZ mq ma mg mh (sF mF 12 (cpN u (mF 4) (mF 12))) mE) ∧ lv_has ls 2 [(1, .int (nI u)), (0, .ref mq)]) (fun u => mg 2 - u) (fun u H locs ls hI ih => ?_) 0 ⟨(show 0 ≤ mg 2 from (by omega)), (hW.eq (congrArg (fun z => (wM cI cZ mq ma mg mh (sF mF 12 z) mE)) (show (mF 12) = (cpN 0 (mF 4) (mF 12)) from by first | rw [cpN_s] | rw [cpN_0]))), hl⟩
  obtain ⟨i, ie⟩ : ∃ z, z = u := ⟨_, rfl⟩
  subst ie
  obtain ⟨hv, hW, hl⟩ := hI
  have hv : i ≤ mg 2 := hv
  have hW : Wd D A s.heap H locs (wM cI cZ mq ma mg mh (sF mF 12 (cpN i (mF 4) (mF 12))) mE) := hW
  have hl : lv_has ls 2 [(1, .int (nI i)), (0, .ref mq)] := hl
  have ih2 := ih
  refine x_iload_n X dX6_begin_2 rfl (lv_at hl 0 rfl) ?_
  refine x_aload_n X dX6_begin_3 rfl (lv_at hl 1 rfl) ?_
  refine x_get X hW (v := .int (nI (mg 2))) hi6 0 rfl rfl 2 (by decide) (List.mem_of_getElem? (i := 1) rfl) rfl rfl dX6_begin_4 ?_
  refine n_icmp_ge X 28 dX6_begin_7 (by decide) (by omega) (by omega) (fun c7 => ?_) (fun c7 => ?_)
  · exact x_vret X hW rfl () (trivial) (by rw [show i = mg 2 by omega]) dX6_begin_28
  · refine x_aload_n X dX6_begin_10 rfl (lv_at hl 1 rfl) ?_
    refine x_get X hW (v := .ref (ma 12)) hi6 0 rfl rfl 12 (by decide) (List.mem_of_getElem? (i := 2) rfl) rfl rfl dX6_begin_11 ?_
    refine x_iload_n X dX6_begin_14 rfl (lv_at hl 0 rfl) ?_
    refine x_aload_n X dX6_begin_15 rfl (lv_at hl 1 rfl) ?_
    refine x_get X hW (v := .ref (ma 4)) hi6 0 rfl rfl 4 (by decide) (List.mem_of_getElem? (i := 3) rfl) rfl rfl dX6_begin_16 ?_
    refine x_iload_n X dX6_begin_19 rfl (lv_at hl 0 rfl) ?_
    refine n_iald X hW (f := mF 4) 2 0 rfl rfl (by omega) (by decide) dX6_begin_20 ?_
    refine n_iast X hW (f := cpN i (mF 4) (mF 12)) 7 0 rfl rfl (by omega) (by decide) dX6_begin_21 (wM cI cZ mq ma mg mh (sF mF 12 (sF (cpN i (mF 4) (mF 12)) i (mF 4 i))) mE) rfl (fun H locs hW => ?_)
    refine x_iinc X [(1, .int (nI (i + 1))), (0, .ref mq)] (k := 0) dX6_begin_22 hl rfl (nI_inc1 i) (by decide) rfl (fun ls hl => ?_)
    refine x_goto X 2 dX6_begin_25 (by decide) ?_
    exact ih2 (i + 1) _ _ _ ⟨(show (i + 1) ≤ mg 2 from (by omega)), (hW.eq (congrArg (fun z => (wM cI cZ mq ma mg mh (sF mF 12 z) mE)) (show (sF (cpN i (mF 4) (mF 12)) i (mF 4 i)) = (cpN (i + 1) (mF 4) (mF 12)) from by first | rw [cpN_s] | rw [cpN_0]))), lv_sub hl [0, 1] rfl⟩ (by omega)
set_option maxHeartbeats 4000000 in
set_option maxRecDepth 100000 in
theorem c_X6_end (l : Launch) (D : va_G) (cI cZ cO : ClassId) (mq : Nat) (ma : Nat → Nat) (mg : Nat → Nat) (mh : Nat → Int32) (mF : Nat → Nat → Nat) (mE : Nat → Nat → Int32) (sz : Nat)   (hn : mg 2 ≤ 4) : Met l yX6_end wsX6_end ({ frames := 0, cells := 0, slots := 0, locals := 0 }) (va_Pc [.ref mq] (st_W D (ty3 cI cZ cO) (wM cI cZ mq ma mg mh mF mE) sz)) (va_Qv (fun (u : Unit) => True) (fun u t => at_W D (ty3 cI cZ cO) (va_A (wM cI cZ mq ma mg mh mF mE) sz) (wM cI cZ mq ma mg mh (sF mF 4 (cpN (mg 2) (mF 12) (mF 4))) mE) t) (va_A (wM cI cZ mq ma mg mh mF mE) sz)) 0 0 (va_A (wM cI cZ mq ma mg mh mF mE) sz) := by
  refine Met.gov (cc := cX6_end) (maxL := 2) (ret := none) (by decide) rfl (Nat.le_of_ble_eq_true rfl) (fun p e s m below meth c A ls X hW hl => ?_)
  have hi6 : ∀ w ∈ wsX60, w ∈ wsX6_end := fun w h => List.mem_cons_of_mem _ (List.mem_append_right _ h)
  have hl : lv_has ls 2 [(0, .ref mq)] := hl
  refine x_iconst (v := nI 0) X dX6_end_0 (by decide) ?_
  refine x_istore_n X [(1, .int (nI 0)), (0, .ref mq)] dX6_end_1 rfl hl (by decide) rfl (fun ls hl => ?_)
  refine W.loop (σ := (Nat)) (fun u H locs ls => (u ≤ mg 2) ∧ Wd D A s.heap H locs (wM cI cZ mq ma mg mh (sF mF 4 (cpN u (mF 12) (mF 4))) mE) ∧ lv_has ls 2 [(1, .int (nI u)), (0, .ref mq)]) (fun u => mg 2 - u) (fun u H locs ls hI ih => ?_) 0 ⟨(show 0 ≤ mg 2 from (by omega)), (hW.eq (congrArg (fun z => (wM cI cZ mq ma mg mh (sF mF 4 z) mE)) (show (mF 4) = (cpN 0 (mF 12) (mF 4)) from by first | rw [cpN_s] | rw [cpN_0]))), hl⟩
  obtain ⟨i, ie⟩ : ∃ z, z = u := ⟨_, rfl⟩
  subst ie
  obtain ⟨hv, hW, hl⟩ := hI
  have hv : i ≤ mg 2 := hv
  have hW : Wd D A s.heap H locs (wM cI cZ mq ma mg mh (sF mF 4 (cpN i (mF 12) (mF 4))) mE) := hW
  have hl : lv_has ls 2 [(1, .int (nI i)), (0, .ref mq)] := hl
  have ih2 := ih
  refine x_iload_n X dX6_end_2 rfl (lv_at hl 0 rfl) ?_
  refine x_aload_n X dX6_end_3 rfl (lv_at hl 1 rfl) ?_
  refine x_get X hW (v := .int (nI (mg 2))) hi6 0 rfl rfl 2 (by decide) (List.mem_of_getElem? (i := 1) rfl) rfl rfl dX6_end_4 ?_
  refine n_icmp_ge X 28 dX6_end_7 (by decide) (by omega) (by omega) (fun c7 => ?_) (fun c7 => ?_)
  · exact x_vret X hW rfl () (trivial) (by rw [show i = mg 2 by omega]) dX6_end_28
  · refine x_aload_n X dX6_end_10 rfl (lv_at hl 1 rfl) ?_
    refine x_get X hW (v := .ref (ma 4)) hi6 0 rfl rfl 4 (by decide) (List.mem_of_getElem? (i := 2) rfl) rfl rfl dX6_end_11 ?_
    refine x_iload_n X dX6_end_14 rfl (lv_at hl 0 rfl) ?_
    refine x_aload_n X dX6_end_15 rfl (lv_at hl 1 rfl) ?_
    refine x_get X hW (v := .ref (ma 12)) hi6 0 rfl rfl 12 (by decide) (List.mem_of_getElem? (i := 3) rfl) rfl rfl dX6_end_16 ?_
    refine x_iload_n X dX6_end_19 rfl (lv_at hl 0 rfl) ?_
    refine n_iald X hW (f := mF 12) 7 0 rfl rfl (by omega) (by decide) dX6_end_20 ?_
    refine n_iast X hW (f := cpN i (mF 12) (mF 4)) 2 0 rfl rfl (by omega) (by decide) dX6_end_21 (wM cI cZ mq ma mg mh (sF mF 4 (sF (cpN i (mF 12) (mF 4)) i (mF 12 i))) mE) rfl (fun H locs hW => ?_)
    refine x_iinc X [(1, .int (nI (i + 1))), (0, .ref mq)] (k := 0) dX6_end_22 hl rfl (nI_inc1 i) (by decide) rfl (fun ls hl => ?_)
    refine x_goto X 2 dX6_end_25 (by decide) ?_
    exact ih2 (i + 1) _ _ _ ⟨(show (i + 1) ≤ mg 2 from (by omega)), (hW.eq (congrArg (fun z => (wM cI cZ mq ma mg mh (sF mF 4 z) mE)) (show (sF (cpN i (mF 12) (mF 4)) i (mF 12 i)) = (cpN (i + 1) (mF 12) (mF 4)) from by first | rw [cpN_s] | rw [cpN_0]))), lv_sub hl [0, 1] rfl⟩ (by omega)
set_option maxHeartbeats 4000000 in
set_option maxRecDepth 100000 in
theorem c_X6_mayOpen (l : Launch) (D : va_G) (cI cZ cO : ClassId) (mq : Nat) (ma : Nat → Nat) (mg : Nat → Nat) (mh : Nat → Int32) (mF : Nat → Nat → Nat) (mE : Nat → Nat → Int32) (sz : Nat) (g : Nat)  (hg : g + 1 < 4) (hk : ∀ z0, mF 3 z0 ≤ 2) (hm : ∀ z0, mF 5 z0 ≤ 9) (hw : ∀ z0, mF 12 z0 ≤ 9) : Met l yX6_mayOpen wsX6_mayOpen ({ frames := 1, cells := 0, slots := 0, locals := 22 }) (va_Pc [.ref mq, .int (nI g)] (st_W D (ty3 cI cZ cO) (wM cI cZ mq ma mg mh mF mE) sz)) (va_Qi (fun (rr : Int32) (u : Unit) => (rr = nI 1 ∧ (mayN (mF 3) (mF 12) (mF 5) g) ∨ rr = nI 0 ∧ ¬ (mayN (mF 3) (mF 12) (mF 5) g))) (fun u t => at_W D (ty3 cI cZ cO) (va_A (wM cI cZ mq ma mg mh mF mE) sz) (wM cI cZ mq ma mg mh mF mE) t) (va_A (wM cI cZ mq ma mg mh mF mE) sz)) 0 0 (va_A (wM cI cZ mq ma mg mh mF mE) sz) := by
  refine Met.goi (cc := cX6_mayOpen) (maxL := 2) (ret := (some .boolean)) (by decide) rfl (Nat.le_of_ble_eq_true rfl) (fun p e s m below meth c A ls X hW hl => ?_)
  have hi6 : ∀ w ∈ wsX60, w ∈ wsX6_mayOpen := fun w h => List.mem_cons_of_mem _ (List.mem_append_right _ h)
  have hl : lv_has ls 2 [(0, .ref mq), (1, .int (nI g))] := hl
  have b1 := hw g
  have b2 := hw (g + 1)
  have b3 := want_le (mF 3 (g + 1)) (mF 5 (g + 1))
  have b4 := hm (g + 1)
  refine x_aload_n X dX6_mayOpen_0 rfl (lv_at hl 0 rfl) ?_
  refine x_get X hW (v := .ref (ma 12)) hi6 0 rfl rfl 12 (by decide) (List.mem_of_getElem? (i := 1) rfl) rfl rfl dX6_mayOpen_1 ?_
  refine x_iload_n X dX6_mayOpen_4 rfl (lv_at hl 1 rfl) ?_
  refine n_iald X hW (f := mF 12) 7 0 rfl rfl (by omega) (by decide) dX6_mayOpen_5 ?_
  refine n_if_le X 31 dX6_mayOpen_6 (by decide) (by omega) (fun c6 => ?_) (fun c6 => ?_)
  · refine x_iconst (v := nI 0) X dX6_mayOpen_31 (by decide) ?_
    exact x_zret X hW rfl (Or.inl (by decide)) () (Or.inr ⟨rfl, by unfold mayN; omega⟩) rfl dX6_mayOpen_32
  · refine x_aload_n X dX6_mayOpen_9 rfl (lv_at hl 0 rfl) ?_
    refine x_get X hW (v := .ref (ma 12)) hi6 0 rfl rfl 12 (by decide) (List.mem_of_getElem? (i := 1) rfl) rfl rfl dX6_mayOpen_10 ?_
    refine x_iload_n X dX6_mayOpen_13 rfl (lv_at hl 1 rfl) ?_
    refine x_iconst (v := nI 1) X dX6_mayOpen_14 (by decide) ?_
    refine n_iadd X dX6_mayOpen_15 ?_
    refine n_iald X hW (f := mF 12) 7 0 rfl rfl (by omega) (by decide) dX6_mayOpen_16 ?_
    refine x_aload_n X dX6_mayOpen_17 rfl (lv_at hl 0 rfl) ?_
    refine x_iload_n X dX6_mayOpen_18 rfl (lv_at hl 1 rfl) ?_
    refine x_iconst (v := nI 1) X dX6_mayOpen_19 (by decide) ?_
    refine n_iadd X dX6_mayOpen_20 ?_
    refine x_callVi0 X hW (As := [.int (nI (g + 1))]) (rest := [.int (nI (mF 12 (g + 1)))]) (c_X6_wantOf l D cI cZ cO mq ma mg mh mF mE _ (g + 1) (show (g + 1) < 4 from (by first | assumption | omega)) (show ∀ z0, (mF 3) z0 ≤ 2 from (by first | assumption | omega)) (show ∀ z0, (mF 5) z0 ≤ 9 from (by first | assumption | omega))) (cwV 1 X.2.2.2.2.2.1 gX6_mayOpen_X6_wantOf rfl rfl rfl (by decide +kernel) ⟨Nat.le_of_ble_eq_true rfl, Nat.le_of_ble_eq_true rfl⟩) 0 5 rfl rfl rfl rfl hl.1 rfl (Nat.le_of_ble_eq_true rfl) ⟨Nat.le_of_ble_eq_true rfl, Nat.le_of_ble_eq_true rfl⟩ dX6_mayOpen_21 (fun r1 u2 H locs w21 hW => ?_)
    have hW : Wd D A s.heap H locs (wM cI cZ mq ma mg mh mF mE) := hW
    replace w21 : r1 = nI (want ((mF 3) (g + 1)) ((mF 5) (g + 1))) := w21
    subst w21
    refine n_icmp_ge X 31 dX6_mayOpen_24 (by decide) (by omega) (by omega) (fun c24 => ?_) (fun c24 => ?_)
    · refine x_iconst (v := nI 0) X dX6_mayOpen_31 (by decide) ?_
      exact x_zret X hW rfl (Or.inl (by decide)) () (Or.inr ⟨rfl, by unfold mayN; omega⟩) rfl dX6_mayOpen_32
    · refine x_iconst (v := nI 1) X dX6_mayOpen_27 (by decide) ?_
      refine x_goto X 32 dX6_mayOpen_28 (by decide) ?_
      exact x_zret X hW rfl (Or.inr (by decide)) () (Or.inl ⟨rfl, by unfold mayN; omega⟩) rfl dX6_mayOpen_32
set_option maxHeartbeats 4000000 in
set_option maxRecDepth 100000 in
theorem c_X6_gatesNow (l : Launch) (D : va_G) (cI cZ cO : ClassId) (mq : Nat) (ma : Nat → Nat) (mg : Nat → Nat) (mh : Nat → Int32) (mF : Nat → Nat → Nat) (mE : Nat → Nat → Int32) (sz : Nat)   (h1 : 1 ≤ mg 2) (hn : mg 2 ≤ 4) (hk : ∀ z0, mF 3 z0 ≤ 2) (hm : ∀ z0, mF 5 z0 ≤ 9) (hw : ∀ z0, mF 12 z0 ≤ 9) : Met l yX6_gatesNow wsX6_gatesNow ({ frames := 2, cells := 0, slots := 0, locals := 43 }) (va_Pc [.ref mq] (st_W D (ty3 cI cZ cO) (wM cI cZ mq ma mg mh mF mE) sz)) (va_Qi (fun (rr : Int32) (u : Unit) => rr = setI (mayN (mF 3) (mF 12) (mF 5)) (mg 2 - 1)) (fun u t => at_W D (ty3 cI cZ cO) (va_A (wM cI cZ mq ma mg mh mF mE) sz) (wM cI cZ mq ma mg mh mF mE) t) (va_A (wM cI cZ mq ma mg mh mF mE) sz)) 0 0 (va_A (wM cI cZ mq ma mg mh mF mE) sz) := by
  refine Met.goi (cc := cX6_gatesNow) (maxL := 3) (ret := (some .int)) (by decide) rfl (Nat.le_of_ble_eq_true rfl) (fun p e s m below meth c A ls X hW hl => ?_)
  have hi6 : ∀ w ∈ wsX60, w ∈ wsX6_gatesNow := fun w h => List.mem_cons_of_mem _ (List.mem_append_right _ h)
  have hl : lv_has ls 3 [(0, .ref mq)] := hl
  refine x_iconst (v := nI 0) X dX6_gatesNow_0 (by decide) ?_
  refine x_istore_n X [(1, .int (nI 0)), (0, .ref mq)] dX6_gatesNow_1 rfl hl (by decide) rfl (fun ls hl => ?_)
  refine x_iconst (v := nI 0) X dX6_gatesNow_2 (by decide) ?_
  refine x_istore_n X [(2, .int (nI 0)), (1, .int (nI 0)), (0, .ref mq)] dX6_gatesNow_3 rfl hl (by decide) rfl (fun ls hl => ?_)
  refine W.loop (σ := (Nat)) (fun u H locs ls => (u ≤ mg 2 - 1) ∧ Wd D A s.heap H locs (wM cI cZ mq ma mg mh mF mE) ∧ lv_has ls 3 [(2, .int (nI u)), (1, .int (setI (mayN (mF 3) (mF 12) (mF 5)) u)), (0, .ref mq)]) (fun u => mg 2 - u) (fun u H locs ls hI ih => ?_) 0 ⟨(show 0 ≤ mg 2 - 1 from (by omega)), hW, hl⟩
  obtain ⟨i, ie⟩ : ∃ z, z = u := ⟨_, rfl⟩
  subst ie
  obtain ⟨hv, hW, hl⟩ := hI
  have hv : i ≤ mg 2 - 1 := hv
  have hW : Wd D A s.heap H locs (wM cI cZ mq ma mg mh mF mE) := hW
  have hl : lv_has ls 3 [(2, .int (nI i)), (1, .int (setI (mayN (mF 3) (mF 12) (mF 5)) i)), (0, .ref mq)] := hl
  have ih4 := ih
  refine x_iload_n X dX6_gatesNow_4 rfl (lv_at hl 0 rfl) ?_
  refine x_aload_n X dX6_gatesNow_5 rfl (lv_at hl 2 rfl) ?_
  refine x_get X hW (v := .int (nI (mg 2))) hi6 0 rfl rfl 2 (by decide) (List.mem_of_getElem? (i := 1) rfl) rfl rfl dX6_gatesNow_6 ?_
  refine x_iconst (v := nI 1) X dX6_gatesNow_9 (by decide) ?_
  refine n_isub X dX6_gatesNow_10 (by omega) ?_
  refine n_icmp_ge X 38 dX6_gatesNow_11 (by decide) (by omega) (by omega) (fun c11 => ?_) (fun c11 => ?_)
  · refine x_iload_n X dX6_gatesNow_38 rfl (lv_at hl 1 rfl) ?_
    exact x_iret X hW rfl () ((by rw [show i = mg 2 - 1 by omega])) rfl dX6_gatesNow_39
  · refine x_iload_n X dX6_gatesNow_14 rfl (lv_at hl 1 rfl) ?_
    refine x_aload_n X dX6_gatesNow_15 rfl (lv_at hl 2 rfl) ?_
    refine x_iload_n X dX6_gatesNow_16 rfl (lv_at hl 0 rfl) ?_
    refine x_callVi0 X hW (As := [.int (nI i)]) (rest := [.int (setI (mayN (mF 3) (mF 12) (mF 5)) i)]) (c_X6_mayOpen l D cI cZ cO mq ma mg mh mF mE _ i (show i + 1 < 4 from (by first | assumption | omega)) (show ∀ z0, (mF 3) z0 ≤ 2 from (by first | assumption | omega)) (show ∀ z0, (mF 5) z0 ≤ 9 from (by first | assumption | omega)) (show ∀ z0, (mF 12) z0 ≤ 9 from (by first | assumption | omega))) (cwV 1 X.2.2.2.2.2.1 gX6_gatesNow_X6_mayOpen rfl rfl rfl (by decide +kernel) ⟨Nat.le_of_ble_eq_true rfl, Nat.le_of_ble_eq_true rfl⟩) 0 5 rfl rfl rfl rfl hl.1 rfl (Nat.le_of_ble_eq_true rfl) ⟨Nat.le_of_ble_eq_true rfl, Nat.le_of_ble_eq_true rfl⟩ dX6_gatesNow_17 (fun r1 u2 H locs w17 hW => ?_)
    have hW : Wd D A s.heap H locs (wM cI cZ mq ma mg mh mF mE) := hW
    replace w17 : (r1 = nI 1 ∧ (mayN ((mF 3)) ((mF 12)) ((mF 5)) i) ∨ r1 = nI 0 ∧ ¬ (mayN ((mF 3)) ((mF 12)) ((mF 5)) i)) := w17
    rcases w17 with ⟨w17, h17⟩ | ⟨w17, h17⟩
    · subst w17
      refine n_if_eq X 29 dX6_gatesNow_20 (by decide) (by decide) (fun c20 => by exact absurd c20 (by decide)) (fun c20 => ?_)
      refine x_iconst (v := nI 1) X dX6_gatesNow_23 (by decide) ?_
      refine x_iload_n X dX6_gatesNow_24 rfl (lv_at hl 0 rfl) ?_
      refine x_ishl (v := (nI 1) <<< ((nI i) &&& 31)) X dX6_gatesNow_25 rfl ?_
      refine x_goto X 30 dX6_gatesNow_26 (by decide) ?_
      refine x_ior (v := (setI (mayN (mF 3) (mF 12) (mF 5)) i) ||| ((nI 1) <<< ((nI i) &&& 31))) X dX6_gatesNow_30 rfl ?_
      refine i_as0 (b := setI (mayN (mF 3) (mF 12) (mF 5)) (i + 1)) (by first | exact (setI_y h17).symm | (rw [or0]; exact (setI_n h17).symm)) ?_
      refine x_istore_n X [(1, .int (setI (mayN (mF 3) (mF 12) (mF 5)) (i + 1))), (2, .int (nI i)), (0, .ref mq)] dX6_gatesNow_31 rfl hl (by decide) rfl (fun ls hl => ?_)
      refine x_iinc X [(2, .int (nI (i + 1))), (1, .int (setI (mayN (mF 3) (mF 12) (mF 5)) (i + 1))), (0, .ref mq)] (k := 1) dX6_gatesNow_32 hl rfl (nI_inc1 i) (by decide) rfl (fun ls hl => ?_)
      refine x_goto X 4 dX6_gatesNow_35 (by decide) ?_
      exact ih4 (i + 1) _ _ _ ⟨(show (i + 1) ≤ mg 2 - 1 from (by omega)), hW, lv_sub hl [0, 1, 2] rfl⟩ (by omega)
    · subst w17
      refine n_if_eq X 29 dX6_gatesNow_20 (by decide) (by decide) (fun c20 => ?_) (fun c20 => by exact absurd c20 (by decide))
      refine x_iconst (v := nI 0) X dX6_gatesNow_29 (by decide) ?_
      refine x_ior (v := (setI (mayN (mF 3) (mF 12) (mF 5)) i) ||| (nI 0)) X dX6_gatesNow_30 rfl ?_
      refine i_as0 (b := setI (mayN (mF 3) (mF 12) (mF 5)) (i + 1)) (by first | exact (setI_y h17).symm | (rw [or0]; exact (setI_n h17).symm)) ?_
      refine x_istore_n X [(1, .int (setI (mayN (mF 3) (mF 12) (mF 5)) (i + 1))), (2, .int (nI i)), (0, .ref mq)] dX6_gatesNow_31 rfl hl (by decide) rfl (fun ls hl => ?_)
      refine x_iinc X [(2, .int (nI (i + 1))), (1, .int (setI (mayN (mF 3) (mF 12) (mF 5)) (i + 1))), (0, .ref mq)] (k := 1) dX6_gatesNow_32 hl rfl (nI_inc1 i) (by decide) rfl (fun ls hl => ?_)
      refine x_goto X 4 dX6_gatesNow_35 (by decide) ?_
      exact ih4 (i + 1) _ _ _ ⟨(show (i + 1) ≤ mg 2 - 1 from (by omega)), hW, lv_sub hl [0, 1, 2] rfl⟩ (by omega)
set_option maxHeartbeats 4000000 in
set_option maxRecDepth 100000 in
theorem c_X6_goNight (l : Launch) (D : va_G) (cI cZ cO : ClassId) (mq : Nat) (ma : Nat → Nat) (mg : Nat → Nat) (mh : Nat → Int32) (mF : Nat → Nat → Nat) (mE : Nat → Nat → Int32) (sz : Nat)   (h2 : 2 ≤ mg 2) (hn : mg 2 ≤ 4) (hw : ∀ z0, mF 12 z0 ≤ 9) (hrn : mg 1 ≤ 3) : Met l yX6_goNight wsX6_goNight ({ frames := 0, cells := 0, slots := 0, locals := 0 }) (va_Pc [.ref mq] (st_W D (ty3 cI cZ cO) (wM cI cZ mq ma mg mh mF mE) sz)) (va_Qv (fun (u : Unit) => True) (fun u t => at_W D (ty3 cI cZ cO) (va_A (wM cI cZ mq ma mg mh mF mE) sz) (wM cI cZ mq ma mg mh (sF mF 12 (night (mg 2) (mg 1) (mF 12))) mE) t) (va_A (wM cI cZ mq ma mg mh mF mE) sz)) 0 0 (va_A (wM cI cZ mq ma mg mh mF mE) sz) := by
  refine Met.gov (cc := cX6_goNight) (maxL := 2) (ret := none) (by decide) rfl (Nat.le_of_ble_eq_true rfl) (fun p e s m below meth c A ls X hW hl => ?_)
  have hi6 : ∀ w ∈ wsX60, w ∈ wsX6_goNight := fun w h => List.mem_cons_of_mem _ (List.mem_append_right _ h)
  have hl : lv_has ls 2 [(0, .ref mq)] := hl
  have b1 := hw 0
  have b2 := hw (mg 2 - 1)
  refine x_aload_n X dX6_goNight_0 rfl (lv_at hl 0 rfl) ?_
  refine x_get X hW (v := .ref (ma 12)) hi6 0 rfl rfl 12 (by decide) (List.mem_of_getElem? (i := 1) rfl) rfl rfl dX6_goNight_1 ?_
  refine x_iconst (v := nI 0) X dX6_goNight_4 (by decide) ?_
  refine n_iald X hW (f := mF 12) 7 0 rfl rfl (by decide) (by decide) dX6_goNight_5 ?_
  refine x_aload_n X dX6_goNight_6 rfl (lv_at hl 0 rfl) ?_
  refine x_get X hW (v := .int (nI (mg 1))) hi6 0 rfl rfl 1 (by decide) (List.mem_of_getElem? (i := 2) rfl) rfl rfl dX6_goNight_7 ?_
  refine n_iadd X dX6_goNight_10 ?_
  refine x_istore_n X [(1, .int (nI (mF 12 0 + mg 1))), (0, .ref mq)] dX6_goNight_11 rfl hl (by decide) rfl (fun ls hl => ?_)
  refine x_aload_n X dX6_goNight_12 rfl (lv_at hl 1 rfl) ?_
  refine x_get X hW (v := .ref (ma 12)) hi6 0 rfl rfl 12 (by decide) (List.mem_of_getElem? (i := 1) rfl) rfl rfl dX6_goNight_13 ?_
  refine x_iconst (v := nI 0) X dX6_goNight_16 (by decide) ?_
  refine x_iload_n X dX6_goNight_17 rfl (lv_at hl 0 rfl) ?_
  refine x_bipush (v := nI 9) X dX6_goNight_18 (by decide) ?_
  refine n_icmp_le X 28 dX6_goNight_20 (by decide) (by omega) (by decide) (fun c20 => ?_) (fun c20 => ?_)
  · refine x_iload_n X dX6_goNight_28 rfl (lv_at hl 0 rfl) ?_
    refine n_iast X hW (f := mF 12) 7 0 rfl rfl (by decide) (by decide) dX6_goNight_29 (wM cI cZ mq ma mg mh (sF mF 12 (sF (mF 12) 0 (mF 12 0 + mg 1))) mE) rfl (fun H locs hW => ?_)
    refine x_aload_n X dX6_goNight_30 rfl (lv_at hl 1 rfl) ?_
    refine x_get X hW (v := .ref (ma 12)) hi6 0 rfl rfl 12 (by decide) (List.mem_of_getElem? (i := 1) rfl) rfl rfl dX6_goNight_31 ?_
    refine x_aload_n X dX6_goNight_34 rfl (lv_at hl 1 rfl) ?_
    refine x_get X hW (v := .int (nI (mg 2))) hi6 0 rfl rfl 2 (by decide) (List.mem_of_getElem? (i := 3) rfl) rfl rfl dX6_goNight_35 ?_
    refine x_iconst (v := nI 1) X dX6_goNight_38 (by decide) ?_
    refine n_isub X dX6_goNight_39 (by omega) ?_
    refine x_dup2 X dX6_goNight_40 rfl rfl ?_
    refine n_iald X hW (f := sF (mF 12) 0 (mF 12 0 + mg 1)) 7 0 rfl rfl (by omega) (by decide) dX6_goNight_41 ?_
    refine n_as0 (b := mF 12 (mg 2 - 1)) (sF_n _ _ (by omega)) ?_
    refine x_aload_n X dX6_goNight_42 rfl (lv_at hl 1 rfl) ?_
    refine x_get X hW (v := .ref (ma 12)) hi6 0 rfl rfl 12 (by decide) (List.mem_of_getElem? (i := 1) rfl) rfl rfl dX6_goNight_43 ?_
    refine x_aload_n X dX6_goNight_46 rfl (lv_at hl 1 rfl) ?_
    refine x_get X hW (v := .int (nI (mg 2))) hi6 0 rfl rfl 2 (by decide) (List.mem_of_getElem? (i := 3) rfl) rfl rfl dX6_goNight_47 ?_
    refine x_iconst (v := nI 1) X dX6_goNight_50 (by decide) ?_
    refine n_isub X dX6_goNight_51 (by omega) ?_
    refine n_iald X hW (f := sF (mF 12) 0 (mF 12 0 + mg 1)) 7 0 rfl rfl (by omega) (by decide) dX6_goNight_52 ?_
    refine n_as0 (b := mF 12 (mg 2 - 1)) (sF_n _ _ (by omega)) ?_
    refine n_if_le X 60 dX6_goNight_53 (by decide) (by omega) (fun c53 => ?_) (fun c53 => ?_)
    · refine x_iconst (v := nI 0) X dX6_goNight_60 (by decide) ?_
      refine n_isub X dX6_goNight_61 (by omega) ?_
      refine n_iast X hW (f := sF (mF 12) 0 (mF 12 0 + mg 1)) 7 0 rfl rfl (by omega) (by decide) dX6_goNight_62 (wM cI cZ mq ma mg mh (sF mF 12 (sF (sF (mF 12) 0 (mF 12 0 + mg 1)) (mg 2 - 1) ((mF 12 (mg 2 - 1)) - 0))) mE) rfl (fun H locs hW => ?_)
      exact x_vret X hW rfl () (trivial) (congrArg (fun z => (wM cI cZ mq ma mg mh (sF mF 12 z) mE)) (show (sF (sF (mF 12) 0 (mF 12 0 + mg 1)) (mg 2 - 1) ((mF 12 (mg 2 - 1)) - 0)) = (night (mg 2) (mg 1) (mF 12)) from by exact night_eq (by omega) (by omega))) dX6_goNight_63
    · refine x_iconst (v := nI 1) X dX6_goNight_56 (by decide) ?_
      refine x_goto X 61 dX6_goNight_57 (by decide) ?_
      refine n_isub X dX6_goNight_61 (by omega) ?_
      refine n_iast X hW (f := sF (mF 12) 0 (mF 12 0 + mg 1)) 7 0 rfl rfl (by omega) (by decide) dX6_goNight_62 (wM cI cZ mq ma mg mh (sF mF 12 (sF (sF (mF 12) 0 (mF 12 0 + mg 1)) (mg 2 - 1) ((mF 12 (mg 2 - 1)) - 1))) mE) rfl (fun H locs hW => ?_)
      exact x_vret X hW rfl () (trivial) (congrArg (fun z => (wM cI cZ mq ma mg mh (sF mF 12 z) mE)) (show (sF (sF (mF 12) 0 (mF 12 0 + mg 1)) (mg 2 - 1) ((mF 12 (mg 2 - 1)) - 1)) = (night (mg 2) (mg 1) (mF 12)) from by exact night_eq (by omega) (by omega))) dX6_goNight_63
  · refine x_bipush (v := nI 9) X dX6_goNight_23 (by decide) ?_
    refine x_goto X 29 dX6_goNight_25 (by decide) ?_
    refine n_iast X hW (f := mF 12) 7 0 rfl rfl (by decide) (by decide) dX6_goNight_29 (wM cI cZ mq ma mg mh (sF mF 12 (sF (mF 12) 0 9)) mE) rfl (fun H locs hW => ?_)
    refine x_aload_n X dX6_goNight_30 rfl (lv_at hl 1 rfl) ?_
    refine x_get X hW (v := .ref (ma 12)) hi6 0 rfl rfl 12 (by decide) (List.mem_of_getElem? (i := 1) rfl) rfl rfl dX6_goNight_31 ?_
    refine x_aload_n X dX6_goNight_34 rfl (lv_at hl 1 rfl) ?_
    refine x_get X hW (v := .int (nI (mg 2))) hi6 0 rfl rfl 2 (by decide) (List.mem_of_getElem? (i := 3) rfl) rfl rfl dX6_goNight_35 ?_
    refine x_iconst (v := nI 1) X dX6_goNight_38 (by decide) ?_
    refine n_isub X dX6_goNight_39 (by omega) ?_
    refine x_dup2 X dX6_goNight_40 rfl rfl ?_
    refine n_iald X hW (f := sF (mF 12) 0 9) 7 0 rfl rfl (by omega) (by decide) dX6_goNight_41 ?_
    refine n_as0 (b := mF 12 (mg 2 - 1)) (sF_n _ _ (by omega)) ?_
    refine x_aload_n X dX6_goNight_42 rfl (lv_at hl 1 rfl) ?_
    refine x_get X hW (v := .ref (ma 12)) hi6 0 rfl rfl 12 (by decide) (List.mem_of_getElem? (i := 1) rfl) rfl rfl dX6_goNight_43 ?_
    refine x_aload_n X dX6_goNight_46 rfl (lv_at hl 1 rfl) ?_
    refine x_get X hW (v := .int (nI (mg 2))) hi6 0 rfl rfl 2 (by decide) (List.mem_of_getElem? (i := 3) rfl) rfl rfl dX6_goNight_47 ?_
    refine x_iconst (v := nI 1) X dX6_goNight_50 (by decide) ?_
    refine n_isub X dX6_goNight_51 (by omega) ?_
    refine n_iald X hW (f := sF (mF 12) 0 9) 7 0 rfl rfl (by omega) (by decide) dX6_goNight_52 ?_
    refine n_as0 (b := mF 12 (mg 2 - 1)) (sF_n _ _ (by omega)) ?_
    refine n_if_le X 60 dX6_goNight_53 (by decide) (by omega) (fun c53 => ?_) (fun c53 => ?_)
    · refine x_iconst (v := nI 0) X dX6_goNight_60 (by decide) ?_
      refine n_isub X dX6_goNight_61 (by omega) ?_
      refine n_iast X hW (f := sF (mF 12) 0 9) 7 0 rfl rfl (by omega) (by decide) dX6_goNight_62 (wM cI cZ mq ma mg mh (sF mF 12 (sF (sF (mF 12) 0 9) (mg 2 - 1) ((mF 12 (mg 2 - 1)) - 0))) mE) rfl (fun H locs hW => ?_)
      exact x_vret X hW rfl () (trivial) (congrArg (fun z => (wM cI cZ mq ma mg mh (sF mF 12 z) mE)) (show (sF (sF (mF 12) 0 9) (mg 2 - 1) ((mF 12 (mg 2 - 1)) - 0)) = (night (mg 2) (mg 1) (mF 12)) from by exact night_eq (by omega) (by omega))) dX6_goNight_63
    · refine x_iconst (v := nI 1) X dX6_goNight_56 (by decide) ?_
      refine x_goto X 61 dX6_goNight_57 (by decide) ?_
      refine n_isub X dX6_goNight_61 (by omega) ?_
      refine n_iast X hW (f := sF (mF 12) 0 9) 7 0 rfl rfl (by omega) (by decide) dX6_goNight_62 (wM cI cZ mq ma mg mh (sF mF 12 (sF (sF (mF 12) 0 9) (mg 2 - 1) ((mF 12 (mg 2 - 1)) - 1))) mE) rfl (fun H locs hW => ?_)
      exact x_vret X hW rfl () (trivial) (congrArg (fun z => (wM cI cZ mq ma mg mh (sF mF 12 z) mE)) (show (sF (sF (mF 12) 0 9) (mg 2 - 1) ((mF 12 (mg 2 - 1)) - 1)) = (night (mg 2) (mg 1) (mF 12)) from by exact night_eq (by omega) (by omega))) dX6_goNight_63
set_option maxHeartbeats 4000000 in
set_option maxRecDepth 100000 in
theorem c_X6_does (l : Launch) (D : va_G) (cI cZ cO : ClassId) (mq : Nat) (ma : Nat → Nat) (mg : Nat → Nat) (mh : Nat → Int32) (mF : Nat → Nat → Nat) (mE : Nat → Nat → Int32) (sz : Nat) (a : Nat)  (ha : a < mg 2) (h2 : 2 ≤ mg 2) (hn : mg 2 ≤ 4) (hk : ∀ z0, mF 3 z0 ≤ 2) (hm : ∀ z0, mF 5 z0 ≤ 9) (hw : ∀ z0, mF 12 z0 ≤ 9) (hrn : mg 1 ≤ 3) : Met l yX6_does wsX6_does ({ frames := 2, cells := 0, slots := 0, locals := 43 }) (va_Pc [.ref mq, .int (nI a)] (st_W D (ty3 cI cZ cO) (wM cI cZ mq ma mg mh mF mE) sz)) (va_Qi (fun (rr : Int32) (u : Unit) => (rr = nI 1 ∧ (canN (mg 2) (mF 3) (mF 5) (mF 12) a) ∨ rr = nI 0 ∧ ¬ (canN (mg 2) (mF 3) (mF 5) (mF 12) a))) (fun u t => at_W D (ty3 cI cZ cO) (va_A (wM cI cZ mq ma mg mh mF mE) sz) (wM cI cZ mq ma mg mh (sF mF 12 (actN (mg 2) (mg 1) (mF 3) (mF 5) (mF 12) a)) mE) t) (va_A (wM cI cZ mq ma mg mh mF mE) sz)) 0 0 (va_A (wM cI cZ mq ma mg mh mF mE) sz) := by
  refine Met.goi (cc := cX6_does) (maxL := 2) (ret := (some .boolean)) (by decide) rfl (Nat.le_of_ble_eq_true rfl) (fun p e s m below meth c A ls X hW hl => ?_)
  have hi6 : ∀ w ∈ wsX60, w ∈ wsX6_does := fun w h => List.mem_cons_of_mem _ (List.mem_append_right _ h)
  have hl : lv_has ls 2 [(0, .ref mq), (1, .int (nI a))] := hl
  have b1 := hw a
  have b2 := hw (a + 1)
  refine x_iload_n X dX6_does_0 rfl (lv_at hl 1 rfl) ?_
  refine x_aload_n X dX6_does_1 rfl (lv_at hl 0 rfl) ?_
  refine x_get X hW (v := .int (nI (mg 2))) hi6 0 rfl rfl 2 (by decide) (List.mem_of_getElem? (i := 1) rfl) rfl rfl dX6_does_2 ?_
  refine x_iconst (v := nI 1) X dX6_does_5 (by decide) ?_
  refine n_isub X dX6_does_6 (by omega) ?_
  refine n_icmp_ne X 16 dX6_does_7 (by decide) (by omega) (by omega) (fun c7 => ?_) (fun c7 => ?_)
  · refine x_aload_n X dX6_does_16 rfl (lv_at hl 0 rfl) ?_
    refine x_iload_n X dX6_does_17 rfl (lv_at hl 1 rfl) ?_
    refine x_callVi0 X hW (As := [.int (nI a)]) (rest := []) (c_X6_mayOpen l D cI cZ cO mq ma mg mh mF mE _ a (show a + 1 < 4 from (by first | assumption | omega)) (show ∀ z0, (mF 3) z0 ≤ 2 from (by first | assumption | omega)) (show ∀ z0, (mF 5) z0 ≤ 9 from (by first | assumption | omega)) (show ∀ z0, (mF 12) z0 ≤ 9 from (by first | assumption | omega))) (cwV 1 X.2.2.2.2.2.1 gX6_does_X6_mayOpen rfl rfl rfl (by decide +kernel) ⟨Nat.le_of_ble_eq_true rfl, Nat.le_of_ble_eq_true rfl⟩) 0 5 rfl rfl rfl rfl hl.1 rfl (Nat.le_of_ble_eq_true rfl) ⟨Nat.le_of_ble_eq_true rfl, Nat.le_of_ble_eq_true rfl⟩ dX6_does_18 (fun r1 u2 H locs w18 hW => ?_)
    have hW : Wd D A s.heap H locs (wM cI cZ mq ma mg mh mF mE) := hW
    replace w18 : (r1 = nI 1 ∧ (mayN ((mF 3)) ((mF 12)) ((mF 5)) a) ∨ r1 = nI 0 ∧ ¬ (mayN ((mF 3)) ((mF 12)) ((mF 5)) a)) := w18
    rcases w18 with ⟨w18, h18⟩ | ⟨w18, h18⟩
    · subst w18
      refine n_if_ne X 26 dX6_does_21 (by decide) (by decide) (fun c21 => ?_) (fun c21 => by exact absurd c21 (by decide))
      refine x_aload_n X dX6_does_26 rfl (lv_at hl 0 rfl) ?_
      refine x_get X hW (v := .ref (ma 12)) hi6 0 rfl rfl 12 (by decide) (List.mem_of_getElem? (i := 2) rfl) rfl rfl dX6_does_27 ?_
      refine x_iload_n X dX6_does_30 rfl (lv_at hl 1 rfl) ?_
      refine x_dup2 X dX6_does_31 rfl rfl ?_
      refine n_iald X hW (f := mF 12) 7 0 rfl rfl (by omega) (by decide) dX6_does_32 ?_
      refine x_iconst (v := nI 1) X dX6_does_33 (by decide) ?_
      refine n_isub X dX6_does_34 (by omega) ?_
      refine n_iast X hW (f := mF 12) 7 0 rfl rfl (by omega) (by decide) dX6_does_35 (wM cI cZ mq ma mg mh (sF mF 12 (sF (mF 12) a (mF 12 a - 1))) mE) rfl (fun H locs hW => ?_)
      refine x_aload_n X dX6_does_36 rfl (lv_at hl 0 rfl) ?_
      refine x_get X hW (v := .ref (ma 12)) hi6 0 rfl rfl 12 (by decide) (List.mem_of_getElem? (i := 2) rfl) rfl rfl dX6_does_37 ?_
      refine x_iload_n X dX6_does_40 rfl (lv_at hl 1 rfl) ?_
      refine x_iconst (v := nI 1) X dX6_does_41 (by decide) ?_
      refine n_iadd X dX6_does_42 ?_
      refine x_dup2 X dX6_does_43 rfl rfl ?_
      refine n_iald X hW (f := sF (mF 12) a (mF 12 a - 1)) 7 0 rfl rfl (by omega) (by decide) dX6_does_44 ?_
      refine n_as0 (b := mF 12 (a + 1)) (sF_n _ _ (by omega)) ?_
      refine x_iconst (v := nI 1) X dX6_does_45 (by decide) ?_
      refine n_iadd X dX6_does_46 ?_
      refine n_iast X hW (f := sF (mF 12) a (mF 12 a - 1)) 7 0 rfl rfl (by omega) (by decide) dX6_does_47 (wM cI cZ mq ma mg mh (sF mF 12 (sF (sF (mF 12) a (mF 12 a - 1)) (a + 1) ((mF 12 (a + 1)) + 1))) mE) rfl (fun H locs hW => ?_)
      refine x_iconst (v := nI 1) X dX6_does_48 (by decide) ?_
      exact x_zret X hW rfl (Or.inr (by decide)) () (Or.inl ⟨rfl, by first | exact Or.inl (by omega) | exact Or.inr h18 | exact fun q => q.elim (fun q => by omega) h18⟩) (congrArg (fun z => (wM cI cZ mq ma mg mh (sF mF 12 z) mE)) (show (sF (sF (mF 12) a (mF 12 a - 1)) (a + 1) ((mF 12 (a + 1)) + 1)) = (actN (mg 2) (mg 1) (mF 3) (mF 5) (mF 12) a) from by unfold actN; first | rw [if_pos (show a = mg 2 - 1 by omega)] | (rw [if_neg (show ¬ a = mg 2 - 1 by omega), if_pos h18]; unfold thru; rfl) | rw [if_neg (show ¬ a = mg 2 - 1 by omega), if_neg h18])) dX6_does_49
    · subst w18
      refine n_if_ne X 26 dX6_does_21 (by decide) (by decide) (fun c21 => by exact absurd c21 (by decide)) (fun c21 => ?_)
      refine x_iconst (v := nI 0) X dX6_does_24 (by decide) ?_
      exact x_zret X hW rfl (Or.inl (by decide)) () (Or.inr ⟨rfl, by first | exact Or.inl (by omega) | exact Or.inr h18 | exact fun q => q.elim (fun q => by omega) h18⟩) (congrArg (fun z => (wM cI cZ mq ma mg mh (sF mF 12 z) mE)) (show (mF 12) = (actN (mg 2) (mg 1) (mF 3) (mF 5) (mF 12) a) from by unfold actN; first | rw [if_pos (show a = mg 2 - 1 by omega)] | (rw [if_neg (show ¬ a = mg 2 - 1 by omega), if_pos h18]; unfold thru; rfl) | rw [if_neg (show ¬ a = mg 2 - 1 by omega), if_neg h18])) dX6_does_25
  · refine x_aload_n X dX6_does_10 rfl (lv_at hl 0 rfl) ?_
    refine x_callVv0 X hW (As := []) (rest := []) (c_X6_goNight l D cI cZ cO mq ma mg mh mF mE _ (show 2 ≤ (mg 2) from (by first | assumption | omega)) (show (mg 2) ≤ 4 from (by first | assumption | omega)) (show ∀ z0, (mF 12) z0 ≤ 9 from (by first | assumption | omega)) (show (mg 1) ≤ 3 from (by first | assumption | omega))) (cwV 0 X.2.2.2.2.2.1 gX6_does_X6_goNight rfl rfl rfl (by decide +kernel) ⟨Nat.le_of_ble_eq_true rfl, Nat.le_of_ble_eq_true rfl⟩) 0 5 rfl rfl rfl rfl hl.1 rfl (Nat.le_of_ble_eq_true rfl) ⟨Nat.le_of_ble_eq_true rfl, Nat.le_of_ble_eq_true rfl⟩ dX6_does_11 (fun u4 H locs w11 hW => ?_)
    have hW : Wd D A s.heap H locs (wM cI cZ mq ma mg mh (sF mF 12 (night ((mg 2)) ((mg 1)) ((mF 12)))) mE) := hW
    replace w11 : True := w11
    refine x_iconst (v := nI 1) X dX6_does_14 (by decide) ?_
    exact x_zret X hW rfl (Or.inr (by decide)) () (Or.inl ⟨rfl, by first | exact Or.inl (by omega) | exact Or.inr h18 | exact fun q => q.elim (fun q => by omega) h18⟩) (congrArg (fun z => (wM cI cZ mq ma mg mh (sF mF 12 z) mE)) (show (night ((mg 2)) ((mg 1)) ((mF 12))) = (actN (mg 2) (mg 1) (mF 3) (mF 5) (mF 12) a) from by unfold actN; first | rw [if_pos (show a = mg 2 - 1 by omega)] | (rw [if_neg (show ¬ a = mg 2 - 1 by omega), if_pos h18]; unfold thru; rfl) | rw [if_neg (show ¬ a = mg 2 - 1 by omega), if_neg h18])) dX6_does_15
