/-! what the calls answer, and what is behind them, in numbers -/
def onR {α : Type} (x : Int32) (n : Nat) (bad : α) (f : Nat → α) : α := if inR x n then f x.toNatClampNeg else bad
theorem onR_in {α : Type} {j n : Nat} {bad : α} {f : Nat → α} (hj : j < n) (hn : n ≤ 2 ^ 31) : onR (nI j) n bad f = f j := by
  unfold onR
  rw [if_pos ((inR_nI (by omega)).mpr hj), nI_clamp (by omega)]
theorem onR_out {α : Type} {x : Int32} {n : Nat} {bad : α} {f : Nat → α} (h : ¬ inR x n) : onR x n bad f = bad := if_neg h
theorem in_iff2 {r : Int32} {lo hi : Int64} {n : Nat} (h0 : lo.toInt = 0) (h : hi.toInt = (n : Int) - 2) : (lo.toInt ≤ r.toInt64.toInt ∧ r.toInt64.toInt ≤ hi.toInt) ↔ inR r (n - 1) := by
  rw [h0, h, wide]; constructor <;> (intro q; constructor <;> omega)
def aFill (n : Nat) (lv : Nat → Nat) (r v : Int32) : Int32 := onR r n (-1) (fun j => onR v 10 (-2) (fun _ => nI (lv j)))
def sFill (n : Nat) (lv : Nat → Nat) (r v : Int32) : Nat → Nat := onR r n lv (fun j => onR v 10 lv (fun k => sF lv j k))
def aRain (n rn : Nat) (v : Int32) : Int32 := onR v 4 (-2) (fun _ => if n = 0 then -3 else nI rn)
def sRain (n rn : Nat) (v : Int32) : Nat := onR v 4 rn (fun k => if n = 0 then rn else k)
def aOfJ (kd lv lm : Nat → Nat) (j k : Nat) : Int32 := if k = 0 then nI (kd j) else if k = 1 then nI (lv j) else if k = 2 then nI (lm j) else nI (want (kd j) (lm j))
def aOf (n : Nat) (kd lv lm : Nat → Nat) (r w : Int32) : Int32 := onR r n (-1) (fun j => onR w 4 (-2) (fun k => aOfJ kd lv lm j k))
noncomputable def aGates (n : Nat) (kd lv lm : Nat → Nat) : Int32 := if n = 0 then -3 else setI (mayN kd lv lm) (n - 1)
def aOpen (n : Nat) (kd lv lm : Nat → Nat) (g : Int32) : Int32 := onR g (n - 1) (-1) (fun j => if mayN kd lv lm j then nI (lv (j + 1) + 1) else -3)
def sOpen (n : Nat) (kd lv lm : Nat → Nat) (g : Int32) : Nat → Nat := onR g (n - 1) lv (fun j => if mayN kd lv lm j then thru lv j else lv)
def nts (n rn : Nat) : Nat → (Nat → Nat) → Nat → Nat
  | 0, lv => lv
  | k + 1, lv => night n rn (nts n rn k lv)
def aNights (n rn : Nat) (lv : Nat → Nat) (v : Int32) : Int32 := onR v 41 (-2) (fun k => if n = 0 then -3 else nI (nts n rn k lv 0))
def sNights (n rn : Nat) (lv : Nat → Nat) (v : Int32) : Nat → Nat := onR v 41 lv (fun k => if n = 0 then lv else nts n rn k lv)
theorem aOf0 {kd lv lm : Nat → Nat} {j : Nat} : aOfJ kd lv lm j 0 = nI (kd j) := rfl
theorem aOf1 {kd lv lm : Nat → Nat} {j : Nat} : aOfJ kd lv lm j 1 = nI (lv j) := rfl
theorem aOf2 {kd lv lm : Nat → Nat} {j : Nat} : aOfJ kd lv lm j 2 = nI (lm j) := rfl
theorem aOf3 {kd lv lm : Nat → Nat} {j : Nat} : aOfJ kd lv lm j 3 = nI (want (kd j) (lm j)) := rfl
/-! what holds of the reaches alone -/
theorem cpN_in {n i : Nat} {f g : Nat → Nat} (h : i < n) : cpN n f g i = f i := by unfold cpN; rw [if_pos h]
theorem cpN_out {n i : Nat} {f g : Nat → Nat} (h : n ≤ i) : cpN n f g i = g i := by unfold cpN; rw [if_neg (by omega)]
theorem cpN_of {n : Nat} {f g h : Nat → Nat} (h1 : ∀ i, i < n → f i = h i) (h2 : ∀ i, n ≤ i → g i = h i) : cpN n f g = h := by
  funext i
  by_cases q : i < n
  · rw [cpN_in q, h1 i q]
  · rw [cpN_out (by omega), h2 i (by omega)]
theorem mayN_cong {kd lm f g : Nat → Nat} {n j : Nat} (h : ∀ i, i < n → f i = g i) (hj : j + 1 < n) : mayN kd f lm j ↔ mayN kd g lm j := by
  unfold mayN; rw [h j (by omega), h (j + 1) hj]
theorem sF_cong {f g : Nat → Nat} {n k x y : Nat} (h : ∀ i, i < n → f i = g i) (hx : x = y) : ∀ i, i < n → sF f k x i = sF g k y i := by
  intro i hi; rw [sF_ap, sF_ap, hx]; split
  · rfl
  · exact h i hi
theorem night_cong {f g : Nat → Nat} {n rn : Nat} (hn : 1 ≤ n) (h : ∀ i, i < n → f i = g i) : ∀ i, i < n → night n rn f i = night n rn g i := by
  unfold night
  exact sF_cong (sF_cong h (by rw [h 0 (by omega)])) (by rw [h (n - 1) (by omega)])
theorem thru_cong {f g : Nat → Nat} {n j : Nat} (hj : j + 1 < n) (h : ∀ i, i < n → f i = g i) : ∀ i, i < n → thru f j i = thru g j i := by
  unfold thru
  exact sF_cong (sF_cong h (by rw [h j (by omega)])) (by rw [h (j + 1) hj])
theorem actN_cong {kd lm f g : Nat → Nat} {n rn j : Nat} (hn : 1 ≤ n) (hj : j < n) (h : ∀ i, i < n → f i = g i) : ∀ i, i < n → actN n rn kd lm f j i = actN n rn kd lm g j i := by
  unfold actN
  by_cases h1 : j = n - 1
  · rw [if_pos h1, if_pos h1]; exact night_cong hn h
  · rw [if_neg h1, if_neg h1]
    by_cases h2 : mayN kd f lm j
    · rw [if_pos h2, if_pos ((mayN_cong h (by omega)).mp h2)]; exact thru_cong (by omega) h
    · rw [if_neg h2, if_neg (fun q => h2 ((mayN_cong h (by omega)).mpr q))]; exact h
theorem night_out {f : Nat → Nat} {n rn i : Nat} (hn : 1 ≤ n) (h : n ≤ i) : night n rn f i = f i := by
  unfold night; rw [sF_n _ _ (by omega), sF_n _ _ (by omega)]
theorem thru_out {f : Nat → Nat} {n j i : Nat} (hj : j + 1 < n) (h : n ≤ i) : thru f j i = f i := by
  unfold thru; rw [sF_n _ _ (by omega), sF_n _ _ (by omega)]
theorem nts_cong {f g : Nat → Nat} {n rn : Nat} (hn : 1 ≤ n) (h : ∀ i, i < n → f i = g i) : ∀ k i, i < n → nts n rn k f i = nts n rn k g i
  | 0 => h
  | k + 1 => night_cong hn (nts_cong hn h k)
theorem nts_out {f : Nat → Nat} {n rn : Nat} (hn : 1 ≤ n) : ∀ k i, n ≤ i → nts n rn k f i = f i
  | 0, _, _ => rfl
  | k + 1, i, h => by
    show night n rn (nts n rn k f) i = f i
    rw [night_out hn h, nts_out hn k i h]
theorem nts_le {n rn : Nat} {lv : Nat → Nat} (h : ∀ i, lv i ≤ 9) : ∀ k i, nts n rn k lv i ≤ 9
  | 0 => h
  | k + 1 => night_le (nts_le h k)
theorem cp_nts {f o : Nat → Nat} {n rn : Nat} (hn : 1 ≤ n) (k : Nat) : cpN n (nts n rn k (cpN n f o)) f = nts n rn k f :=
  cpN_of (fun i hi => nts_cong hn (fun _ q => cpN_in q) k i hi) (fun i hi => (nts_out hn k i hi).symm)
theorem cp_thru {kd lm f o : Nat → Nat} {n rn j : Nat} (hj : j + 1 < n) (hm : mayN kd f lm j) : cpN n (actN n rn kd lm (cpN n f o) j) f = thru f j := by
  refine cpN_of (fun i hi => ?_) (fun i hi => (thru_out hj hi).symm)
  have e : actN n rn kd lm f j i = thru f j i := by unfold actN; rw [if_neg (by omega), if_pos hm]
  rw [actN_cong (by omega) (by omega) (fun _ q => cpN_in q) i hi, e]
theorem canN_may {kd lm f o : Nat → Nat} {n j : Nat} (hj : j + 1 < n) : canN n kd lm (cpN n f o) j ↔ mayN kd f lm j :=
  ⟨fun q => q.elim (fun z => absurd z (by omega)) (mayN_cong (fun _ q => cpN_in q) hj).mp, fun q => Or.inr ((mayN_cong (fun _ q => cpN_in q) hj).mpr q)⟩
theorem aGates_eq {kd lm f o : Nat → Nat} {n : Nat} (h : n ≠ 0) : setI (mayN kd (cpN n f o) lm) (n - 1) = aGates n kd f lm := by
  unfold aGates; rw [if_neg h]; exact setI_cong (fun j hj => mayN_cong (fun _ q => cpN_in q) (by omega))

theorem sw4 (x : Int32) : ¬ inR x 4 ∨ x = nI 0 ∨ x = nI 1 ∨ x = nI 2 ∨ x = nI 3 := by
  by_cases h : inR x 4
  · obtain ⟨j, hj, rfl⟩ := inR_ex h (by decide)
    rcases (show j = 0 ∨ j = 1 ∨ j = 2 ∨ j = 3 by omega) with rfl | rfl | rfl | rfl <;> simp
  · exact Or.inl h
theorem cp_thru_eq {kd lm f o : Nat → Nat} {n rn j : Nat} (hn : n - 1 ≤ 2 ^ 31) (hj : j + 1 < n) (hm : mayN kd f lm j) : cpN n (actN n rn kd lm (cpN n f o) j) f = sOpen n kd f lm (nI j) := by
  rw [cp_thru hj hm]; unfold sOpen; rw [onR_in (by omega) hn, if_pos hm]

set_option maxHeartbeats 4000000 in
set_option maxRecDepth 100000 in
theorem c_X6_ofReach (l : Launch) (D : va_G) (cI cZ cO : ClassId) (mq : Nat) (ma : Nat → Nat) (mg : Nat → Nat) (mh : Nat → Int32) (mF : Nat → Nat → Nat) (mE : Nat → Nat → Int32) (sz : Nat) (r : Int32) (w : Int32)  (hn : mg 2 ≤ 4) (hk : ∀ z0, mF 3 z0 ≤ 2) (hm : ∀ z0, mF 5 z0 ≤ 9) : Met l yX6_ofReach wsX6_ofReach ({ frames := 2, cells := 0, slots := 0, locals := 46 }) (va_Pc [.ref mq, .int r, .int w] (st_W D (ty3 cI cZ cO) (wM cI cZ mq ma mg mh mF mE) sz)) (va_Qi (fun (rr : Int32) (u : Unit) => rr = aOf (mg 2) (mF 3) (mF 4) (mF 5) r w) (fun u t => at_W D (ty3 cI cZ cO) (va_A (wM cI cZ mq ma mg mh mF mE) sz) (wM cI cZ mq ma mg mh mF mE) t) (va_A (wM cI cZ mq ma mg mh mF mE) sz)) 0 0 (va_A (wM cI cZ mq ma mg mh mF mE) sz) := by
  refine Met.goi (cc := cX6_ofReach) (maxL := 3) (ret := (some .int)) (by decide) rfl (Nat.le_of_ble_eq_true rfl) (fun p e s m below meth c A ls X hW hl => ?_)
  have hi6 : ∀ w ∈ wsX60, w ∈ wsX6_ofReach := fun w h => List.mem_cons_of_mem _ (List.mem_append_right _ h)
  have hl : lv_has ls 3 [(0, .ref mq), (1, .int r), (2, .int w)] := hl
  refine x_aload_n X dX6_ofReach_0 rfl (lv_at hl 0 rfl) ?_
  refine x_iload_n X dX6_ofReach_1 rfl (lv_at hl 1 rfl) ?_
  refine x_callVi0 X hW (As := [.int r]) (rest := []) (c_X6_noReach l D cI cZ cO mq ma mg mh mF mE _ r (show (mg 2) ≤ 4 from (by first | assumption | omega))) (cwV 1 X.2.2.2.2.2.1 gX6_ofReach_X6_noReach rfl rfl rfl (by decide +kernel) ⟨Nat.le_of_ble_eq_true rfl, Nat.le_of_ble_eq_true rfl⟩) 0 5 rfl rfl rfl rfl hl.1 rfl (Nat.le_of_ble_eq_true rfl) ⟨Nat.le_of_ble_eq_true rfl, Nat.le_of_ble_eq_true rfl⟩ dX6_ofReach_2 (fun r1 u2 H locs w2 hW => ?_)
  have hW : Wd D A s.heap H locs (wM cI cZ mq ma mg mh mF mE) := hW
  replace w2 : (r1 = nI 1 ∧ (¬ inR r ((mg 2))) ∨ r1 = nI 0 ∧ ¬ (¬ inR r ((mg 2)))) := w2
  rcases w2 with ⟨w2, h2⟩ | ⟨w2, h2⟩
  · subst w2
    have gr := h2
    refine n_if_eq X 10 dX6_ofReach_5 (by decide) (by decide) (fun c5 => by exact absurd c5 (by decide)) (fun c5 => ?_)
    refine x_iconst (v := (-1 : Int32)) X dX6_ofReach_8 (by decide) ?_
    exact x_iret X hW rfl () ((by unfold aOf; (try rw [onR_out gr]); (try rfl))) rfl dX6_ofReach_9
  · subst w2
    obtain ⟨j, hj, rfl⟩ := inR_ex (Classical.not_not.mp h2) (by omega)
    refine n_if_eq X 10 dX6_ofReach_5 (by decide) (by decide) (fun c5 => ?_) (fun c5 => by exact absurd c5 (by decide))
    refine x_iload_n X dX6_ofReach_10 rfl (lv_at hl 2 rfl) ?_
    rcases (show ¬ inR w 4 ∨ w = nI 0 ∨ w = nI 1 ∨ w = nI 2 ∨ w = nI 3 from sw4 w) with hq | rfl | rfl | rfl | rfl
    · have gw := hq
      refine lv_tableOut (tgt := 67) X.1 X.2.1 dX6_ofReach_11 (by have z1 := gw; omega) (by decide) ?_
      refine x_bipush (v := (-2 : Int32)) X dX6_ofReach_67 (by decide) ?_
      exact x_iret X hW rfl () ((by unfold aOf; (try rw [onR_in hj (by omega)]); (try rw [onR_out gw]); (try rfl))) rfl dX6_ofReach_69
    · refine lv_tableIn (off := 29) (tgt := 40) X.1 X.2.1 dX6_ofReach_11 (by decide) (by decide) (by decide) (by decide) ?_
      refine x_aload_n X dX6_ofReach_40 rfl (lv_at hl 0 rfl) ?_
      refine x_get X hW (v := .ref (ma 3)) hi6 0 rfl rfl 3 (by decide) (List.mem_of_getElem? (i := 1) rfl) rfl rfl dX6_ofReach_41 ?_
      refine x_iload_n X dX6_ofReach_44 rfl (lv_at hl 1 rfl) ?_
      refine n_iald X hW (f := mF 3) 1 0 rfl rfl (by omega) (by decide) dX6_ofReach_45 ?_
      exact x_iret X hW rfl () ((by unfold aOf; (try rw [onR_in hj (by omega)]); (try rw [onR_in (by decide) (by decide)]); (try rw [aOf0]); (try rfl))) rfl dX6_ofReach_46
    · refine lv_tableIn (off := 36) (tgt := 47) X.1 X.2.1 dX6_ofReach_11 (by decide) (by decide) (by decide) (by decide) ?_
      refine x_aload_n X dX6_ofReach_47 rfl (lv_at hl 0 rfl) ?_
      refine x_get X hW (v := .ref (ma 4)) hi6 0 rfl rfl 4 (by decide) (List.mem_of_getElem? (i := 2) rfl) rfl rfl dX6_ofReach_48 ?_
      refine x_iload_n X dX6_ofReach_51 rfl (lv_at hl 1 rfl) ?_
      refine n_iald X hW (f := mF 4) 2 0 rfl rfl (by omega) (by decide) dX6_ofReach_52 ?_
      exact x_iret X hW rfl () ((by unfold aOf; (try rw [onR_in hj (by omega)]); (try rw [onR_in (by decide) (by decide)]); (try rw [aOf1]); (try rfl))) rfl dX6_ofReach_53
    · refine lv_tableIn (off := 43) (tgt := 54) X.1 X.2.1 dX6_ofReach_11 (by decide) (by decide) (by decide) (by decide) ?_
      refine x_aload_n X dX6_ofReach_54 rfl (lv_at hl 0 rfl) ?_
      refine x_get X hW (v := .ref (ma 5)) hi6 0 rfl rfl 5 (by decide) (List.mem_of_getElem? (i := 3) rfl) rfl rfl dX6_ofReach_55 ?_
      refine x_iload_n X dX6_ofReach_58 rfl (lv_at hl 1 rfl) ?_
      refine n_iald X hW (f := mF 5) 3 0 rfl rfl (by omega) (by decide) dX6_ofReach_59 ?_
      exact x_iret X hW rfl () ((by unfold aOf; (try rw [onR_in hj (by omega)]); (try rw [onR_in (by decide) (by decide)]); (try rw [aOf2]); (try rfl))) rfl dX6_ofReach_60
    · refine lv_tableIn (off := 50) (tgt := 61) X.1 X.2.1 dX6_ofReach_11 (by decide) (by decide) (by decide) (by decide) ?_
      refine x_aload_n X dX6_ofReach_61 rfl (lv_at hl 0 rfl) ?_
      refine x_iload_n X dX6_ofReach_62 rfl (lv_at hl 1 rfl) ?_
      have b1 := hk j
      refine x_callVi0 X hW (As := [.int (nI j)]) (rest := []) (c_X6_wantOf l D cI cZ cO mq ma mg mh mF mE _ j (show j < 4 from (by first | assumption | omega)) (show ∀ z0, (mF 3) z0 ≤ 2 from (by first | assumption | omega)) (show ∀ z0, (mF 5) z0 ≤ 9 from (by first | assumption | omega))) (cwV 1 X.2.2.2.2.2.1 gX6_ofReach_X6_wantOf rfl rfl rfl (by decide +kernel) ⟨Nat.le_of_ble_eq_true rfl, Nat.le_of_ble_eq_true rfl⟩) 0 5 rfl rfl rfl rfl hl.1 rfl (Nat.le_of_ble_eq_true rfl) ⟨Nat.le_of_ble_eq_true rfl, Nat.le_of_ble_eq_true rfl⟩ dX6_ofReach_63 (fun r3 u4 H locs w63 hW => ?_)
      have hW : Wd D A s.heap H locs (wM cI cZ mq ma mg mh mF mE) := hW
      replace w63 : r3 = nI (want ((mF 3) j) ((mF 5) j)) := w63
      subst w63
      exact x_iret X hW rfl () ((by unfold aOf; (try rw [onR_in hj (by omega)]); (try rw [onR_in (by decide) (by decide)]); (try rw [aOf3]); (try rfl))) rfl dX6_ofReach_66
set_option maxHeartbeats 4000000 in
set_option maxRecDepth 100000 in
theorem c_X6_fill (l : Launch) (D : va_G) (cI cZ cO : ClassId) (mq : Nat) (ma : Nat → Nat) (mg : Nat → Nat) (mh : Nat → Int32) (mF : Nat → Nat → Nat) (mE : Nat → Nat → Int32) (sz : Nat) (r : Int32) (v : Int32)  (hn : mg 2 ≤ 4) : Met l yX6_fill wsX6_fill ({ frames := 2, cells := 0, slots := 0, locals := 46 }) (va_Pc [.ref mq, .int r, .int v] (st_W D (ty3 cI cZ cO) (wM cI cZ mq ma mg mh mF mE) sz)) (va_Qi (fun (rr : Int32) (u : Unit) => rr = aFill (mg 2) (mF 4) r v) (fun u t => at_W D (ty3 cI cZ cO) (va_A (wM cI cZ mq ma mg mh mF mE) sz) (wM cI cZ mq ma mg mh (sF mF 4 (sFill (mg 2) (mF 4) r v)) mE) t) (va_A (wM cI cZ mq ma mg mh mF mE) sz)) 0 0 (va_A (wM cI cZ mq ma mg mh mF mE) sz) := by
  refine Met.goi (cc := cX6_fill) (maxL := 4) (ret := (some .int)) (by decide) rfl (Nat.le_of_ble_eq_true rfl) (fun p e s m below meth c A ls X hW hl => ?_)
  have hi6 : ∀ w ∈ wsX60, w ∈ wsX6_fill := fun w h => List.mem_cons_of_mem _ (List.mem_append_right _ h)
  have hl : lv_has ls 4 [(0, .ref mq), (1, .int r), (2, .int v)] := hl
  refine x_aload_n X dX6_fill_0 rfl (lv_at hl 0 rfl) ?_
  refine x_iload_n X dX6_fill_1 rfl (lv_at hl 1 rfl) ?_
  refine x_callVi0 X hW (As := [.int r]) (rest := []) (c_X6_noReach l D cI cZ cO mq ma mg mh mF mE _ r (show (mg 2) ≤ 4 from (by first | assumption | omega))) (cwV 1 X.2.2.2.2.2.1 gX6_fill_X6_noReach rfl rfl rfl (by decide +kernel) ⟨Nat.le_of_ble_eq_true rfl, Nat.le_of_ble_eq_true rfl⟩) 0 5 rfl rfl rfl rfl hl.1 rfl (Nat.le_of_ble_eq_true rfl) ⟨Nat.le_of_ble_eq_true rfl, Nat.le_of_ble_eq_true rfl⟩ dX6_fill_2 (fun r1 u2 H locs w2 hW => ?_)
  have hW : Wd D A s.heap H locs (wM cI cZ mq ma mg mh mF mE) := hW
  replace w2 : (r1 = nI 1 ∧ (¬ inR r ((mg 2))) ∨ r1 = nI 0 ∧ ¬ (¬ inR r ((mg 2)))) := w2
  rcases w2 with ⟨w2, h2⟩ | ⟨w2, h2⟩
  · subst w2
    have gr := h2
    refine n_if_eq X 10 dX6_fill_5 (by decide) (by decide) (fun c5 => by exact absurd c5 (by decide)) (fun c5 => ?_)
    refine x_iconst (v := (-1 : Int32)) X dX6_fill_8 (by decide) ?_
    exact x_iret X hW rfl () ((by unfold aFill; (try rw [onR_out gr]); (try rfl))) (congrArg (fun z => (wM cI cZ mq ma mg mh (sF mF 4 z) mE)) (show (mF 4) = (sFill (mg 2) (mF 4) r v) from by unfold sFill; (try rw [onR_out gr]); (try rfl))) dX6_fill_9
  · subst w2
    obtain ⟨j, hj, rfl⟩ := inR_ex (Classical.not_not.mp h2) (by omega)
    refine n_if_eq X 10 dX6_fill_5 (by decide) (by decide) (fun c5 => ?_) (fun c5 => by exact absurd c5 (by decide))
    refine x_iload_n X dX6_fill_10 rfl (lv_at hl 2 rfl) ?_
    refine x_i2l (v := v.toInt64) X dX6_fill_11 rfl ?_
    refine x_lconst (v := 0) X dX6_fill_12 (by decide) ?_
    refine x_ldc2 (v := (9)) X (List.mem_of_getElem? (i := 1) rfl) dX6_fill_13 ?_
    refine x_callSie X hW (As := [.long v.toInt64, .long (0 : Int64), .long (9 : Int64)]) (rest := []) (c_X6_in l D cI cZ cO  _ v.toInt64 (0 : Int64) (9 : Int64)) (va_cwS 3 X.2.2.2.2.2.1 gX6_fill_X6_in rfl rfl rfl (by decide +kernel) ⟨Nat.le_of_ble_eq_true rfl, Nat.le_of_ble_eq_true rfl⟩) rfl hl.1 rfl (Nat.le_of_ble_eq_true rfl) ⟨Nat.le_of_ble_eq_true rfl, Nat.le_of_ble_eq_true rfl⟩ dX6_fill_16 (fun r3 u4 H locs w16 hW => ?_)
    have hW : Wd D A s.heap H locs (wM cI cZ mq ma mg mh mF mE) := hW
    replace w16 : (r3 = nI 1 ∧ ((0 : Int64).toInt ≤ v.toInt64.toInt ∧ v.toInt64.toInt ≤ (9 : Int64).toInt) ∨ r3 = nI 0 ∧ ¬ ((0 : Int64).toInt ≤ v.toInt64.toInt ∧ v.toInt64.toInt ≤ (9 : Int64).toInt)) := w16
    rcases w16 with ⟨w16, h16⟩ | ⟨w16, h16⟩
    · subst w16
      obtain ⟨k, hk, rfl⟩ := inR_ex ((in_iff (r := v) (n := 10) l_0 (by decide)).mp h16) (by omega)
      refine n_if_ne X 25 dX6_fill_19 (by decide) (by decide) (fun c19 => ?_) (fun c19 => by exact absurd c19 (by decide))
      refine x_aload_n X dX6_fill_25 rfl (lv_at hl 0 rfl) ?_
      refine x_get X hW (v := .ref (ma 4)) hi6 0 rfl rfl 4 (by decide) (List.mem_of_getElem? (i := 2) rfl) rfl rfl dX6_fill_26 ?_
      refine x_iload_n X dX6_fill_29 rfl (lv_at hl 1 rfl) ?_
      refine n_iald X hW (f := mF 4) 2 0 rfl rfl (by omega) (by decide) dX6_fill_30 ?_
      refine x_istore_n X [(3, .int (nI (mF 4 j))), (0, .ref mq), (1, .int (nI j)), (2, .int (nI k))] dX6_fill_31 rfl hl (by decide) rfl (fun ls hl => ?_)
      refine x_aload_n X dX6_fill_32 rfl (lv_at hl 1 rfl) ?_
      refine x_get X hW (v := .ref (ma 4)) hi6 0 rfl rfl 4 (by decide) (List.mem_of_getElem? (i := 2) rfl) rfl rfl dX6_fill_33 ?_
      refine x_iload_n X dX6_fill_36 rfl (lv_at hl 2 rfl) ?_
      refine x_iload_n X dX6_fill_37 rfl (lv_at hl 3 rfl) ?_
      refine n_iast X hW (f := mF 4) 2 0 rfl rfl (by omega) (by decide) dX6_fill_38 (wM cI cZ mq ma mg mh (sF mF 4 (sF (mF 4) j k)) mE) rfl (fun H locs hW => ?_)
      refine x_iload_n X dX6_fill_39 rfl (lv_at hl 0 rfl) ?_
      exact x_iret X hW rfl () ((by unfold aFill; (try rw [onR_in hj (by omega)]); (try rw [onR_in hk (by omega)]); (try rfl))) (congrArg (fun z => (wM cI cZ mq ma mg mh (sF mF 4 z) mE)) (show (sF (mF 4) j k) = (sFill (mg 2) (mF 4) (nI j) (nI k)) from by unfold sFill; (try rw [onR_in hj (by omega)]); (try rw [onR_in hk (by omega)]); (try rfl))) dX6_fill_40
    · subst w16
      have gv := fun q => h16 ((in_iff (r := v) (n := 10) l_0 (by decide)).mpr q)
      refine n_if_ne X 25 dX6_fill_19 (by decide) (by decide) (fun c19 => by exact absurd c19 (by decide)) (fun c19 => ?_)
      refine x_bipush (v := (-2 : Int32)) X dX6_fill_22 (by decide) ?_
      exact x_iret X hW rfl () ((by unfold aFill; (try rw [onR_in hj (by omega)]); (try rw [onR_out gv]); (try rfl))) (congrArg (fun z => (wM cI cZ mq ma mg mh (sF mF 4 z) mE)) (show (mF 4) = (sFill (mg 2) (mF 4) (nI j) v) from by unfold sFill; (try rw [onR_in hj (by omega)]); (try rw [onR_out gv]); (try rfl))) dX6_fill_24
set_option maxHeartbeats 4000000 in
set_option maxRecDepth 100000 in
theorem c_X6_rain (l : Launch) (D : va_G) (cI cZ cO : ClassId) (mq : Nat) (ma : Nat → Nat) (mg : Nat → Nat) (mh : Nat → Int32) (mF : Nat → Nat → Nat) (mE : Nat → Nat → Int32) (sz : Nat) (v : Int32)  (hn : mg 2 ≤ 4) : Met l yX6_rain wsX6_rain ({ frames := 1, cells := 0, slots := 0, locals := 25 }) (va_Pc [.ref mq, .int v] (st_W D (ty3 cI cZ cO) (wM cI cZ mq ma mg mh mF mE) sz)) (va_Qi (fun (rr : Int32) (u : Unit) => rr = aRain (mg 2) (mg 1) v) (fun u t => at_W D (ty3 cI cZ cO) (va_A (wM cI cZ mq ma mg mh mF mE) sz) (wM cI cZ mq ma (sF mg 1 (sRain (mg 2) (mg 1) v)) mh mF mE) t) (va_A (wM cI cZ mq ma mg mh mF mE) sz)) 0 0 (va_A (wM cI cZ mq ma mg mh mF mE) sz) := by
  refine Met.goi (cc := cX6_rain) (maxL := 3) (ret := (some .int)) (by decide) rfl (Nat.le_of_ble_eq_true rfl) (fun p e s m below meth c A ls X hW hl => ?_)
  have hi6 : ∀ w ∈ wsX60, w ∈ wsX6_rain := fun w h => List.mem_cons_of_mem _ (List.mem_append_right _ h)
  have hl : lv_has ls 3 [(0, .ref mq), (1, .int v)] := hl
  refine x_iload_n X dX6_rain_0 rfl (lv_at hl 1 rfl) ?_
  refine x_i2l (v := v.toInt64) X dX6_rain_1 rfl ?_
  refine x_lconst (v := 0) X dX6_rain_2 (by decide) ?_
  refine x_ldc2 (v := (3)) X (List.mem_of_getElem? (i := 1) rfl) dX6_rain_3 ?_
  refine x_callSie X hW (As := [.long v.toInt64, .long (0 : Int64), .long (3 : Int64)]) (rest := []) (c_X6_in l D cI cZ cO  _ v.toInt64 (0 : Int64) (3 : Int64)) (va_cwS 3 X.2.2.2.2.2.1 gX6_rain_X6_in rfl rfl rfl (by decide +kernel) ⟨Nat.le_of_ble_eq_true rfl, Nat.le_of_ble_eq_true rfl⟩) rfl hl.1 rfl (Nat.le_of_ble_eq_true rfl) ⟨Nat.le_of_ble_eq_true rfl, Nat.le_of_ble_eq_true rfl⟩ dX6_rain_6 (fun r1 u2 H locs w6 hW => ?_)
  have hW : Wd D A s.heap H locs (wM cI cZ mq ma mg mh mF mE) := hW
  replace w6 : (r1 = nI 1 ∧ ((0 : Int64).toInt ≤ v.toInt64.toInt ∧ v.toInt64.toInt ≤ (3 : Int64).toInt) ∨ r1 = nI 0 ∧ ¬ ((0 : Int64).toInt ≤ v.toInt64.toInt ∧ v.toInt64.toInt ≤ (3 : Int64).toInt)) := w6
  rcases w6 with ⟨w6, h6⟩ | ⟨w6, h6⟩
  · subst w6
    obtain ⟨k, hk, rfl⟩ := inR_ex ((in_iff (r := v) (n := 4) l_0 (by decide)).mp h6) (by omega)
    refine n_if_ne X 15 dX6_rain_9 (by decide) (by decide) (fun c9 => ?_) (fun c9 => by exact absurd c9 (by decide))
    refine x_aload_n X dX6_rain_15 rfl (lv_at hl 0 rfl) ?_
    refine x_get X hW (v := .int (nI (mg 2))) hi6 0 rfl rfl 2 (by decide) (List.mem_of_getElem? (i := 2) rfl) rfl rfl dX6_rain_16 ?_
    refine n_if_ne X 25 dX6_rain_19 (by decide) (by omega) (fun c19 => ?_) (fun c19 => ?_)
    · refine x_aload_n X dX6_rain_25 rfl (lv_at hl 0 rfl) ?_
      refine x_get X hW (v := .int (nI (mg 1))) hi6 0 rfl rfl 1 (by decide) (List.mem_of_getElem? (i := 3) rfl) rfl rfl dX6_rain_26 ?_
      refine x_istore_n X [(2, .int (nI (mg 1))), (0, .ref mq), (1, .int (nI k))] dX6_rain_29 rfl hl (by decide) rfl (fun ls hl => ?_)
      refine x_aload_n X dX6_rain_30 rfl (lv_at hl 1 rfl) ?_
      refine x_iload_n X dX6_rain_31 rfl (lv_at hl 2 rfl) ?_
      refine x_put X hW (v := .int (nI k)) hi6 tyX6 tyX6_ok nmX6 0 rfl rfl 1 (by decide) (List.mem_of_getElem? (i := 3) rfl) rfl rfl rfl rfl (Nat.le_of_ble_eq_true rfl) dX6_rain_32 (wM cI cZ mq ma (sF mg 1 k) mh mF mE) rfl (fun H locs hW => ?_)
      refine x_iload_n X dX6_rain_35 rfl (lv_at hl 0 rfl) ?_
      exact x_iret X hW rfl () ((by unfold aRain; (try rw [onR_in hk (by omega)]); (try rw [if_neg (by omega)]); (try rfl))) (congrArg (fun z => (wM cI cZ mq ma (sF mg 1 z) mh mF mE)) (show k = (sRain (mg 2) (mg 1) (nI k)) from by unfold sRain; (try rw [onR_in hk (by omega)]); (try rw [if_neg (by omega)]); (try rfl))) dX6_rain_36
    · refine x_bipush (v := (-3 : Int32)) X dX6_rain_22 (by decide) ?_
      exact x_iret X hW rfl () ((by unfold aRain; (try rw [onR_in hk (by omega)]); (try rw [if_pos (by omega)]); (try rfl))) (congrArg (fun z => (wM cI cZ mq ma (sF mg 1 z) mh mF mE)) (show (mg 1) = (sRain (mg 2) (mg 1) (nI k)) from by unfold sRain; (try rw [onR_in hk (by omega)]); (try rw [if_pos (by omega)]); (try rfl))) dX6_rain_24
  · subst w6
    have gv := fun q => h6 ((in_iff (r := v) (n := 4) l_0 (by decide)).mpr q)
    refine n_if_ne X 15 dX6_rain_9 (by decide) (by decide) (fun c9 => by exact absurd c9 (by decide)) (fun c9 => ?_)
    refine x_bipush (v := (-2 : Int32)) X dX6_rain_12 (by decide) ?_
    exact x_iret X hW rfl () ((by unfold aRain; (try rw [onR_out gv]); (try rfl))) (congrArg (fun z => (wM cI cZ mq ma (sF mg 1 z) mh mF mE)) (show (mg 1) = (sRain (mg 2) (mg 1) v) from by unfold sRain; (try rw [onR_out gv]); (try rfl))) dX6_rain_14
set_option maxHeartbeats 4000000 in
set_option maxRecDepth 100000 in
theorem c_X6_gates (l : Launch) (D : va_G) (cI cZ cO : ClassId) (mq : Nat) (ma : Nat → Nat) (mg : Nat → Nat) (mh : Nat → Int32) (mF : Nat → Nat → Nat) (mE : Nat → Nat → Int32) (sz : Nat)   (h02 : mg 2 = 0 ∨ 2 ≤ mg 2) (hn : mg 2 ≤ 4) (hk : ∀ z0, mF 3 z0 ≤ 2) (hlv : ∀ z0, mF 4 z0 ≤ 9) (hm : ∀ z0, mF 5 z0 ≤ 9) (hw : ∀ z0, mF 12 z0 ≤ 9) : Met l yX6_gates wsX6_gates ({ frames := 3, cells := 0, slots := 0, locals := 65 }) (va_Pc [.ref mq] (st_W D (ty3 cI cZ cO) (wM cI cZ mq ma mg mh mF mE) sz)) (va_Qi (fun (rr : Int32) (u : (Nat → Nat)) => (rr = aGates (mg 2) (mF 3) (mF 4) (mF 5)) ∧ (∀ z0, u z0 ≤ 9)) (fun u t => at_W D (ty3 cI cZ cO) (va_A (wM cI cZ mq ma mg mh mF mE) sz) (wM cI cZ mq ma mg mh (sF mF 12 u) mE) t) (va_A (wM cI cZ mq ma mg mh mF mE) sz)) 0 0 (va_A (wM cI cZ mq ma mg mh mF mE) sz) := by
  refine Met.goi (cc := cX6_gates) (maxL := 1) (ret := (some .int)) (by decide) rfl (Nat.le_of_ble_eq_true rfl) (fun p e s m below meth c A ls X hW hl => ?_)
  have hi6 : ∀ w ∈ wsX60, w ∈ wsX6_gates := fun w h => List.mem_cons_of_mem _ (List.mem_append_right _ h)
  have hl : lv_has ls 1 [(0, .ref mq)] := hl
  refine x_aload_n X dX6_gates_0 rfl (lv_at hl 0 rfl) ?_
  refine x_get X hW (v := .int (nI (mg 2))) hi6 0 rfl rfl 2 (by decide) (List.mem_of_getElem? (i := 1) rfl) rfl rfl dX6_gates_1 ?_
  refine n_if_ne X 10 dX6_gates_4 (by decide) (by omega) (fun c4 => ?_) (fun c4 => ?_)
  · refine x_aload_n X dX6_gates_10 rfl (lv_at hl 0 rfl) ?_
    refine x_callVv0 X hW (As := []) (rest := []) (c_X6_begin l D cI cZ cO mq ma mg mh mF mE _ (show (mg 2) ≤ 4 from (by first | assumption | omega))) (cwV 0 X.2.2.2.2.2.1 gX6_gates_X6_begin rfl rfl rfl (by decide +kernel) ⟨Nat.le_of_ble_eq_true rfl, Nat.le_of_ble_eq_true rfl⟩) 0 5 rfl rfl rfl rfl hl.1 rfl (Nat.le_of_ble_eq_true rfl) ⟨Nat.le_of_ble_eq_true rfl, Nat.le_of_ble_eq_true rfl⟩ dX6_gates_11 (fun u2 H locs w11 hW => ?_)
    have hW : Wd D A s.heap H locs (wM cI cZ mq ma mg mh (sF mF 12 (cpN ((mg 2)) ((mF 4)) ((mF 12)))) mE) := hW
    replace w11 : True := w11
    refine x_aload_n X dX6_gates_14 rfl (lv_at hl 0 rfl) ?_
    refine x_callVi0 X hW (As := []) (rest := []) (c_X6_gatesNow l D cI cZ cO mq ma mg mh (sF mF 12 (cpN ((mg 2)) ((mF 4)) ((mF 12)))) mE _ (show 1 ≤ (mg 2) from (by omega)) (show (mg 2) ≤ 4 from (by first | assumption | omega)) (show ∀ z0, (mF 3) z0 ≤ 2 from (by first | assumption | omega)) (show ∀ z0, (mF 5) z0 ≤ 9 from (by first | assumption | omega)) (show ∀ z0, (cpN ((mg 2)) ((mF 4)) ((mF 12))) z0 ≤ 9 from (cpN_le hlv hw))) (cwV 0 X.2.2.2.2.2.1 gX6_gates_X6_gatesNow rfl rfl rfl (by decide +kernel) ⟨Nat.le_of_ble_eq_true rfl, Nat.le_of_ble_eq_true rfl⟩) 0 5 rfl rfl rfl rfl hl.1 rfl (Nat.le_of_ble_eq_true rfl) ⟨Nat.le_of_ble_eq_true rfl, Nat.le_of_ble_eq_true rfl⟩ dX6_gates_15 (fun r3 u4 H locs w15 hW => ?_)
    have hW : Wd D A s.heap H locs (wM cI cZ mq ma mg mh (sF mF 12 (cpN ((mg 2)) ((mF 4)) ((mF 12)))) mE) := hW
    replace w15 : r3 = setI (mayN ((mF 3)) ((cpN ((mg 2)) ((mF 4)) ((mF 12)))) ((mF 5))) ((mg 2) - 1) := w15
    subst w15
    exact x_iret X hW rfl (cpN ((mg 2)) ((mF 4)) ((mF 12))) (⟨aGates_eq (by omega), cpN_le hlv hw⟩) rfl dX6_gates_18
  · refine x_bipush (v := (-3 : Int32)) X dX6_gates_7 (by decide) ?_
    exact x_iret X hW rfl (mF 12) (⟨by unfold aGates; rw [if_pos (by omega)], hw⟩) rfl dX6_gates_9
set_option maxHeartbeats 4000000 in
set_option maxRecDepth 100000 in
theorem c_X6_open (l : Launch) (D : va_G) (cI cZ cO : ClassId) (mq : Nat) (ma : Nat → Nat) (mg : Nat → Nat) (mh : Nat → Int32) (mF : Nat → Nat → Nat) (mE : Nat → Nat → Int32) (sz : Nat) (g : Int32)  (h02 : mg 2 = 0 ∨ 2 ≤ mg 2) (hn : mg 2 ≤ 4) (hk : ∀ z0, mF 3 z0 ≤ 2) (hlv : ∀ z0, mF 4 z0 ≤ 9) (hm : ∀ z0, mF 5 z0 ≤ 9) (hw : ∀ z0, mF 12 z0 ≤ 9) (hrn : mg 1 ≤ 3) : Met l yX6_open wsX6_open ({ frames := 3, cells := 0, slots := 0, locals := 64 }) (va_Pc [.ref mq, .int g] (st_W D (ty3 cI cZ cO) (wM cI cZ mq ma mg mh mF mE) sz)) (va_Qi (fun (rr : Int32) (u : (Nat → Nat)) => (rr = aOpen (mg 2) (mF 3) (mF 4) (mF 5) g) ∧ (∀ z0, u z0 ≤ 9)) (fun u t => at_W D (ty3 cI cZ cO) (va_A (wM cI cZ mq ma mg mh mF mE) sz) (wM cI cZ mq ma mg mh (sF (sF mF 4 (sOpen (mg 2) (mF 3) (mF 4) (mF 5) g)) 12 u) mE) t) (va_A (wM cI cZ mq ma mg mh mF mE) sz)) 0 0 (va_A (wM cI cZ mq ma mg mh mF mE) sz) := by
  refine Met.goi (cc := cX6_open) (maxL := 2) (ret := (some .int)) (by decide) rfl (Nat.le_of_ble_eq_true rfl) (fun p e s m below meth c A ls X hW hl => ?_)
  have hi6 : ∀ w ∈ wsX60, w ∈ wsX6_open := fun w h => List.mem_cons_of_mem _ (List.mem_append_right _ h)
  have hl : lv_has ls 2 [(0, .ref mq), (1, .int g)] := hl
  refine x_iload_n X dX6_open_0 rfl (lv_at hl 1 rfl) ?_
  refine x_i2l (v := g.toInt64) X dX6_open_1 rfl ?_
  refine x_lconst (v := 0) X dX6_open_2 (by decide) ?_
  refine x_aload_n X dX6_open_3 rfl (lv_at hl 0 rfl) ?_
  refine x_get X hW (v := .int (nI (mg 2))) hi6 0 rfl rfl 2 (by decide) (List.mem_of_getElem? (i := 1) rfl) rfl rfl dX6_open_4 ?_
  refine x_i2l (v := (nI (mg 2)).toInt64) X dX6_open_7 rfl ?_
  refine x_ldc2 (v := (2)) X (List.mem_of_getElem? (i := 2) rfl) dX6_open_8 ?_
  refine x_lsub (v := ((nI (mg 2)).toInt64) - (2 : Int64)) X dX6_open_11 rfl ?_
  refine x_callSie X hW (As := [.long g.toInt64, .long (0 : Int64), .long (((nI (mg 2)).toInt64) - (2 : Int64))]) (rest := []) (c_X6_in l D cI cZ cO  _ g.toInt64 (0 : Int64) (((nI (mg 2)).toInt64) - (2 : Int64))) (va_cwS 3 X.2.2.2.2.2.1 gX6_open_X6_in rfl rfl rfl (by decide +kernel) ⟨Nat.le_of_ble_eq_true rfl, Nat.le_of_ble_eq_true rfl⟩) rfl hl.1 rfl (Nat.le_of_ble_eq_true rfl) ⟨Nat.le_of_ble_eq_true rfl, Nat.le_of_ble_eq_true rfl⟩ dX6_open_12 (fun r1 u2 H locs w12 hW => ?_)
  have hW : Wd D A s.heap H locs (wM cI cZ mq ma mg mh mF mE) := hW
  replace w12 : (r1 = nI 1 ∧ ((0 : Int64).toInt ≤ g.toInt64.toInt ∧ g.toInt64.toInt ≤ (((nI (mg 2)).toInt64) - (2 : Int64)).toInt) ∨ r1 = nI 0 ∧ ¬ ((0 : Int64).toInt ≤ g.toInt64.toInt ∧ g.toInt64.toInt ≤ (((nI (mg 2)).toInt64) - (2 : Int64)).toInt)) := w12
  rcases w12 with ⟨w12, h12⟩ | ⟨w12, h12⟩
  · subst w12
    obtain ⟨j, hj, rfl⟩ := inR_ex ((in_iff2 (r := g) l_0 (hi_sub (k := 2) (m := 2) (by omega) (by decide) (by decide))).mp h12) (by omega)
    refine n_if_ne X 20 dX6_open_15 (by decide) (by decide) (fun c15 => ?_) (fun c15 => by exact absurd c15 (by decide))
    refine x_aload_n X dX6_open_20 rfl (lv_at hl 0 rfl) ?_
    refine x_callVv0 X hW (As := []) (rest := []) (c_X6_begin l D cI cZ cO mq ma mg mh mF mE _ (show (mg 2) ≤ 4 from (by first | assumption | omega))) (cwV 0 X.2.2.2.2.2.1 gX6_open_X6_begin rfl rfl rfl (by decide +kernel) ⟨Nat.le_of_ble_eq_true rfl, Nat.le_of_ble_eq_true rfl⟩) 0 5 rfl rfl rfl rfl hl.1 rfl (Nat.le_of_ble_eq_true rfl) ⟨Nat.le_of_ble_eq_true rfl, Nat.le_of_ble_eq_true rfl⟩ dX6_open_21 (fun u4 H locs w21 hW => ?_)
    have hW : Wd D A s.heap H locs (wM cI cZ mq ma mg mh (sF mF 12 (cpN ((mg 2)) ((mF 4)) ((mF 12)))) mE) := hW
    replace w21 : True := w21
    refine x_aload_n X dX6_open_24 rfl (lv_at hl 0 rfl) ?_
    refine x_iload_n X dX6_open_25 rfl (lv_at hl 1 rfl) ?_
    refine x_callVi0 X hW (As := [.int (nI j)]) (rest := []) (c_X6_does l D cI cZ cO mq ma mg mh (sF mF 12 (cpN ((mg 2)) ((mF 4)) ((mF 12)))) mE _ j (show j < (mg 2) from (by omega)) (show 2 ≤ (mg 2) from (by omega)) (show (mg 2) ≤ 4 from (by first | assumption | omega)) (show ∀ z0, (mF 3) z0 ≤ 2 from (by first | assumption | omega)) (show ∀ z0, (mF 5) z0 ≤ 9 from (by first | assumption | omega)) (show ∀ z0, (cpN ((mg 2)) ((mF 4)) ((mF 12))) z0 ≤ 9 from (cpN_le hlv hw)) (show (mg 1) ≤ 3 from (by first | assumption | omega))) (cwV 1 X.2.2.2.2.2.1 gX6_open_X6_does rfl rfl rfl (by decide +kernel) ⟨Nat.le_of_ble_eq_true rfl, Nat.le_of_ble_eq_true rfl⟩) 0 5 rfl rfl rfl rfl hl.1 rfl (Nat.le_of_ble_eq_true rfl) ⟨Nat.le_of_ble_eq_true rfl, Nat.le_of_ble_eq_true rfl⟩ dX6_open_26 (fun r5 u6 H locs w26 hW => ?_)
    have hW : Wd D A s.heap H locs (wM cI cZ mq ma mg mh (sF mF 12 (actN ((mg 2)) ((mg 1)) ((mF 3)) ((mF 5)) ((cpN ((mg 2)) ((mF 4)) ((mF 12)))) j)) mE) := hW
    replace w26 : (r5 = nI 1 ∧ (canN ((mg 2)) ((mF 3)) ((mF 5)) ((cpN ((mg 2)) ((mF 4)) ((mF 12)))) j) ∨ r5 = nI 0 ∧ ¬ (canN ((mg 2)) ((mF 3)) ((mF 5)) ((cpN ((mg 2)) ((mF 4)) ((mF 12)))) j)) := w26
    rcases w26 with ⟨w26, h26⟩ | ⟨w26, h26⟩
    · subst w26
      have gm := (canN_may (by omega)).mp h26
      refine n_if_ne X 35 dX6_open_29 (by decide) (by decide) (fun c29 => ?_) (fun c29 => by exact absurd c29 (by decide))
      refine x_aload_n X dX6_open_35 rfl (lv_at hl 0 rfl) ?_
      refine x_callVv0 X hW (As := []) (rest := []) (c_X6_end l D cI cZ cO mq ma mg mh (sF mF 12 (actN ((mg 2)) ((mg 1)) ((mF 3)) ((mF 5)) ((cpN ((mg 2)) ((mF 4)) ((mF 12)))) j)) mE _ (show (mg 2) ≤ 4 from (by first | assumption | omega))) (cwV 0 X.2.2.2.2.2.1 gX6_open_X6_end rfl rfl rfl (by decide +kernel) ⟨Nat.le_of_ble_eq_true rfl, Nat.le_of_ble_eq_true rfl⟩) 0 5 rfl rfl rfl rfl hl.1 rfl (Nat.le_of_ble_eq_true rfl) ⟨Nat.le_of_ble_eq_true rfl, Nat.le_of_ble_eq_true rfl⟩ dX6_open_36 (fun u8 H locs w36 hW => ?_)
      have hW : Wd D A s.heap H locs (wM cI cZ mq ma mg mh (sF (sF mF 4 (cpN ((mg 2)) ((actN ((mg 2)) ((mg 1)) ((mF 3)) ((mF 5)) ((cpN ((mg 2)) ((mF 4)) ((mF 12)))) j)) ((mF 4)))) 12 (actN ((mg 2)) ((mg 1)) ((mF 3)) ((mF 5)) ((cpN ((mg 2)) ((mF 4)) ((mF 12)))) j)) mE) := hW
      replace w36 : True := w36
      refine x_aload_n X dX6_open_39 rfl (lv_at hl 0 rfl) ?_
      refine x_get X hW (v := .ref (ma 4)) hi6 0 rfl rfl 4 (by decide) (List.mem_of_getElem? (i := 3) rfl) rfl rfl dX6_open_40 ?_
      refine x_iload_n X dX6_open_43 rfl (lv_at hl 1 rfl) ?_
      refine x_iconst (v := nI 1) X dX6_open_44 (by decide) ?_
      refine n_iadd X dX6_open_45 ?_
      refine n_iald X hW (f := cpN ((mg 2)) ((actN ((mg 2)) ((mg 1)) ((mF 3)) ((mF 5)) ((cpN ((mg 2)) ((mF 4)) ((mF 12)))) j)) ((mF 4))) 2 0 rfl rfl (by omega) (by decide) dX6_open_46 ?_
      refine n_as0 (b := mF 4 (j + 1) + 1) (by rw [cp_thru (by omega) gm]; exact sF_s _ _ _) ?_
      exact x_iret X hW rfl (actN ((mg 2)) ((mg 1)) ((mF 3)) ((mF 5)) ((cpN ((mg 2)) ((mF 4)) ((mF 12)))) j) (⟨(by first | exact hw | exact cpN_le hlv hw | exact actN_le (cpN_le hlv hw) hm | (unfold aOpen; rw [onR_in hj (by omega), if_pos gm])), by first | exact hw | exact cpN_le hlv hw | exact actN_le (cpN_le hlv hw) hm | (unfold aOpen; rw [onR_in hj (by omega), if_pos gm])⟩) (congrArg (fun z => (wM cI cZ mq ma mg mh (sF (sF mF 4 z) 12 (actN ((mg 2)) ((mg 1)) ((mF 3)) ((mF 5)) ((cpN ((mg 2)) ((mF 4)) ((mF 12)))) j)) mE)) (show (cpN ((mg 2)) ((actN ((mg 2)) ((mg 1)) ((mF 3)) ((mF 5)) ((cpN ((mg 2)) ((mF 4)) ((mF 12)))) j)) ((mF 4))) = (sOpen (mg 2) (mF 3) (mF 4) (mF 5) (nI j)) from by first | exact cp_thru_eq (by omega) (by omega) gm | (unfold sOpen; rw [onR_in hj (by omega), if_pos gm]))) dX6_open_47
    · subst w26
      have gm := fun q => h26 ((canN_may (by omega)).mpr q)
      refine n_if_ne X 35 dX6_open_29 (by decide) (by decide) (fun c29 => by exact absurd c29 (by decide)) (fun c29 => ?_)
      refine x_bipush (v := (-3 : Int32)) X dX6_open_32 (by decide) ?_
      exact x_iret X hW rfl (actN ((mg 2)) ((mg 1)) ((mF 3)) ((mF 5)) ((cpN ((mg 2)) ((mF 4)) ((mF 12)))) j) (⟨(by first | exact hw | exact cpN_le hlv hw | exact actN_le (cpN_le hlv hw) hm | (unfold aOpen; rw [onR_in hj (by omega), if_neg gm])), by first | exact hw | exact cpN_le hlv hw | exact actN_le (cpN_le hlv hw) hm | (unfold aOpen; rw [onR_in hj (by omega), if_neg gm])⟩) (congrArg (fun z => (wM cI cZ mq ma mg mh (sF (sF mF 4 z) 12 (actN ((mg 2)) ((mg 1)) ((mF 3)) ((mF 5)) ((cpN ((mg 2)) ((mF 4)) ((mF 12)))) j)) mE)) (show (mF 4) = (sOpen (mg 2) (mF 3) (mF 4) (mF 5) (nI j)) from by first | exact cp_thru_eq (by omega) (by omega) gm | (unfold sOpen; rw [onR_in hj (by omega), if_neg gm]))) dX6_open_34
  · subst w12
    have gg := fun q => h12 ((in_iff2 (r := g) l_0 (hi_sub (k := 2) (m := 2) (by omega) (by decide) (by decide))).mpr q)
    refine n_if_ne X 20 dX6_open_15 (by decide) (by decide) (fun c15 => by exact absurd c15 (by decide)) (fun c15 => ?_)
    refine x_iconst (v := (-1 : Int32)) X dX6_open_18 (by decide) ?_
    exact x_iret X hW rfl (mF 12) (⟨(by first | exact hw | exact cpN_le hlv hw | exact actN_le (cpN_le hlv hw) hm | (unfold aOpen; rw [onR_out gg])), by first | exact hw | exact cpN_le hlv hw | exact actN_le (cpN_le hlv hw) hm | (unfold aOpen; rw [onR_out gg])⟩) (congrArg (fun z => (wM cI cZ mq ma mg mh (sF mF 4 z) mE)) (show (mF 4) = (sOpen (mg 2) (mF 3) (mF 4) (mF 5) g) from by first | exact cp_thru_eq (by omega) (by omega) gm | (unfold sOpen; rw [onR_out gg]))) dX6_open_19
set_option maxHeartbeats 4000000 in
set_option maxRecDepth 100000 in
theorem c_X6_nights (l : Launch) (D : va_G) (cI cZ cO : ClassId) (mq : Nat) (ma : Nat → Nat) (mg : Nat → Nat) (mh : Nat → Int32) (mF : Nat → Nat → Nat) (mE : Nat → Nat → Int32) (sz : Nat) (v : Int32)  (h02 : mg 2 = 0 ∨ 2 ≤ mg 2) (hn : mg 2 ≤ 4) (hlv : ∀ z0, mF 4 z0 ≤ 9) (hw : ∀ z0, mF 12 z0 ≤ 9) (hrn : mg 1 ≤ 3) : Met l yX6_nights wsX6_nights ({ frames := 1, cells := 0, slots := 0, locals := 25 }) (va_Pc [.ref mq, .int v] (st_W D (ty3 cI cZ cO) (wM cI cZ mq ma mg mh mF mE) sz)) (va_Qi (fun (rr : Int32) (u : (Nat → Nat)) => (rr = aNights (mg 2) (mg 1) (mF 4) v) ∧ (∀ z0, u z0 ≤ 9)) (fun u t => at_W D (ty3 cI cZ cO) (va_A (wM cI cZ mq ma mg mh mF mE) sz) (wM cI cZ mq ma mg mh (sF (sF mF 4 (sNights (mg 2) (mg 1) (mF 4) v)) 12 u) mE) t) (va_A (wM cI cZ mq ma mg mh mF mE) sz)) 0 0 (va_A (wM cI cZ mq ma mg mh mF mE) sz) := by
  refine Met.goi (cc := cX6_nights) (maxL := 3) (ret := (some .int)) (by decide) rfl (Nat.le_of_ble_eq_true rfl) (fun p e s m below meth c A ls X hW hl => ?_)
  have hi6 : ∀ w ∈ wsX60, w ∈ wsX6_nights := fun w h => List.mem_cons_of_mem _ (List.mem_append_right _ h)
  have hl : lv_has ls 3 [(0, .ref mq), (1, .int v)] := hl
  refine x_iload_n X dX6_nights_0 rfl (lv_at hl 1 rfl) ?_
  refine x_i2l (v := v.toInt64) X dX6_nights_1 rfl ?_
  refine x_lconst (v := 0) X dX6_nights_2 (by decide) ?_
  refine x_ldc2 (v := (40)) X (List.mem_of_getElem? (i := 1) rfl) dX6_nights_3 ?_
  refine x_callSie X hW (As := [.long v.toInt64, .long (0 : Int64), .long (40 : Int64)]) (rest := []) (c_X6_in l D cI cZ cO  _ v.toInt64 (0 : Int64) (40 : Int64)) (va_cwS 3 X.2.2.2.2.2.1 gX6_nights_X6_in rfl rfl rfl (by decide +kernel) ⟨Nat.le_of_ble_eq_true rfl, Nat.le_of_ble_eq_true rfl⟩) rfl hl.1 rfl (Nat.le_of_ble_eq_true rfl) ⟨Nat.le_of_ble_eq_true rfl, Nat.le_of_ble_eq_true rfl⟩ dX6_nights_6 (fun r1 u2 H locs w6 hW => ?_)
  have hW : Wd D A s.heap H locs (wM cI cZ mq ma mg mh mF mE) := hW
  replace w6 : (r1 = nI 1 ∧ ((0 : Int64).toInt ≤ v.toInt64.toInt ∧ v.toInt64.toInt ≤ (40 : Int64).toInt) ∨ r1 = nI 0 ∧ ¬ ((0 : Int64).toInt ≤ v.toInt64.toInt ∧ v.toInt64.toInt ≤ (40 : Int64).toInt)) := w6
  rcases w6 with ⟨w6, h6⟩ | ⟨w6, h6⟩
  · subst w6
    obtain ⟨k, hk, rfl⟩ := inR_ex ((in_iff (r := v) (n := 41) l_0 (by decide)).mp h6) (by omega)
    refine n_if_ne X 15 dX6_nights_9 (by decide) (by decide) (fun c9 => ?_) (fun c9 => by exact absurd c9 (by decide))
    refine x_aload_n X dX6_nights_15 rfl (lv_at hl 0 rfl) ?_
    refine x_get X hW (v := .int (nI (mg 2))) hi6 0 rfl rfl 2 (by decide) (List.mem_of_getElem? (i := 2) rfl) rfl rfl dX6_nights_16 ?_
    refine n_if_ne X 25 dX6_nights_19 (by decide) (by omega) (fun c19 => ?_) (fun c19 => ?_)
    · refine x_aload_n X dX6_nights_25 rfl (lv_at hl 0 rfl) ?_
      refine x_callVv0 X hW (As := []) (rest := []) (c_X6_begin l D cI cZ cO mq ma mg mh mF mE _ (show (mg 2) ≤ 4 from (by first | assumption | omega))) (cwV 0 X.2.2.2.2.2.1 gX6_nights_X6_begin rfl rfl rfl (by decide +kernel) ⟨Nat.le_of_ble_eq_true rfl, Nat.le_of_ble_eq_true rfl⟩) 0 5 rfl rfl rfl rfl hl.1 rfl (Nat.le_of_ble_eq_true rfl) ⟨Nat.le_of_ble_eq_true rfl, Nat.le_of_ble_eq_true rfl⟩ dX6_nights_26 (fun u4 H locs w26 hW => ?_)
      have hW : Wd D A s.heap H locs (wM cI cZ mq ma mg mh (sF mF 12 (cpN ((mg 2)) ((mF 4)) ((mF 12)))) mE) := hW
      replace w26 : True := w26
      refine x_iconst (v := nI 0) X dX6_nights_29 (by decide) ?_
      refine x_istore_n X [(2, .int (nI 0)), (0, .ref mq), (1, .int (nI k))] dX6_nights_30 rfl hl (by decide) rfl (fun ls hl => ?_)
      refine W.loop (σ := (Nat)) (fun u H locs ls => (u ≤ k) ∧ Wd D A s.heap H locs (wM cI cZ mq ma mg mh (sF mF 12 (nts (mg 2) (mg 1) u (cpN (mg 2) (mF 4) (mF 12)))) mE) ∧ lv_has ls 3 [(2, .int (nI u)), (0, .ref mq), (1, .int (nI k))]) (fun u => k - u) (fun u H locs ls hI ih => ?_) 0 ⟨(show 0 ≤ k from (by omega)), (hW.eq (congrArg (fun z => (wM cI cZ mq ma mg mh (sF mF 12 z) mE)) (show (cpN ((mg 2)) ((mF 4)) ((mF 12))) = (nts (mg 2) (mg 1) 0 (cpN (mg 2) (mF 4) (mF 12))) from by rfl))), hl⟩
      obtain ⟨i, ie⟩ : ∃ z, z = u := ⟨_, rfl⟩
      subst ie
      obtain ⟨hv, hW, hl⟩ := hI
      have hv : i ≤ k := hv
      have hW : Wd D A s.heap H locs (wM cI cZ mq ma mg mh (sF mF 12 (nts (mg 2) (mg 1) i (cpN (mg 2) (mF 4) (mF 12)))) mE) := hW
      have hl : lv_has ls 3 [(2, .int (nI i)), (0, .ref mq), (1, .int (nI k))] := hl
      have ih31 := ih
      refine x_iload_n X dX6_nights_31 rfl (lv_at hl 0 rfl) ?_
      refine x_iload_n X dX6_nights_32 rfl (lv_at hl 2 rfl) ?_
      refine n_icmp_ge X 46 dX6_nights_33 (by decide) (by omega) (by omega) (fun c33 => ?_) (fun c33 => ?_)
      · have ei : i = k := by omega
        refine x_aload_n X dX6_nights_46 rfl (lv_at hl 1 rfl) ?_
        refine x_callVv0 X hW (As := []) (rest := []) (c_X6_end l D cI cZ cO mq ma mg mh (sF mF 12 (nts (mg 2) (mg 1) i (cpN (mg 2) (mF 4) (mF 12)))) mE _ (show (mg 2) ≤ 4 from (by first | assumption | omega))) (cwV 0 X.2.2.2.2.2.1 gX6_nights_X6_end rfl rfl rfl (by decide +kernel) ⟨Nat.le_of_ble_eq_true rfl, Nat.le_of_ble_eq_true rfl⟩) 0 5 rfl rfl rfl rfl hl.1 rfl (Nat.le_of_ble_eq_true rfl) ⟨Nat.le_of_ble_eq_true rfl, Nat.le_of_ble_eq_true rfl⟩ dX6_nights_47 (fun u6 H locs w47 hW => ?_)
        have hW : Wd D A s.heap H locs (wM cI cZ mq ma mg mh (sF (sF mF 4 (cpN ((mg 2)) ((nts (mg 2) (mg 1) i (cpN (mg 2) (mF 4) (mF 12)))) ((mF 4)))) 12 (nts (mg 2) (mg 1) i (cpN (mg 2) (mF 4) (mF 12)))) mE) := hW
        replace w47 : True := w47
        refine x_aload_n X dX6_nights_50 rfl (lv_at hl 1 rfl) ?_
        refine x_get X hW (v := .ref (ma 4)) hi6 0 rfl rfl 4 (by decide) (List.mem_of_getElem? (i := 3) rfl) rfl rfl dX6_nights_51 ?_
        refine x_iconst (v := nI 0) X dX6_nights_54 (by decide) ?_
        refine n_iald X hW (f := cpN ((mg 2)) ((nts (mg 2) (mg 1) i (cpN (mg 2) (mF 4) (mF 12)))) ((mF 4))) 2 0 rfl rfl (by decide) (by decide) dX6_nights_55 ?_
        refine n_as0 (b := nts (mg 2) (mg 1) i (mF 4) 0) (by rw [cp_nts (by omega)]) ?_
        exact x_iret X hW rfl (nts (mg 2) (mg 1) i (cpN (mg 2) (mF 4) (mF 12))) (⟨(by first | exact hw | exact nts_le (cpN_le hlv hw) _ | (unfold aNights; rw [onR_in hk (by omega), if_neg (by omega), ← ei])), by first | exact hw | exact nts_le (cpN_le hlv hw) _ | (unfold aNights; rw [onR_in hk (by omega), if_neg (by omega), ← ei])⟩) (congrArg (fun z => (wM cI cZ mq ma mg mh (sF (sF mF 4 z) 12 (nts (mg 2) (mg 1) i (cpN (mg 2) (mF 4) (mF 12)))) mE)) (show (cpN ((mg 2)) ((nts (mg 2) (mg 1) i (cpN (mg 2) (mF 4) (mF 12)))) ((mF 4))) = (sNights (mg 2) (mg 1) (mF 4) (nI k)) from by first | (unfold sNights; rw [onR_in hk (by omega), if_neg (by omega), ← ei]; done) | (rw [cp_nts (by omega)]; unfold sNights; rw [onR_in hk (by omega), if_neg (by omega), ← ei]))) dX6_nights_56
      · refine x_aload_n X dX6_nights_36 rfl (lv_at hl 1 rfl) ?_
        refine x_callVv0 X hW (As := []) (rest := []) (c_X6_goNight l D cI cZ cO mq ma mg mh (sF mF 12 (nts (mg 2) (mg 1) i (cpN (mg 2) (mF 4) (mF 12)))) mE _ (show 2 ≤ (mg 2) from (by omega)) (show (mg 2) ≤ 4 from (by first | assumption | omega)) (show ∀ z0, (nts (mg 2) (mg 1) i (cpN (mg 2) (mF 4) (mF 12))) z0 ≤ 9 from (nts_le (cpN_le hlv hw) i)) (show (mg 1) ≤ 3 from (by first | assumption | omega))) (cwV 0 X.2.2.2.2.2.1 gX6_nights_X6_goNight rfl rfl rfl (by decide +kernel) ⟨Nat.le_of_ble_eq_true rfl, Nat.le_of_ble_eq_true rfl⟩) 0 5 rfl rfl rfl rfl hl.1 rfl (Nat.le_of_ble_eq_true rfl) ⟨Nat.le_of_ble_eq_true rfl, Nat.le_of_ble_eq_true rfl⟩ dX6_nights_37 (fun u8 H locs w37 hW => ?_)
        have hW : Wd D A s.heap H locs (wM cI cZ mq ma mg mh (sF mF 12 (night ((mg 2)) ((mg 1)) ((nts (mg 2) (mg 1) i (cpN (mg 2) (mF 4) (mF 12)))))) mE) := hW
        replace w37 : True := w37
        refine x_iinc X [(2, .int (nI (i + 1))), (0, .ref mq), (1, .int (nI k))] (k := 0) dX6_nights_40 hl rfl (nI_inc1 i) (by decide) rfl (fun ls hl => ?_)
        refine x_goto X 31 dX6_nights_43 (by decide) ?_
        exact ih31 (i + 1) _ _ _ ⟨(show (i + 1) ≤ k from (by omega)), (hW.eq (congrArg (fun z => (wM cI cZ mq ma mg mh (sF mF 12 z) mE)) (show (night ((mg 2)) ((mg 1)) ((nts (mg 2) (mg 1) i (cpN (mg 2) (mF 4) (mF 12))))) = (nts (mg 2) (mg 1) (i + 1) (cpN (mg 2) (mF 4) (mF 12))) from by rfl))), lv_sub hl [0, 1, 2] rfl⟩ (by omega)
    · refine x_bipush (v := (-3 : Int32)) X dX6_nights_22 (by decide) ?_
      exact x_iret X hW rfl (mF 12) (⟨(by first | exact hw | exact nts_le (cpN_le hlv hw) _ | (unfold aNights; rw [onR_in hk (by omega), if_pos (by omega)])), by first | exact hw | exact nts_le (cpN_le hlv hw) _ | (unfold aNights; rw [onR_in hk (by omega), if_pos (by omega)])⟩) (congrArg (fun z => (wM cI cZ mq ma mg mh (sF mF 4 z) mE)) (show (mF 4) = (sNights (mg 2) (mg 1) (mF 4) (nI k)) from by first | (unfold sNights; rw [onR_in hk (by omega), if_pos (by omega)]; done) | (rw [cp_nts (by omega)]; unfold sNights; rw [onR_in hk (by omega), if_pos (by omega)]))) dX6_nights_24
  · subst w6
    have gv := fun q => h6 ((in_iff (r := v) (n := 41) l_0 (by decide)).mpr q)
    refine n_if_ne X 15 dX6_nights_9 (by decide) (by decide) (fun c9 => by exact absurd c9 (by decide)) (fun c9 => ?_)
    refine x_bipush (v := (-2 : Int32)) X dX6_nights_12 (by decide) ?_
    exact x_iret X hW rfl (mF 12) (⟨(by first | exact hw | exact nts_le (cpN_le hlv hw) _ | (unfold aNights; rw [onR_out gv])), by first | exact hw | exact nts_le (cpN_le hlv hw) _ | (unfold aNights; rw [onR_out gv])⟩) (congrArg (fun z => (wM cI cZ mq ma mg mh (sF mF 4 z) mE)) (show (mF 4) = (sNights (mg 2) (mg 1) (mF 4) v) from by first | (unfold sNights; rw [onR_out gv]; done) | (rw [cp_nts (by omega)]; unfold sNights; rw [onR_out gv]))) dX6_nights_14
