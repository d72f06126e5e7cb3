/-! sheets: which fault is come to, what is behind a call -/
theorem lcmp_le {x y : Int64} : lg_cmp x y ≤ 0 ↔ x.toInt ≤ y.toInt := by
  have h := lcmp_gt (x := x) (y := y)
  constructor
  · intro q
    apply Classical.byContradiction
    intro z
    have := h.mpr (by omega)
    rw [i_le, i_0] at q; rw [i_lt, i_0] at this; omega
  · intro q
    have z : ¬ (0 : Int32) < lg_cmp x y := fun w => by have := h.mp w; omega
    rw [i_lt, i_0] at z; rw [i_le, i_0]; omega
theorem lcmp_ge {x y : Int64} : 0 ≤ lg_cmp x y ↔ y.toInt ≤ x.toInt := by
  have h := lcmp_lt (x := x) (y := y)
  constructor
  · intro q
    apply Classical.byContradiction
    intro z
    have := h.mpr (by omega)
    rw [i_le, i_0] at q; rw [i_lt, i_0] at this; omega
  · intro q
    have z : ¬ lg_cmp x y < (0 : Int32) := fun w => by have := h.mp w; omega
    rw [i_lt, i_0] at z; rw [i_le, i_0]; omega
theorem add_w {i : Int32} {n : Int64} (h : -2147483648 ≤ n.toInt ∧ n.toInt < 2147483648) : (i.toInt64 + n).toInt = i.toInt + n.toInt := by
  have := rngI i
  rw [Int64.toInt_add, wide]
  exact bm64 (by omega) (by omega)
theorem wrng (n : Int32) : -2147483648 ≤ n.toInt64.toInt ∧ n.toInt64.toInt < 2147483648 := by rw [wide]; exact rngI n
def barF (th ln ct : Nat) (lane i n : Int32) : Nat := if th = 0 then 1 else if ¬ nI ln = lane then 2 else if n.toInt < 0 then 4 else if i.toInt < 0 ∨ (ct : Int) < i.toInt + n.toInt then 3 else 0
theorem barF_le (th ln ct : Nat) (lane i n : Int32) : barF th ln ct lane i n ≤ 4 := by unfold barF; (repeat' split) <;> omega
theorem neg_bf : ∀ b, b ≤ 4 → ((-10 : Int32) - nI b) < 0 := by decide
theorem neg_bf' {b : Nat} (h : b ≤ 4) : ¬ 0 ≤ ((-10 : Int32) - nI b) := by
  have := neg_bf b h
  rw [i_lt] at this; rw [i_le]; omega
def cutI (ln : Nat) (v : Int32) : Int32 := if ln = 0 then v.toInt8.toInt32 else if ln = 1 then v.toInt16.toInt32 else v
/-- put, cell: which fault -/
def cellF (th ct : Nat) (i : Int32) : Nat := if th = 0 then 1 else if inR i ct then 0 else 3
noncomputable def aSheet (k lane n : Int32) : Int32 := onR k 4 (-1) (fun _ => onR lane 3 (-2) (fun _ => onR n 61 (if 60 < n.toInt then -2 else (-10) - nI 4) (fun _ => 1)))
noncomputable def fSheet (k lane n : Int32) : Nat := onR k 4 0 (fun _ => onR lane 3 0 (fun _ => onR n 61 (if 60 < n.toInt then 0 else 4) (fun _ => 0)))
def sSheet {α : Type} (k lane n : Int32) (f : Nat → α) (v : Nat → Nat → Nat → Nat → α) : Nat → α := onR k 4 f (fun j => onR lane 3 f (fun ln => onR n 61 f (fun m => v j ln m)))
def zr (f : Nat → Int32) (b m : Nat) : Nat → Int32 := fun x => if b ≤ x ∧ x < b + m then nI 0 else f x
theorem zr_0 (f : Nat → Int32) (b : Nat) : f = zr f b 0 := by
  funext x; unfold zr; rw [if_neg (by omega)]
theorem zr_s (f : Nat → Int32) (b m : Nat) : sF (zr f b m) (b + m) (nI 0) = zr f b (m + 1) := by
  funext x; rw [sF_ap]; unfold zr
  by_cases h : x = b + m
  · rw [if_pos h, if_pos (by omega)]
  · rw [if_neg h]
    by_cases h2 : b ≤ x ∧ x < b + m
    · rw [if_pos h2, if_pos (by omega)]
    · rw [if_neg h2, if_neg (by omega)]
def aLose (th : Nat → Nat) (k : Int32) : Int32 := onR k 4 (-1) (fun j => nI (th j))
def aFl (b : Nat) (v : Int32) : Int32 := if b = 0 then v else (-10) - nI b
def aPut (th ct : Nat → Nat) (k i : Int32) : Int32 := onR k 4 (-1) (fun j => aFl (cellF (th j) (ct j) i) 1)
def fPut (th ct : Nat → Nat) (k i : Int32) : Nat := onR k 4 0 (fun j => cellF (th j) (ct j) i)
def aCell (th ln ct : Nat → Nat) (cs : Nat → Nat → Int32) (k i lane : Int32) : Int64 := onR k 4 (-9223372036854775808) (fun j => onR lane 3 (-9223372036854775808) (fun _ => if barF (th j) (ln j) (ct j) lane i (nI 1) = 0 then (cs j i.toNatClampNeg).toInt64 else -9223372036854775808))
def fCell (th ln ct : Nat → Nat) (k i lane : Int32) : Nat := onR k 4 0 (fun j => onR lane 3 0 (fun _ => barF (th j) (ln j) (ct j) lane i (nI 1)))
def copF (th ln ct : Nat → Nat) (a b : Nat) (i j n : Int32) : Nat := if th a = 0 ∨ th b = 0 then 1 else if ¬ ln a = ln b then 2 else if i.toInt < 0 ∨ j.toInt < 0 ∨ n.toInt < 0 ∨ (ct a : Int) < i.toInt + n.toInt ∨ (ct b : Int) < j.toInt + n.toInt then 3 else 0
def aCopy (th ln ct : Nat → Nat) (k i o j n : Int32) : Int32 := onR k 4 (-1) (fun a => onR o 4 (-1) (fun b => aFl (copF th ln ct a b i j n) n))
def fCopy (th ln ct : Nat → Nat) (k i o j n : Int32) : Nat := onR k 4 0 (fun a => onR o 4 0 (fun b => copF th ln ct a b i j n))
/-- n places from d on get what f has from s on -/
def mv (g f : Nat → Int32) (d s n : Nat) : Nat → Int32 := fun x => if d ≤ x ∧ x < d + n then f (s + (x - d)) else g x
theorem mv_0 (g f : Nat → Int32) (d s : Nat) : g = mv g f d s 0 := by
  funext x; unfold mv; rw [if_neg (by omega)]
theorem mv_s {g f : Nat → Int32} {d s n : Nat} {v : Int32} (hv : v = f (s + n)) : sF (mv g f d s n) (d + n) v = mv g f d s (n + 1) := by
  funext x; rw [sF_ap]; unfold mv
  by_cases h : x = d + n
  · rw [if_pos h, if_pos (by omega), hv, h]; congr 1; omega
  · rw [if_neg h]
    by_cases h2 : d ≤ x ∧ x < d + n
    · rw [if_pos h2, if_pos (by omega)]
    · rw [if_neg h2, if_neg (by omega)]
def trk (b : Nat) (t : Int32) : Int32 := nI 31 * t + nI b
def aTellJ (kd m : Nat) : Int32 := if kd = 0 then nI m else if kd = 1 then nI (m + 100) else nI (2 * m + 100)
def sTellJ (kd : Nat) (t : Int32) : Int32 := if kd = 0 then trk 1 t else if kd = 1 then trk 1 (trk 2 t) else trk 1 (trk 1 (trk 2 (trk 3 t)))
def aTell (n : Nat) (kd lm : Nat → Nat) (r : Int32) : Int32 := onR r n (-1) (fun j => aTellJ (kd j) (lm j))
def sTell (n : Nat) (kd : Nat → Nat) (t r : Int32) : Int32 := onR r n t (fun j => sTellJ (kd j) t)
def aFlat (n : Nat) (kd : Nat → Nat) (r : Int32) : Int32 := onR r n (-1) (fun j => if kd j = 2 then nI 70 else nI j)
def sFlat (n : Nat) (kd : Nat → Nat) (t r : Int32) : Int32 := onR r n t (fun j => if kd j = 2 then trk 5 t else trk 4 t)
def aAs (n : Nat) (kd : Nat → Nat) (r w : Int32) : Int32 := onR r n (-1) (fun j => onR w 3 (-2) (fun k => if k ≤ kd j then 1 else (-10) - nI 2))
def fAs (n : Nat) (kd : Nat → Nat) (r w : Int32) : Nat := onR r n 0 (fun j => onR w 3 0 (fun k => if k ≤ kd j then 0 else 2))
/-- the sum of the first n -/
def smN (f : Nat → Nat) : Nat → Nat
  | 0 => 0
  | k + 1 => smN f k + f k
theorem smN_le {f : Nat → Nat} {b : Nat} (h : ∀ i, f i ≤ b) : ∀ k, smN f k ≤ k * b
  | 0 => by simp [smN]
  | k + 1 => by
    have h1 := smN_le h k
    have h2 := h k
    show smN f k + f k ≤ (k + 1) * b
    rw [Nat.succ_mul]; omega
theorem smN_cong {f g : Nat → Nat} : ∀ {k : Nat}, (∀ i, i < k → f i = g i) → smN f k = smN g k
  | 0, _ => rfl
  | k + 1, h => by
    show smN f k + f k = smN g k + g k
    rw [smN_cong (fun i hi => h i (by omega)), h k (by omega)]
def aManyJ (n rn rc : Nat) (lv : Nat → Nat) (k : Nat) : Int32 := if k = 0 then nI n else if k = 1 then nI rn else if k = 2 then nI (smN lv n) else nI rc
def aMany (n rn rc : Nat) (lv : Nat → Nat) (w : Int32) : Int32 := onR w 4 (-2) (fun k => aManyJ n rn rc lv k)
theorem aMany0 {n rn rc : Nat} {lv : Nat → Nat} : aManyJ n rn rc lv 0 = nI n := rfl
theorem aMany1 {n rn rc : Nat} {lv : Nat → Nat} : aManyJ n rn rc lv 1 = nI rn := rfl
theorem aMany2 {n rn rc : Nat} {lv : Nat → Nat} : aManyJ n rn rc lv 2 = nI (smN lv n) := rfl
theorem aMany3 {n rn rc : Nat} {lv : Nat → Nat} : aManyJ n rn rc lv 3 = nI rc := rfl

theorem fail_le {b : Nat} (h : b ≤ 4) (hb : b ≠ 0) (v : Int32) : aFl b v = (-10) - nI b := by unfold aFl; rw [if_neg hb]
theorem fl0 {b : Nat} (h : b = 0) (v : Int32) : aFl b v = v := by unfold aFl; rw [if_pos h]
theorem fl1 {b c : Nat} (h : b = c) (hc : c ≠ 0) (v : Int32) : (-10 : Int32) - nI c = aFl b v := by subst h; unfold aFl; rw [if_neg hc]

set_option maxHeartbeats 4000000 in
set_option maxRecDepth 100000 in
theorem c_X6_noSheet (l : Launch) (D : va_G) (cI cZ cO : ClassId)  (sz : Nat) (k0 : Int32)   : Met l yX6_noSheet wsX6_noSheet ({ frames := 1, cells := 0, slots := 0, locals := 25 }) (va_Pc [.int k0] (st_W D (ty3 cI cZ cO) ([] : va_W) sz)) (va_Qi (fun (rr : Int32) (u : Unit) => (rr = nI 1 ∧ (¬ inR k0 4) ∨ rr = nI 0 ∧ ¬ (¬ inR k0 4))) (fun u t => at_W D (ty3 cI cZ cO) (va_A ([] : va_W) sz) ([] : va_W) t) (va_A ([] : va_W) sz)) 0 0 (va_A ([] : va_W) sz) := by
  refine Met.goi (cc := cX6_noSheet) (maxL := 1) (ret := (some .boolean)) (by decide) rfl (Nat.le_of_ble_eq_true rfl) (fun p e s m below meth c A ls X hW hl => ?_)
  have hl : lv_has ls 1 [(0, .int k0)] := hl
  refine x_iload_n X dX6_noSheet_0 rfl (lv_at hl 0 rfl) ?_
  refine x_i2l (v := k0.toInt64) X dX6_noSheet_1 rfl ?_
  refine x_lconst (v := 0) X dX6_noSheet_2 (by decide) ?_
  refine x_ldc2 (v := (3)) X (List.mem_of_getElem? (i := 1) rfl) dX6_noSheet_3 ?_
  refine x_callSie X hW (As := [.long k0.toInt64, .long (0 : Int64), .long (3 : Int64)]) (rest := []) (c_X6_in l D cI cZ cO  _ k0.toInt64 (0 : Int64) (3 : Int64)) (va_cwS 3 X.2.2.2.2.2.1 gX6_noSheet_X6_in rfl rfl rfl (by decide +kernel) ⟨Nat.le_of_ble_eq_true rfl, Nat.le_of_ble_eq_true rfl⟩) rfl hl.1 rfl (Nat.le_of_ble_eq_true rfl) ⟨Nat.le_of_ble_eq_true rfl, Nat.le_of_ble_eq_true rfl⟩ dX6_noSheet_6 (fun r1 u2 H locs w6 hW => ?_)
  have hW : Wd D A s.heap H locs ([] : va_W) := hW
  replace w6 : (r1 = nI 1 ∧ ((0 : Int64).toInt ≤ k0.toInt64.toInt ∧ k0.toInt64.toInt ≤ (3 : Int64).toInt) ∨ r1 = nI 0 ∧ ¬ ((0 : Int64).toInt ≤ k0.toInt64.toInt ∧ k0.toInt64.toInt ≤ (3 : Int64).toInt)) := w6
  rcases w6 with ⟨w6, h6⟩ | ⟨w6, h6⟩
  · subst w6
    have gi := (in_iff (r := k0) (n := 4) l_0 (by decide)).mp h6
    refine n_if_ne X 16 dX6_noSheet_9 (by decide) (by decide) (fun c9 => ?_) (fun c9 => by exact absurd c9 (by decide))
    refine x_iconst (v := nI 0) X dX6_noSheet_16 (by decide) ?_
    exact x_zret X hW rfl (Or.inl (by decide)) () (Or.inr ⟨rfl, by first | exact gi | exact fun q => q gi⟩) rfl dX6_noSheet_17
  · subst w6
    have gi := fun q => h6 ((in_iff (r := k0) (n := 4) l_0 (by decide)).mpr q)
    refine n_if_ne X 16 dX6_noSheet_9 (by decide) (by decide) (fun c9 => by exact absurd c9 (by decide)) (fun c9 => ?_)
    refine x_iconst (v := nI 1) X dX6_noSheet_12 (by decide) ?_
    refine x_goto X 17 dX6_noSheet_13 (by decide) ?_
    exact x_zret X hW rfl (Or.inr (by decide)) () (Or.inl ⟨rfl, by first | exact gi | exact fun q => q gi⟩) rfl dX6_noSheet_17
set_option maxHeartbeats 4000000 in
set_option maxRecDepth 100000 in
theorem c_X6_isBeyond (l : Launch) (D : va_G) (cI cZ cO : ClassId)  (sz : Nat) (i0 : Int32) (n0 : Int64) (al : Int32)  (hnb : -2147483648 ≤ n0.toInt ∧ n0.toInt < 2147483648) : Met l yX6_isBeyond wsX6_isBeyond ({ frames := 0, cells := 0, slots := 0, locals := 0 }) (va_Pc [.int i0, .long n0, .int al] (st_W D (ty3 cI cZ cO) ([] : va_W) sz)) (va_Qi (fun (rr : Int32) (u : Unit) => (rr = nI 1 ∧ (i0.toInt < 0 ∨ n0.toInt < 0 ∨ al.toInt < i0.toInt + n0.toInt) ∨ rr = nI 0 ∧ ¬ (i0.toInt < 0 ∨ n0.toInt < 0 ∨ al.toInt < i0.toInt + n0.toInt))) (fun u t => at_W D (ty3 cI cZ cO) (va_A ([] : va_W) sz) ([] : va_W) t) (va_A ([] : va_W) sz)) 0 0 (va_A ([] : va_W) sz) := by
  refine Met.goi (cc := cX6_isBeyond) (maxL := 4) (ret := (some .boolean)) (by decide) rfl (Nat.le_of_ble_eq_true rfl) (fun p e s m below meth c A ls X hW hl => ?_)
  have hl : lv_has ls 4 [(0, .int i0), (1, .long n0), (3, .int al)] := hl
  refine x_iload_n X dX6_isBeyond_0 rfl (lv_at hl 0 rfl) ?_
  refine x_if_lt X 20 dX6_isBeyond_1 (by decide) (fun c1 => ?_) (fun c1 => ?_)
  · refine x_iconst (v := nI 1) X dX6_isBeyond_20 (by decide) ?_
    refine x_goto X 25 dX6_isBeyond_21 (by decide) ?_
    exact x_zret X hW rfl (Or.inr (by decide)) () (Or.inl ⟨rfl, by (try rw [i_lt, i_0] at c1); (try rw [lcmp_lt, l_0] at c7); (try rw [lcmp_le, add_w hnb, wide] at c17); omega⟩) rfl dX6_isBeyond_25
  · refine x_lload_n X dX6_isBeyond_4 rfl (lv_at hl 1 rfl) ?_
    refine x_lconst (v := 0) X dX6_isBeyond_5 (by decide) ?_
    refine x_lcmp X dX6_isBeyond_6 ?_
    refine x_if_lt X 20 dX6_isBeyond_7 (by decide) (fun c7 => ?_) (fun c7 => ?_)
    · refine x_iconst (v := nI 1) X dX6_isBeyond_20 (by decide) ?_
      refine x_goto X 25 dX6_isBeyond_21 (by decide) ?_
      exact x_zret X hW rfl (Or.inr (by decide)) () (Or.inl ⟨rfl, by (try rw [i_lt, i_0] at c1); (try rw [lcmp_lt, l_0] at c7); (try rw [lcmp_le, add_w hnb, wide] at c17); omega⟩) rfl dX6_isBeyond_25
    · refine x_iload_n X dX6_isBeyond_10 rfl (lv_at hl 0 rfl) ?_
      refine x_i2l (v := i0.toInt64) X dX6_isBeyond_11 rfl ?_
      refine x_lload_n X dX6_isBeyond_12 rfl (lv_at hl 1 rfl) ?_
      refine x_ladd (v := i0.toInt64 + n0) X dX6_isBeyond_13 rfl ?_
      refine x_iload_n X dX6_isBeyond_14 rfl (lv_at hl 2 rfl) ?_
      refine x_i2l (v := al.toInt64) X dX6_isBeyond_15 rfl ?_
      refine x_lcmp X dX6_isBeyond_16 ?_
      refine x_if_le X 24 dX6_isBeyond_17 (by decide) (fun c17 => ?_) (fun c17 => ?_)
      · refine x_iconst (v := nI 0) X dX6_isBeyond_24 (by decide) ?_
        exact x_zret X hW rfl (Or.inl (by decide)) () (Or.inr ⟨rfl, by (try rw [i_lt, i_0] at c1); (try rw [lcmp_lt, l_0] at c7); (try rw [lcmp_le, add_w hnb, wide] at c17); omega⟩) rfl dX6_isBeyond_25
      · refine x_iconst (v := nI 1) X dX6_isBeyond_20 (by decide) ?_
        refine x_goto X 25 dX6_isBeyond_21 (by decide) ?_
        exact x_zret X hW rfl (Or.inr (by decide)) () (Or.inl ⟨rfl, by (try rw [i_lt, i_0] at c1); (try rw [lcmp_lt, l_0] at c7); (try rw [lcmp_le, add_w hnb, wide] at c17); omega⟩) rfl dX6_isBeyond_25
set_option maxHeartbeats 4000000 in
set_option maxRecDepth 100000 in
theorem c_X6_cellsBarred (l : Launch) (D : va_G) (cI cZ cO : ClassId) (mq : Nat) (ma : Nat → Nat) (mg : Nat → Nat) (mh : Nat → Int32) (mF : Nat → Nat → Nat) (mE : Nat → Nat → Int32) (sz : Nat) (k : Nat) (lane : Int32) (i0 : Int32) (n0 : Int32) (th : Nat → Nat) (ct : Nat → Nat) (hk4 : k < 4) (hS : (th k = 0 ∧ mE 25 k = (-1 : Int32)) ∨ (th k = 1 ∧ mE 25 k = nI (ct k))) (hct : ct k ≤ 60) : Met l yX6_cellsBarred wsX6_cellsBarred ({ frames := 1, cells := 0, slots := 0, locals := 23 }) (va_Pc [.ref mq, .int (nI k), .int lane, .int i0, .long n0.toInt64] (st_W D (ty3 cI cZ cO) (wM cI cZ mq ma mg mh mF mE) sz)) (va_Qi (fun (rr : Int32) (u : Unit) => (rr = nI 0 ∧ (barF (th k) (mF 26 k) (ct k) lane i0 n0 = 0) ∨ rr = (-10 : Int32) - nI (barF (th k) (mF 26 k) (ct k) lane i0 n0) ∧ (barF (th k) (mF 26 k) (ct k) lane i0 n0 ≠ 0))) (fun u t => at_W D (ty3 cI cZ cO) (va_A (wM cI cZ mq ma mg mh mF mE) sz) (wM cI cZ mq ma (sF mg 0 (if barF (th k) (mF 26 k) (ct k) lane i0 n0 = 0 then mg 0 else barF (th k) (mF 26 k) (ct k) lane i0 n0)) mh mF mE) t) (va_A (wM cI cZ mq ma mg mh mF mE) sz)) 0 0 (va_A (wM cI cZ mq ma mg mh mF mE) sz) := by
  refine Met.goi (cc := cX6_cellsBarred) (maxL := 6) (ret := (some .int)) (by decide) rfl (Nat.le_of_ble_eq_true rfl) (fun p e s m below meth c A ls X hW hl => ?_)
  have hi6 : ∀ w ∈ wsX60, w ∈ wsX6_cellsBarred := fun w h => List.mem_cons_of_mem _ (List.mem_append_right _ h)
  have hl : lv_has ls 6 [(0, .ref mq), (1, .int (nI k)), (2, .int lane), (3, .int i0), (4, .long n0.toInt64)] := hl
  rcases hS with ⟨hst, hs⟩ | ⟨hst, hs⟩
  · have hsz : th k = 0 := hst
    refine x_aload_n X dX6_cellsBarred_0 rfl (lv_at hl 0 rfl) ?_
    refine x_get X hW (v := .ref (ma 25)) hi6 0 rfl rfl 25 (by decide) (List.mem_of_getElem? (i := 1) rfl) rfl rfl dX6_cellsBarred_1 ?_
    refine x_iload_n X dX6_cellsBarred_4 rfl (lv_at hl 1 rfl) ?_
    refine i_iald X hW (f := mE 25) 14 0 rfl rfl (by omega) (by decide) dX6_cellsBarred_5 ?_
    refine i_as0 (b := (-1 : Int32)) hs ?_
    refine x_if_lt X 25 dX6_cellsBarred_6 (by decide) (fun c6 => ?_) (fun c6 => by first | exact absurd c6 (by decide) | exact absurd (by decide) c6)
    refine x_aload_n X dX6_cellsBarred_25 rfl (lv_at hl 0 rfl) ?_
    refine x_get X hW (v := .ref (ma 25)) hi6 0 rfl rfl 25 (by decide) (List.mem_of_getElem? (i := 1) rfl) rfl rfl dX6_cellsBarred_26 ?_
    refine x_iload_n X dX6_cellsBarred_29 rfl (lv_at hl 1 rfl) ?_
    refine i_iald X hW (f := mE 25) 14 0 rfl rfl (by omega) (by decide) dX6_cellsBarred_30 ?_
    refine i_as0 (b := (-1 : Int32)) hs ?_
    refine x_if_ge X 40 dX6_cellsBarred_31 (by decide) (fun c31 => by first | exact absurd c31 (by decide) | exact absurd (by decide) c31) (fun c31 => ?_)
    refine x_aload_n X dX6_cellsBarred_34 rfl (lv_at hl 0 rfl) ?_
    refine x_iconst (v := nI 1) X dX6_cellsBarred_35 (by decide) ?_
    refine x_callVi0 X hW (As := [.int (nI 1)]) (rest := []) (c_X6_failed l D cI cZ cO mq ma mg mh mF mE _ 1) (cwV 1 X.2.2.2.2.2.1 gX6_cellsBarred_X6_failed rfl rfl rfl (by decide +kernel) ⟨Nat.le_of_ble_eq_true rfl, Nat.le_of_ble_eq_true rfl⟩) 0 5 rfl rfl rfl rfl hl.1 rfl (Nat.le_of_ble_eq_true rfl) ⟨Nat.le_of_ble_eq_true rfl, Nat.le_of_ble_eq_true rfl⟩ dX6_cellsBarred_36 (fun r1 u2 H locs w36 hW => ?_)
    have hW : Wd D A s.heap H locs (wM cI cZ mq ma (sF mg 0 1) mh mF mE) := hW
    replace w36 : r1 = (-10) - nI 1 := w36
    subst w36
    have eb : barF (th k) (mF 26 k) (ct k) lane i0 n0 = 1 := by
      (try rw [wide] at h62); (try rw [nI_toInt (by omega)] at h62); (try rw [lcmp_ge, wide, l_0] at c44); unfold barF; rw [hsz]
      first | rfl | (rw [if_neg (by decide)]; (repeat' split) <;> first | rfl | omega | contradiction)
    exact x_iret X hW rfl () (Or.inr ⟨by rw [eb], by rw [eb]; decide⟩) (congrArg (fun z => (wM cI cZ mq ma (sF mg 0 z) mh mF mE)) (show 1 = (if barF (th k) (mF 26 k) (ct k) lane i0 n0 = 0 then mg 0 else barF (th k) (mF 26 k) (ct k) lane i0 n0) from by rw [eb]; rfl)) dX6_cellsBarred_39
  · have hsz : th k = 1 := hst
    refine x_aload_n X dX6_cellsBarred_0 rfl (lv_at hl 0 rfl) ?_
    refine x_get X hW (v := .ref (ma 25)) hi6 0 rfl rfl 25 (by decide) (List.mem_of_getElem? (i := 1) rfl) rfl rfl dX6_cellsBarred_1 ?_
    refine x_iload_n X dX6_cellsBarred_4 rfl (lv_at hl 1 rfl) ?_
    refine i_iald X hW (f := mE 25) 14 0 rfl rfl (by omega) (by decide) dX6_cellsBarred_5 ?_
    refine i_as0 (b := nI (ct k)) hs ?_
    refine n_if_lt X 25 dX6_cellsBarred_6 (by decide) (by omega) ?_
    refine x_aload_n X dX6_cellsBarred_9 rfl (lv_at hl 0 rfl) ?_
    refine x_get X hW (v := .ref (ma 26)) hi6 0 rfl rfl 26 (by decide) (List.mem_of_getElem? (i := 2) rfl) rfl rfl dX6_cellsBarred_10 ?_
    refine x_iload_n X dX6_cellsBarred_13 rfl (lv_at hl 1 rfl) ?_
    refine n_iald X hW (f := mF 26) 15 0 rfl rfl (by omega) (by decide) dX6_cellsBarred_14 ?_
    refine x_iload_n X dX6_cellsBarred_15 rfl (lv_at hl 2 rfl) ?_
    refine x_icmp_eq X 25 dX6_cellsBarred_16 (by decide) (fun c16 => ?_) (fun c16 => ?_)
    · refine x_aload_n X dX6_cellsBarred_25 rfl (lv_at hl 0 rfl) ?_
      refine x_get X hW (v := .ref (ma 25)) hi6 0 rfl rfl 25 (by decide) (List.mem_of_getElem? (i := 1) rfl) rfl rfl dX6_cellsBarred_26 ?_
      refine x_iload_n X dX6_cellsBarred_29 rfl (lv_at hl 1 rfl) ?_
      refine i_iald X hW (f := mE 25) 14 0 rfl rfl (by omega) (by decide) dX6_cellsBarred_30 ?_
      refine i_as0 (b := nI (ct k)) hs ?_
      refine n_if_ge X 40 dX6_cellsBarred_31 (by decide) (by omega) ?_
      refine x_lload X dX6_cellsBarred_40 (lv_at hl 4 rfl) ?_
      refine x_lconst (v := 0) X dX6_cellsBarred_42 (by decide) ?_
      refine x_lcmp X dX6_cellsBarred_43 ?_
      refine x_if_ge X 53 dX6_cellsBarred_44 (by decide) (fun c44 => ?_) (fun c44 => ?_)
      · refine x_iload_n X dX6_cellsBarred_53 rfl (lv_at hl 3 rfl) ?_
        refine x_lload X dX6_cellsBarred_54 (lv_at hl 4 rfl) ?_
        refine x_aload_n X dX6_cellsBarred_56 rfl (lv_at hl 0 rfl) ?_
        refine x_get X hW (v := .ref (ma 25)) hi6 0 rfl rfl 25 (by decide) (List.mem_of_getElem? (i := 1) rfl) rfl rfl dX6_cellsBarred_57 ?_
        refine x_iload_n X dX6_cellsBarred_60 rfl (lv_at hl 1 rfl) ?_
        refine i_iald X hW (f := mE 25) 14 0 rfl rfl (by omega) (by decide) dX6_cellsBarred_61 ?_
        refine i_as0 (b := nI (ct k)) hs ?_
        refine x_callSie X hW (As := [.int i0, .long n0.toInt64, .int (nI (ct k))]) (rest := []) (c_X6_isBeyond l D cI cZ cO  _ i0 n0.toInt64 (nI (ct k)) (show -2147483648 ≤ n0.toInt64.toInt ∧ n0.toInt64.toInt < 2147483648 from (wrng n0))) (va_cwS 3 X.2.2.2.2.2.1 gX6_cellsBarred_X6_isBeyond rfl rfl rfl (by decide +kernel) ⟨Nat.le_of_ble_eq_true rfl, Nat.le_of_ble_eq_true rfl⟩) rfl hl.1 rfl (Nat.le_of_ble_eq_true rfl) ⟨Nat.le_of_ble_eq_true rfl, Nat.le_of_ble_eq_true rfl⟩ dX6_cellsBarred_62 (fun r3 u4 H locs w62 hW => ?_)
        have hW : Wd D A s.heap H locs (wM cI cZ mq ma mg mh mF mE) := hW
        replace w62 : (r3 = nI 1 ∧ (i0.toInt < 0 ∨ n0.toInt64.toInt < 0 ∨ (nI (ct k)).toInt < i0.toInt + n0.toInt64.toInt) ∨ r3 = nI 0 ∧ ¬ (i0.toInt < 0 ∨ n0.toInt64.toInt < 0 ∨ (nI (ct k)).toInt < i0.toInt + n0.toInt64.toInt)) := w62
        rcases w62 with ⟨w62, h62⟩ | ⟨w62, h62⟩
        · subst w62
          refine n_if_eq X 76 dX6_cellsBarred_65 (by decide) (by decide) (fun c65 => by exact absurd c65 (by decide)) (fun c65 => ?_)
          refine x_aload_n X dX6_cellsBarred_68 rfl (lv_at hl 0 rfl) ?_
          refine x_iconst (v := nI 3) X dX6_cellsBarred_69 (by decide) ?_
          refine x_callVi0 X hW (As := [.int (nI 3)]) (rest := []) (c_X6_failed l D cI cZ cO mq ma mg mh mF mE _ 3) (cwV 1 X.2.2.2.2.2.1 gX6_cellsBarred_X6_failed rfl rfl rfl (by decide +kernel) ⟨Nat.le_of_ble_eq_true rfl, Nat.le_of_ble_eq_true rfl⟩) 0 5 rfl rfl rfl rfl hl.1 rfl (Nat.le_of_ble_eq_true rfl) ⟨Nat.le_of_ble_eq_true rfl, Nat.le_of_ble_eq_true rfl⟩ dX6_cellsBarred_70 (fun r5 u6 H locs w70 hW => ?_)
          have hW : Wd D A s.heap H locs (wM cI cZ mq ma (sF mg 0 3) mh mF mE) := hW
          replace w70 : r5 = (-10) - nI 3 := w70
          subst w70
          refine x_goto X 77 dX6_cellsBarred_73 (by decide) ?_
          have eb : barF (th k) (mF 26 k) (ct k) lane i0 n0 = 3 := by
            (try rw [wide] at h62); (try rw [nI_toInt (by omega)] at h62); (try rw [lcmp_ge, wide, l_0] at c44); unfold barF; rw [hsz]
            first | rfl | (rw [if_neg (by decide)]; (repeat' split) <;> first | rfl | omega | contradiction)
          exact x_iret X hW rfl () (Or.inr ⟨by rw [eb], by rw [eb]; decide⟩) (congrArg (fun z => (wM cI cZ mq ma (sF mg 0 z) mh mF mE)) (show 3 = (if barF (th k) (mF 26 k) (ct k) lane i0 n0 = 0 then mg 0 else barF (th k) (mF 26 k) (ct k) lane i0 n0) from by rw [eb]; rfl)) dX6_cellsBarred_77
        · subst w62
          refine n_if_eq X 76 dX6_cellsBarred_65 (by decide) (by decide) (fun c65 => ?_) (fun c65 => by exact absurd c65 (by decide))
          refine x_iconst (v := nI 0) X dX6_cellsBarred_76 (by decide) ?_
          have eb : barF (th k) (mF 26 k) (ct k) lane i0 n0 = 0 := by
            (try rw [wide] at h62); (try rw [nI_toInt (by omega)] at h62); (try rw [lcmp_ge, wide, l_0] at c44); unfold barF; rw [hsz]
            first | rfl | (rw [if_neg (by decide)]; (repeat' split) <;> first | rfl | omega | contradiction)
          exact x_iret X hW rfl () (Or.inl ⟨rfl, eb⟩) (congrArg (fun z => (wM cI cZ mq ma (sF mg 0 z) mh mF mE)) (show (mg 0) = (if barF (th k) (mF 26 k) (ct k) lane i0 n0 = 0 then mg 0 else barF (th k) (mF 26 k) (ct k) lane i0 n0) from by rw [eb]; rfl)) dX6_cellsBarred_77
      · refine x_aload_n X dX6_cellsBarred_47 rfl (lv_at hl 0 rfl) ?_
        refine x_iconst (v := nI 4) X dX6_cellsBarred_48 (by decide) ?_
        refine x_callVi0 X hW (As := [.int (nI 4)]) (rest := []) (c_X6_failed l D cI cZ cO mq ma mg mh mF mE _ 4) (cwV 1 X.2.2.2.2.2.1 gX6_cellsBarred_X6_failed rfl rfl rfl (by decide +kernel) ⟨Nat.le_of_ble_eq_true rfl, Nat.le_of_ble_eq_true rfl⟩) 0 5 rfl rfl rfl rfl hl.1 rfl (Nat.le_of_ble_eq_true rfl) ⟨Nat.le_of_ble_eq_true rfl, Nat.le_of_ble_eq_true rfl⟩ dX6_cellsBarred_49 (fun r7 u8 H locs w49 hW => ?_)
        have hW : Wd D A s.heap H locs (wM cI cZ mq ma (sF mg 0 4) mh mF mE) := hW
        replace w49 : r7 = (-10) - nI 4 := w49
        subst w49
        have eb : barF (th k) (mF 26 k) (ct k) lane i0 n0 = 4 := by
          (try rw [wide] at h62); (try rw [nI_toInt (by omega)] at h62); (try rw [lcmp_ge, wide, l_0] at c44); unfold barF; rw [hsz]
          first | rfl | (rw [if_neg (by decide)]; (repeat' split) <;> first | rfl | omega | contradiction)
        exact x_iret X hW rfl () (Or.inr ⟨by rw [eb], by rw [eb]; decide⟩) (congrArg (fun z => (wM cI cZ mq ma (sF mg 0 z) mh mF mE)) (show 4 = (if barF (th k) (mF 26 k) (ct k) lane i0 n0 = 0 then mg 0 else barF (th k) (mF 26 k) (ct k) lane i0 n0) from by rw [eb]; rfl)) dX6_cellsBarred_52
    · refine x_aload_n X dX6_cellsBarred_19 rfl (lv_at hl 0 rfl) ?_
      refine x_iconst (v := nI 2) X dX6_cellsBarred_20 (by decide) ?_
      refine x_callVi0 X hW (As := [.int (nI 2)]) (rest := []) (c_X6_failed l D cI cZ cO mq ma mg mh mF mE _ 2) (cwV 1 X.2.2.2.2.2.1 gX6_cellsBarred_X6_failed rfl rfl rfl (by decide +kernel) ⟨Nat.le_of_ble_eq_true rfl, Nat.le_of_ble_eq_true rfl⟩) 0 5 rfl rfl rfl rfl hl.1 rfl (Nat.le_of_ble_eq_true rfl) ⟨Nat.le_of_ble_eq_true rfl, Nat.le_of_ble_eq_true rfl⟩ dX6_cellsBarred_21 (fun r9 u10 H locs w21 hW => ?_)
      have hW : Wd D A s.heap H locs (wM cI cZ mq ma (sF mg 0 2) mh mF mE) := hW
      replace w21 : r9 = (-10) - nI 2 := w21
      subst w21
      have eb : barF (th k) (mF 26 k) (ct k) lane i0 n0 = 2 := by
        (try rw [wide] at h62); (try rw [nI_toInt (by omega)] at h62); (try rw [lcmp_ge, wide, l_0] at c44); unfold barF; rw [hsz]
        first | rfl | (rw [if_neg (by decide)]; (repeat' split) <;> first | rfl | omega | contradiction)
      exact x_iret X hW rfl () (Or.inr ⟨by rw [eb], by rw [eb]; decide⟩) (congrArg (fun z => (wM cI cZ mq ma (sF mg 0 z) mh mF mE)) (show 2 = (if barF (th k) (mF 26 k) (ct k) lane i0 n0 = 0 then mg 0 else barF (th k) (mF 26 k) (ct k) lane i0 n0) from by rw [eb]; rfl)) dX6_cellsBarred_24
set_option maxHeartbeats 4000000 in
set_option maxRecDepth 100000 in
theorem c_X6_noCell (l : Launch) (D : va_G) (cI cZ cO : ClassId) (mq : Nat) (ma : Nat → Nat) (mg : Nat → Nat) (mh : Nat → Int32) (mF : Nat → Nat → Nat) (mE : Nat → Nat → Int32) (sz : Nat) (k : Nat) (i0 : Int32) (th : Nat → Nat) (ct : Nat → Nat) (hk4 : k < 4) (hS : (th k = 0 ∧ mE 25 k = (-1 : Int32)) ∨ (th k = 1 ∧ mE 25 k = nI (ct k))) (hct : ct k ≤ 60) : Met l yX6_noCell wsX6_noCell ({ frames := 1, cells := 0, slots := 0, locals := 25 }) (va_Pc [.ref mq, .int (nI k), .int i0] (st_W D (ty3 cI cZ cO) (wM cI cZ mq ma mg mh mF mE) sz)) (va_Qi (fun (rr : Int32) (u : Unit) => rr = nI (cellF (th k) (ct k) i0)) (fun u t => at_W D (ty3 cI cZ cO) (va_A (wM cI cZ mq ma mg mh mF mE) sz) (wM cI cZ mq ma mg mh mF mE) t) (va_A (wM cI cZ mq ma mg mh mF mE) sz)) 0 0 (va_A (wM cI cZ mq ma mg mh mF mE) sz) := by
  refine Met.goi (cc := cX6_noCell) (maxL := 3) (ret := (some .int)) (by decide) rfl (Nat.le_of_ble_eq_true rfl) (fun p e s m below meth c A ls X hW hl => ?_)
  have hi6 : ∀ w ∈ wsX60, w ∈ wsX6_noCell := fun w h => List.mem_cons_of_mem _ (List.mem_append_right _ h)
  have hl : lv_has ls 3 [(0, .ref mq), (1, .int (nI k)), (2, .int i0)] := hl
  rcases hS with ⟨hst, hs⟩ | ⟨hst, hs⟩
  · have hsz : th k = 0 := hst
    refine x_aload_n X dX6_noCell_0 rfl (lv_at hl 0 rfl) ?_
    refine x_get X hW (v := .ref (ma 25)) hi6 0 rfl rfl 25 (by decide) (List.mem_of_getElem? (i := 1) rfl) rfl rfl dX6_noCell_1 ?_
    refine x_iload_n X dX6_noCell_4 rfl (lv_at hl 1 rfl) ?_
    refine i_iald X hW (f := mE 25) 14 0 rfl rfl (by omega) (by decide) dX6_noCell_5 ?_
    refine i_as0 (b := (-1 : Int32)) hs ?_
    refine x_if_ge X 13 dX6_noCell_6 (by decide) (fun c6 => by first | exact absurd c6 (by decide) | exact absurd (by decide) c6) (fun c6 => ?_)
    refine x_iconst (v := nI 1) X dX6_noCell_9 (by decide) ?_
    refine x_goto X 36 dX6_noCell_10 (by decide) ?_
    exact x_iret X hW rfl () ((congrArg nI (show 1 = cellF (th k) (ct k) i0 from by unfold cellF; rw [hsz]; first | rfl | (rw [if_neg (by decide)]; first | rw [if_pos gi] | rw [if_neg gi])))) rfl dX6_noCell_36
  · have hsz : th k = 1 := hst
    refine x_aload_n X dX6_noCell_0 rfl (lv_at hl 0 rfl) ?_
    refine x_get X hW (v := .ref (ma 25)) hi6 0 rfl rfl 25 (by decide) (List.mem_of_getElem? (i := 1) rfl) rfl rfl dX6_noCell_1 ?_
    refine x_iload_n X dX6_noCell_4 rfl (lv_at hl 1 rfl) ?_
    refine i_iald X hW (f := mE 25) 14 0 rfl rfl (by omega) (by decide) dX6_noCell_5 ?_
    refine i_as0 (b := nI (ct k)) hs ?_
    refine n_if_ge X 13 dX6_noCell_6 (by decide) (by omega) ?_
    refine x_iload_n X dX6_noCell_13 rfl (lv_at hl 2 rfl) ?_
    refine x_i2l (v := i0.toInt64) X dX6_noCell_14 rfl ?_
    refine x_lconst (v := 0) X dX6_noCell_15 (by decide) ?_
    refine x_aload_n X dX6_noCell_16 rfl (lv_at hl 0 rfl) ?_
    refine x_get X hW (v := .ref (ma 25)) hi6 0 rfl rfl 25 (by decide) (List.mem_of_getElem? (i := 1) rfl) rfl rfl dX6_noCell_17 ?_
    refine x_iload_n X dX6_noCell_20 rfl (lv_at hl 1 rfl) ?_
    refine i_iald X hW (f := mE 25) 14 0 rfl rfl (by omega) (by decide) dX6_noCell_21 ?_
    refine i_as0 (b := nI (ct k)) hs ?_
    refine x_i2l (v := (nI (ct k)).toInt64) X dX6_noCell_22 rfl ?_
    refine x_lconst (v := 1) X dX6_noCell_23 (by decide) ?_
    refine x_lsub (v := ((nI (ct k)).toInt64) - (1 : Int64)) X dX6_noCell_24 rfl ?_
    refine x_callSie X hW (As := [.long i0.toInt64, .long (0 : Int64), .long (((nI (ct k)).toInt64) - (1 : Int64))]) (rest := []) (c_X6_in l D cI cZ cO  _ i0.toInt64 (0 : Int64) (((nI (ct k)).toInt64) - (1 : Int64))) (va_cwS 3 X.2.2.2.2.2.1 gX6_noCell_X6_in rfl rfl rfl (by decide +kernel) ⟨Nat.le_of_ble_eq_true rfl, Nat.le_of_ble_eq_true rfl⟩) rfl hl.1 rfl (Nat.le_of_ble_eq_true rfl) ⟨Nat.le_of_ble_eq_true rfl, Nat.le_of_ble_eq_true rfl⟩ dX6_noCell_25 (fun r1 u2 H locs w25 hW => ?_)
    have hW : Wd D A s.heap H locs (wM cI cZ mq ma mg mh mF mE) := hW
    replace w25 : (r1 = nI 1 ∧ ((0 : Int64).toInt ≤ i0.toInt64.toInt ∧ i0.toInt64.toInt ≤ (((nI (ct k)).toInt64) - (1 : Int64)).toInt) ∨ r1 = nI 0 ∧ ¬ ((0 : Int64).toInt ≤ i0.toInt64.toInt ∧ i0.toInt64.toInt ≤ (((nI (ct k)).toInt64) - (1 : Int64)).toInt)) := w25
    rcases w25 with ⟨w25, h25⟩ | ⟨w25, h25⟩
    · subst w25
      have gi := (in_iff (r := i0) (n := ct k) l_0 (hi_sub (k := 1) (m := 1) (by omega) (by decide) (by decide))).mp h25
      refine n_if_eq X 35 dX6_noCell_28 (by decide) (by decide) (fun c28 => by exact absurd c28 (by decide)) (fun c28 => ?_)
      refine x_iconst (v := nI 0) X dX6_noCell_31 (by decide) ?_
      refine x_goto X 36 dX6_noCell_32 (by decide) ?_
      exact x_iret X hW rfl () ((congrArg nI (show 0 = cellF (th k) (ct k) i0 from by unfold cellF; rw [hsz]; first | rfl | (rw [if_neg (by decide)]; first | rw [if_pos gi] | rw [if_neg gi])))) rfl dX6_noCell_36
    · subst w25
      have gi := fun q => h25 ((in_iff (r := i0) (n := ct k) l_0 (hi_sub (k := 1) (m := 1) (by omega) (by decide) (by decide))).mpr q)
      refine n_if_eq X 35 dX6_noCell_28 (by decide) (by decide) (fun c28 => ?_) (fun c28 => by exact absurd c28 (by decide))
      refine x_iconst (v := nI 3) X dX6_noCell_35 (by decide) ?_
      exact x_iret X hW rfl () ((congrArg nI (show 3 = cellF (th k) (ct k) i0 from by unfold cellF; rw [hsz]; first | rfl | (rw [if_neg (by decide)]; first | rw [if_pos gi] | rw [if_neg gi])))) rfl dX6_noCell_36
set_option maxHeartbeats 4000000 in
set_option maxRecDepth 100000 in
theorem c_X6_sheet (l : Launch) (D : va_G) (cI cZ cO : ClassId) (mq : Nat) (ma : Nat → Nat) (mg : Nat → Nat) (mh : Nat → Int32) (mF : Nat → Nat → Nat) (mE : Nat → Nat → Int32) (sz : Nat) (k0 : Int32) (lane : Int32) (n0 : Int32)   : Met l yX6_sheet wsX6_sheet ({ frames := 2, cells := 0, slots := 0, locals := 45 }) (va_Pc [.ref mq, .int k0, .int lane, .int n0] (st_W D (ty3 cI cZ cO) (wM cI cZ mq ma mg mh mF mE) sz)) (va_Qi (fun (rr : Int32) (u : Unit) => rr = aSheet k0 lane n0) (fun u t => at_W D (ty3 cI cZ cO) (va_A (wM cI cZ mq ma mg mh mF mE) sz) (wM cI cZ mq ma (sF mg 0 (fSheet k0 lane n0)) mh (sF mF 26 (sSheet k0 lane n0 (mF 26) (fun j ln _ => sF (mF 26) j ln))) (sF (sF mE 25 (sSheet k0 lane n0 (mE 25) (fun j _ m => sF (mE 25) j (nI m)))) 27 (sSheet k0 lane n0 (mE 27) (fun j _ m => zr (mE 27) (60 * j) m)))) t) (va_A (wM cI cZ mq ma mg mh mF mE) sz)) 0 0 (va_A (wM cI cZ mq ma mg mh mF mE) sz) := by
  refine Met.goi (cc := cX6_sheet) (maxL := 5) (ret := (some .int)) (by decide) rfl (Nat.le_of_ble_eq_true rfl) (fun p e s m below meth c A ls X hW hl => ?_)
  have hi6 : ∀ w ∈ wsX60, w ∈ wsX6_sheet := fun w h => List.mem_cons_of_mem _ (List.mem_append_right _ h)
  have hl : lv_has ls 5 [(0, .ref mq), (1, .int k0), (2, .int lane), (3, .int n0)] := hl
  refine x_iload_n X dX6_sheet_0 rfl (lv_at hl 1 rfl) ?_
  refine x_callSie X hW (As := [.int k0]) (rest := []) (c_X6_noSheet l D cI cZ cO  _ k0) (va_cwS 1 X.2.2.2.2.2.1 gX6_sheet_X6_noSheet rfl rfl rfl (by decide +kernel) ⟨Nat.le_of_ble_eq_true rfl, Nat.le_of_ble_eq_true rfl⟩) rfl hl.1 rfl (Nat.le_of_ble_eq_true rfl) ⟨Nat.le_of_ble_eq_true rfl, Nat.le_of_ble_eq_true rfl⟩ dX6_sheet_1 (fun r1 u2 H locs w1 hW => ?_)
  have hW : Wd D A s.heap H locs (wM cI cZ mq ma mg mh mF mE) := hW
  replace w1 : (r1 = nI 1 ∧ (¬ inR k0 4) ∨ r1 = nI 0 ∧ ¬ (¬ inR k0 4)) := w1
  rcases w1 with ⟨w1, h1⟩ | ⟨w1, h1⟩
  · subst w1
    have gk0 := h1
    refine n_if_eq X 13 dX6_sheet_4 (by decide) (by decide) (fun c4 => by exact absurd c4 (by decide)) (fun c4 => ?_)
    refine x_aload_n X dX6_sheet_7 rfl (lv_at hl 0 rfl) ?_
    refine x_iconst (v := (-1 : Int32)) X dX6_sheet_8 (by decide) ?_
    refine x_callVi0 X hW (As := [.int (-1 : Int32)]) (rest := []) (c_X6_refused l D cI cZ cO mq ma mg mh mF mE _ (-1 : Int32)) (cwV 1 X.2.2.2.2.2.1 gX6_sheet_X6_refused rfl rfl rfl (by decide +kernel) ⟨Nat.le_of_ble_eq_true rfl, Nat.le_of_ble_eq_true rfl⟩) 0 5 rfl rfl rfl rfl hl.1 rfl (Nat.le_of_ble_eq_true rfl) ⟨Nat.le_of_ble_eq_true rfl, Nat.le_of_ble_eq_true rfl⟩ dX6_sheet_9 (fun r3 u4 H locs w9 hW => ?_)
    have hW : Wd D A s.heap H locs (wM cI cZ mq ma (sF mg 0 0) mh mF mE) := hW
    replace w9 : r3 = (-1 : Int32) := w9
    subst w9
    exact x_iret X hW rfl () ((by unfold aSheet; (try rw [onR_out gk0]); (try rfl))) (Eq.trans (Eq.trans (Eq.trans (congrArg (fun z => (wM cI cZ mq ma (sF mg 0 z) mh mF mE)) (show 0 = (fSheet k0 lane n0) from by unfold fSheet; (try rw [onR_out gk0]); (try rfl))) (congrArg (fun z => (wM cI cZ mq ma (sF mg 0 (fSheet k0 lane n0)) mh mF (sF mE 25 z))) (show (mE 25) = (sSheet k0 lane n0 (mE 25) (fun j _ m => sF (mE 25) j (nI m))) from by unfold sSheet; (try rw [onR_out gk0]); (try rfl)))) (congrArg (fun z => (wM cI cZ mq ma (sF mg 0 (fSheet k0 lane n0)) mh (sF mF 26 z) (sF mE 25 (sSheet k0 lane n0 (mE 25) (fun j _ m => sF (mE 25) j (nI m)))))) (show (mF 26) = (sSheet k0 lane n0 (mF 26) (fun j ln _ => sF (mF 26) j ln)) from by unfold sSheet; (try rw [onR_out gk0]); (try rfl)))) (congrArg (fun z => (wM cI cZ mq ma (sF mg 0 (fSheet k0 lane n0)) mh (sF mF 26 (sSheet k0 lane n0 (mF 26) (fun j ln _ => sF (mF 26) j ln))) (sF (sF mE 25 (sSheet k0 lane n0 (mE 25) (fun j _ m => sF (mE 25) j (nI m)))) 27 z))) (show (mE 27) = (sSheet k0 lane n0 (mE 27) (fun j _ m => zr (mE 27) (60 * j) m)) from by unfold sSheet; (try rw [onR_out gk0]); (try rfl)))) dX6_sheet_12
  · subst w1
    obtain ⟨k, hk, rfl⟩ := inR_ex (Classical.not_not.mp h1) (by omega)
    refine n_if_eq X 13 dX6_sheet_4 (by decide) (by decide) (fun c4 => ?_) (fun c4 => by exact absurd c4 (by decide))
    refine x_iload_n X dX6_sheet_13 rfl (lv_at hl 2 rfl) ?_
    refine x_i2l (v := lane.toInt64) X dX6_sheet_14 rfl ?_
    refine x_lconst (v := 0) X dX6_sheet_15 (by decide) ?_
    refine x_ldc2 (v := (2)) X (List.mem_of_getElem? (i := 1) rfl) dX6_sheet_16 ?_
    refine x_callSie X hW (As := [.long lane.toInt64, .long (0 : Int64), .long (2 : Int64)]) (rest := []) (c_X6_in l D cI cZ cO  _ lane.toInt64 (0 : Int64) (2 : Int64)) (va_cwS 3 X.2.2.2.2.2.1 gX6_sheet_X6_in rfl rfl rfl (by decide +kernel) ⟨Nat.le_of_ble_eq_true rfl, Nat.le_of_ble_eq_true rfl⟩) rfl hl.1 rfl (Nat.le_of_ble_eq_true rfl) ⟨Nat.le_of_ble_eq_true rfl, Nat.le_of_ble_eq_true rfl⟩ dX6_sheet_19 (fun r5 u6 H locs w19 hW => ?_)
    have hW : Wd D A s.heap H locs (wM cI cZ mq ma mg mh mF mE) := hW
    replace w19 : (r5 = nI 1 ∧ ((0 : Int64).toInt ≤ lane.toInt64.toInt ∧ lane.toInt64.toInt ≤ (2 : Int64).toInt) ∨ r5 = nI 0 ∧ ¬ ((0 : Int64).toInt ≤ lane.toInt64.toInt ∧ lane.toInt64.toInt ≤ (2 : Int64).toInt)) := w19
    rcases w19 with ⟨w19, h19⟩ | ⟨w19, h19⟩
    · subst w19
      obtain ⟨ln, hln, rfl⟩ := inR_ex ((in_iff (r := lane) (n := 3) l_0 (by decide)).mp h19) (by omega)
      refine n_if_eq X 31 dX6_sheet_22 (by decide) (by decide) (fun c22 => by exact absurd c22 (by decide)) (fun c22 => ?_)
      refine x_iload_n X dX6_sheet_25 rfl (lv_at hl 3 rfl) ?_
      refine x_bipush (v := nI 60) X dX6_sheet_26 (by decide) ?_
      refine x_icmp_le X 38 dX6_sheet_28 (by decide) (fun c28 => ?_) (fun c28 => ?_)
      · refine x_iload_n X dX6_sheet_38 rfl (lv_at hl 3 rfl) ?_
        refine x_if_ge X 48 dX6_sheet_39 (by decide) (fun c39 => ?_) (fun c39 => ?_)
        · obtain ⟨n, hn, rfl⟩ := inR_ex (x := n0) (n := 61) (by have z := c39; have z2 := c28; rw [i_le, i_0] at z; rw [i_le, nI_toInt (by decide)] at z2; constructor <;> omega) (by decide)
          refine x_aload_n X dX6_sheet_48 rfl (lv_at hl 0 rfl) ?_
          refine x_get X hW (v := .ref (ma 25)) hi6 0 rfl rfl 25 (by decide) (List.mem_of_getElem? (i := 2) rfl) rfl rfl dX6_sheet_49 ?_
          refine x_iload_n X dX6_sheet_52 rfl (lv_at hl 1 rfl) ?_
          refine x_iload_n X dX6_sheet_53 rfl (lv_at hl 3 rfl) ?_
          refine i_iast X hW (f := mE 25) 14 0 rfl rfl (by omega) (by decide) dX6_sheet_54 (wM cI cZ mq ma mg mh mF (sF mE 25 (sF (mE 25) k (nI n)))) rfl (fun H locs hW => ?_)
          refine x_aload_n X dX6_sheet_55 rfl (lv_at hl 0 rfl) ?_
          refine x_get X hW (v := .ref (ma 26)) hi6 0 rfl rfl 26 (by decide) (List.mem_of_getElem? (i := 3) rfl) rfl rfl dX6_sheet_56 ?_
          refine x_iload_n X dX6_sheet_59 rfl (lv_at hl 1 rfl) ?_
          refine x_iload_n X dX6_sheet_60 rfl (lv_at hl 2 rfl) ?_
          refine n_iast X hW (f := mF 26) 15 0 rfl rfl (by omega) (by decide) dX6_sheet_61 (wM cI cZ mq ma mg mh (sF mF 26 (sF (mF 26) k ln)) (sF mE 25 (sF (mE 25) k (nI n)))) rfl (fun H locs hW => ?_)
          refine x_iconst (v := nI 0) X dX6_sheet_62 (by decide) ?_
          refine x_istore X [(4, .int (nI 0)), (0, .ref mq), (1, .int (nI k)), (2, .int (nI ln)), (3, .int (nI n))] dX6_sheet_63 hl (by decide) rfl (fun ls hl => ?_)
          refine W.loop (σ := (Nat)) (fun u H locs ls => (u ≤ n) ∧ Wd D A s.heap H locs (wM cI cZ mq ma mg mh (sF mF 26 (sF (mF 26) k ln)) (sF (sF mE 25 (sF (mE 25) k (nI n))) 27 (zr (mE 27) (60 * k) u))) ∧ lv_has ls 5 [(4, .int (nI u)), (0, .ref mq), (1, .int (nI k)), (2, .int (nI ln)), (3, .int (nI n))]) (fun u => n - u) (fun u H locs ls hI ih => ?_) 0 ⟨(show 0 ≤ n from (by omega)), (hW.eq (congrArg (fun z => (wM cI cZ mq ma mg mh (sF mF 26 (sF (mF 26) k ln)) (sF (sF mE 25 (sF (mE 25) k (nI n))) 27 z))) (show (mE 27) = (zr (mE 27) (60 * k) 0) from by first | exact zr_0 _ _ | exact zr_s _ _ _))), hl⟩
          obtain ⟨x, xe⟩ : ∃ z, z = u := ⟨_, rfl⟩
          subst xe
          obtain ⟨hv, hW, hl⟩ := hI
          have hv : x ≤ n := hv
          have hW : Wd D A s.heap H locs (wM cI cZ mq ma mg mh (sF mF 26 (sF (mF 26) k ln)) (sF (sF mE 25 (sF (mE 25) k (nI n))) 27 (zr (mE 27) (60 * k) x))) := hW
          have hl : lv_has ls 5 [(4, .int (nI x)), (0, .ref mq), (1, .int (nI k)), (2, .int (nI ln)), (3, .int (nI n))] := hl
          have ih65 := ih
          refine x_iload X dX6_sheet_65 (lv_at hl 0 rfl) ?_
          refine x_iload_n X dX6_sheet_67 rfl (lv_at hl 4 rfl) ?_
          refine n_icmp_ge X 90 dX6_sheet_68 (by decide) (by omega) (by omega) (fun c68 => ?_) (fun c68 => ?_)
          · have ex : x = n := by omega
            subst ex
            refine x_aload_n X dX6_sheet_90 rfl (lv_at hl 1 rfl) ?_
            refine x_iconst (v := nI 1) X dX6_sheet_91 (by decide) ?_
            refine x_callVi0 X hW (As := [.int (nI 1)]) (rest := []) (c_X6_refused l D cI cZ cO mq ma mg mh (sF mF 26 (sF (mF 26) k ln)) (sF (sF mE 25 (sF (mE 25) k (nI x))) 27 (zr (mE 27) (60 * k) x)) _ (nI 1)) (cwV 1 X.2.2.2.2.2.1 gX6_sheet_X6_refused rfl rfl rfl (by decide +kernel) ⟨Nat.le_of_ble_eq_true rfl, Nat.le_of_ble_eq_true rfl⟩) 0 5 rfl rfl rfl rfl hl.1 rfl (Nat.le_of_ble_eq_true rfl) ⟨Nat.le_of_ble_eq_true rfl, Nat.le_of_ble_eq_true rfl⟩ dX6_sheet_92 (fun r7 u8 H locs w92 hW => ?_)
            have hW : Wd D A s.heap H locs (wM cI cZ mq ma (sF mg 0 0) mh (sF mF 26 (sF (mF 26) k ln)) (sF (sF mE 25 (sF (mE 25) k (nI x))) 27 (zr (mE 27) (60 * k) x))) := hW
            replace w92 : r7 = (nI 1) := w92
            subst w92
            exact x_iret X hW rfl () ((by unfold aSheet; (try rw [onR_in hk (by omega)]); (try rw [onR_in hln (by omega)]); (try rw [onR_in hn (by decide)]); (try rfl))) (Eq.trans (Eq.trans (Eq.trans (congrArg (fun z => (wM cI cZ mq ma (sF mg 0 z) mh (sF mF 26 (sF (mF 26) k ln)) (sF (sF mE 25 (sF (mE 25) k (nI x))) 27 (zr (mE 27) (60 * k) x)))) (show 0 = (fSheet (nI k) (nI ln) (nI x)) from by unfold fSheet; (try rw [onR_in hk (by omega)]); (try rw [onR_in hln (by omega)]); (try rw [onR_in hn (by decide)]); (try rfl))) (congrArg (fun z => (wM cI cZ mq ma (sF mg 0 (fSheet (nI k) (nI ln) (nI x))) mh (sF mF 26 (sF (mF 26) k ln)) (sF (sF mE 25 z) 27 (zr (mE 27) (60 * k) x)))) (show (sF (mE 25) k (nI x)) = (sSheet (nI k) (nI ln) (nI x) (mE 25) (fun j _ m => sF (mE 25) j (nI m))) from by unfold sSheet; (try rw [onR_in hk (by omega)]); (try rw [onR_in hln (by omega)]); (try rw [onR_in hn (by decide)]); (try rfl)))) (congrArg (fun z => (wM cI cZ mq ma (sF mg 0 (fSheet (nI k) (nI ln) (nI x))) mh (sF mF 26 z) (sF (sF mE 25 (sSheet (nI k) (nI ln) (nI x) (mE 25) (fun j _ m => sF (mE 25) j (nI m)))) 27 (zr (mE 27) (60 * k) x)))) (show (sF (mF 26) k ln) = (sSheet (nI k) (nI ln) (nI x) (mF 26) (fun j ln _ => sF (mF 26) j ln)) from by unfold sSheet; (try rw [onR_in hk (by omega)]); (try rw [onR_in hln (by omega)]); (try rw [onR_in hn (by decide)]); (try rfl)))) (congrArg (fun z => (wM cI cZ mq ma (sF mg 0 (fSheet (nI k) (nI ln) (nI x))) mh (sF mF 26 (sSheet (nI k) (nI ln) (nI x) (mF 26) (fun j ln _ => sF (mF 26) j ln))) (sF (sF mE 25 (sSheet (nI k) (nI ln) (nI x) (mE 25) (fun j _ m => sF (mE 25) j (nI m)))) 27 z))) (show (zr (mE 27) (60 * k) x) = (sSheet (nI k) (nI ln) (nI x) (mE 27) (fun j _ m => zr (mE 27) (60 * j) m)) from by unfold sSheet; (try rw [onR_in hk (by omega)]); (try rw [onR_in hln (by omega)]); (try rw [onR_in hn (by decide)]); (try rfl)))) dX6_sheet_95
          · refine x_aload_n X dX6_sheet_71 rfl (lv_at hl 1 rfl) ?_
            refine x_get X hW (v := .ref (ma 27)) hi6 0 rfl rfl 27 (by decide) (List.mem_of_getElem? (i := 4) rfl) rfl rfl dX6_sheet_72 ?_
            refine x_bipush (v := nI 60) X dX6_sheet_75 (by decide) ?_
            refine x_iload_n X dX6_sheet_77 rfl (lv_at hl 2 rfl) ?_
            refine n_imul X dX6_sheet_78 ?_
            refine x_iload X dX6_sheet_79 (lv_at hl 0 rfl) ?_
            refine n_iadd X dX6_sheet_81 ?_
            refine x_iconst (v := nI 0) X dX6_sheet_82 (by decide) ?_
            refine i_iast X hW (f := zr (mE 27) (60 * k) x) 16 0 rfl rfl (by omega) (by decide) dX6_sheet_83 (wM cI cZ mq ma mg mh (sF mF 26 (sF (mF 26) k ln)) (sF (sF mE 25 (sF (mE 25) k (nI n))) 27 (sF (zr (mE 27) (60 * k) x) ((60 * k) + x) (nI 0)))) rfl (fun H locs hW => ?_)
            refine x_iinc X [(4, .int (nI (x + 1))), (0, .ref mq), (1, .int (nI k)), (2, .int (nI ln)), (3, .int (nI n))] (k := 0) dX6_sheet_84 hl rfl (nI_inc1 x) (by decide) rfl (fun ls hl => ?_)
            refine x_goto X 65 dX6_sheet_87 (by decide) ?_
            exact ih65 (x + 1) _ _ _ ⟨(show (x + 1) ≤ n from (by omega)), (hW.eq (congrArg (fun z => (wM cI cZ mq ma mg mh (sF mF 26 (sF (mF 26) k ln)) (sF (sF mE 25 (sF (mE 25) k (nI n))) 27 z))) (show (sF (zr (mE 27) (60 * k) x) ((60 * k) + x) (nI 0)) = (zr (mE 27) (60 * k) (x + 1)) from by first | exact zr_0 _ _ | exact zr_s _ _ _))), lv_sub hl [0, 1, 2, 3, 4] rfl⟩ (by omega)
        · have gn : n0.toInt < 0 := by have z := c39; rw [i_le, i_0] at z; omega
          refine x_aload_n X dX6_sheet_42 rfl (lv_at hl 0 rfl) ?_
          refine x_iconst (v := nI 4) X dX6_sheet_43 (by decide) ?_
          refine x_callVi0 X hW (As := [.int (nI 4)]) (rest := []) (c_X6_failed l D cI cZ cO mq ma mg mh mF mE _ 4) (cwV 1 X.2.2.2.2.2.1 gX6_sheet_X6_failed rfl rfl rfl (by decide +kernel) ⟨Nat.le_of_ble_eq_true rfl, Nat.le_of_ble_eq_true rfl⟩) 0 5 rfl rfl rfl rfl hl.1 rfl (Nat.le_of_ble_eq_true rfl) ⟨Nat.le_of_ble_eq_true rfl, Nat.le_of_ble_eq_true rfl⟩ dX6_sheet_44 (fun r9 u10 H locs w44 hW => ?_)
          have hW : Wd D A s.heap H locs (wM cI cZ mq ma (sF mg 0 4) mh mF mE) := hW
          replace w44 : r9 = (-10) - nI 4 := w44
          subst w44
          exact x_iret X hW rfl () ((by unfold aSheet; (try rw [onR_in hk (by omega)]); (try rw [onR_in hln (by omega)]); (try rw [onR_out (by intro q; omega)]); (try rw [if_neg (by omega)]); (try rfl))) (Eq.trans (Eq.trans (Eq.trans (congrArg (fun z => (wM cI cZ mq ma (sF mg 0 z) mh mF mE)) (show 4 = (fSheet (nI k) (nI ln) n0) from by unfold fSheet; (try rw [onR_in hk (by omega)]); (try rw [onR_in hln (by omega)]); (try rw [onR_out (by intro q; omega)]); (try rw [if_neg (by omega)]); (try rfl))) (congrArg (fun z => (wM cI cZ mq ma (sF mg 0 (fSheet (nI k) (nI ln) n0)) mh mF (sF mE 25 z))) (show (mE 25) = (sSheet (nI k) (nI ln) n0 (mE 25) (fun j _ m => sF (mE 25) j (nI m))) from by unfold sSheet; (try rw [onR_in hk (by omega)]); (try rw [onR_in hln (by omega)]); (try rw [onR_out (by intro q; omega)]); (try rw [if_neg (by omega)]); (try rfl)))) (congrArg (fun z => (wM cI cZ mq ma (sF mg 0 (fSheet (nI k) (nI ln) n0)) mh (sF mF 26 z) (sF mE 25 (sSheet (nI k) (nI ln) n0 (mE 25) (fun j _ m => sF (mE 25) j (nI m)))))) (show (mF 26) = (sSheet (nI k) (nI ln) n0 (mF 26) (fun j ln _ => sF (mF 26) j ln)) from by unfold sSheet; (try rw [onR_in hk (by omega)]); (try rw [onR_in hln (by omega)]); (try rw [onR_out (by intro q; omega)]); (try rw [if_neg (by omega)]); (try rfl)))) (congrArg (fun z => (wM cI cZ mq ma (sF mg 0 (fSheet (nI k) (nI ln) n0)) mh (sF mF 26 (sSheet (nI k) (nI ln) n0 (mF 26) (fun j ln _ => sF (mF 26) j ln))) (sF (sF mE 25 (sSheet (nI k) (nI ln) n0 (mE 25) (fun j _ m => sF (mE 25) j (nI m)))) 27 z))) (show (mE 27) = (sSheet (nI k) (nI ln) n0 (mE 27) (fun j _ m => zr (mE 27) (60 * j) m)) from by unfold sSheet; (try rw [onR_in hk (by omega)]); (try rw [onR_in hln (by omega)]); (try rw [onR_out (by intro q; omega)]); (try rw [if_neg (by omega)]); (try rfl)))) dX6_sheet_47
      · have gn : 60 < n0.toInt := by have z := c28; rw [i_le, nI_toInt (by decide)] at z; omega
        refine x_aload_n X dX6_sheet_31 rfl (lv_at hl 0 rfl) ?_
        refine x_bipush (v := (-2 : Int32)) X dX6_sheet_32 (by decide) ?_
        refine x_callVi0 X hW (As := [.int (-2 : Int32)]) (rest := []) (c_X6_refused l D cI cZ cO mq ma mg mh mF mE _ (-2 : Int32)) (cwV 1 X.2.2.2.2.2.1 gX6_sheet_X6_refused rfl rfl rfl (by decide +kernel) ⟨Nat.le_of_ble_eq_true rfl, Nat.le_of_ble_eq_true rfl⟩) 0 5 rfl rfl rfl rfl hl.1 rfl (Nat.le_of_ble_eq_true rfl) ⟨Nat.le_of_ble_eq_true rfl, Nat.le_of_ble_eq_true rfl⟩ dX6_sheet_34 (fun r11 u12 H locs w34 hW => ?_)
        have hW : Wd D A s.heap H locs (wM cI cZ mq ma (sF mg 0 0) mh mF mE) := hW
        replace w34 : r11 = (-2 : Int32) := w34
        subst w34
        exact x_iret X hW rfl () ((by unfold aSheet; (try rw [onR_in hk (by omega)]); (try rw [onR_in hln (by omega)]); (try rw [onR_out (by intro q; omega)]); (try rw [if_pos gn]); (try rfl))) (Eq.trans (Eq.trans (Eq.trans (congrArg (fun z => (wM cI cZ mq ma (sF mg 0 z) mh mF mE)) (show 0 = (fSheet (nI k) (nI ln) n0) from by unfold fSheet; (try rw [onR_in hk (by omega)]); (try rw [onR_in hln (by omega)]); (try rw [onR_out (by intro q; omega)]); (try rw [if_pos gn]); (try rfl))) (congrArg (fun z => (wM cI cZ mq ma (sF mg 0 (fSheet (nI k) (nI ln) n0)) mh mF (sF mE 25 z))) (show (mE 25) = (sSheet (nI k) (nI ln) n0 (mE 25) (fun j _ m => sF (mE 25) j (nI m))) from by unfold sSheet; (try rw [onR_in hk (by omega)]); (try rw [onR_in hln (by omega)]); (try rw [onR_out (by intro q; omega)]); (try rw [if_pos gn]); (try rfl)))) (congrArg (fun z => (wM cI cZ mq ma (sF mg 0 (fSheet (nI k) (nI ln) n0)) mh (sF mF 26 z) (sF mE 25 (sSheet (nI k) (nI ln) n0 (mE 25) (fun j _ m => sF (mE 25) j (nI m)))))) (show (mF 26) = (sSheet (nI k) (nI ln) n0 (mF 26) (fun j ln _ => sF (mF 26) j ln)) from by unfold sSheet; (try rw [onR_in hk (by omega)]); (try rw [onR_in hln (by omega)]); (try rw [onR_out (by intro q; omega)]); (try rw [if_pos gn]); (try rfl)))) (congrArg (fun z => (wM cI cZ mq ma (sF mg 0 (fSheet (nI k) (nI ln) n0)) mh (sF mF 26 (sSheet (nI k) (nI ln) n0 (mF 26) (fun j ln _ => sF (mF 26) j ln))) (sF (sF mE 25 (sSheet (nI k) (nI ln) n0 (mE 25) (fun j _ m => sF (mE 25) j (nI m)))) 27 z))) (show (mE 27) = (sSheet (nI k) (nI ln) n0 (mE 27) (fun j _ m => zr (mE 27) (60 * j) m)) from by unfold sSheet; (try rw [onR_in hk (by omega)]); (try rw [onR_in hln (by omega)]); (try rw [onR_out (by intro q; omega)]); (try rw [if_pos gn]); (try rfl)))) dX6_sheet_37
    · subst w19
      have glane := fun q => h19 ((in_iff (r := lane) (n := 3) l_0 (by decide)).mpr q)
      refine n_if_eq X 31 dX6_sheet_22 (by decide) (by decide) (fun c22 => ?_) (fun c22 => by exact absurd c22 (by decide))
      refine x_aload_n X dX6_sheet_31 rfl (lv_at hl 0 rfl) ?_
      refine x_bipush (v := (-2 : Int32)) X dX6_sheet_32 (by decide) ?_
      refine x_callVi0 X hW (As := [.int (-2 : Int32)]) (rest := []) (c_X6_refused l D cI cZ cO mq ma mg mh mF mE _ (-2 : Int32)) (cwV 1 X.2.2.2.2.2.1 gX6_sheet_X6_refused rfl rfl rfl (by decide +kernel) ⟨Nat.le_of_ble_eq_true rfl, Nat.le_of_ble_eq_true rfl⟩) 0 5 rfl rfl rfl rfl hl.1 rfl (Nat.le_of_ble_eq_true rfl) ⟨Nat.le_of_ble_eq_true rfl, Nat.le_of_ble_eq_true rfl⟩ dX6_sheet_34 (fun r13 u14 H locs w34 hW => ?_)
      have hW : Wd D A s.heap H locs (wM cI cZ mq ma (sF mg 0 0) mh mF mE) := hW
      replace w34 : r13 = (-2 : Int32) := w34
      subst w34
      exact x_iret X hW rfl () ((by unfold aSheet; (try rw [onR_in hk (by omega)]); (try rw [onR_out glane]); (try rfl))) (Eq.trans (Eq.trans (Eq.trans (congrArg (fun z => (wM cI cZ mq ma (sF mg 0 z) mh mF mE)) (show 0 = (fSheet (nI k) lane n0) from by unfold fSheet; (try rw [onR_in hk (by omega)]); (try rw [onR_out glane]); (try rfl))) (congrArg (fun z => (wM cI cZ mq ma (sF mg 0 (fSheet (nI k) lane n0)) mh mF (sF mE 25 z))) (show (mE 25) = (sSheet (nI k) lane n0 (mE 25) (fun j _ m => sF (mE 25) j (nI m))) from by unfold sSheet; (try rw [onR_in hk (by omega)]); (try rw [onR_out glane]); (try rfl)))) (congrArg (fun z => (wM cI cZ mq ma (sF mg 0 (fSheet (nI k) lane n0)) mh (sF mF 26 z) (sF mE 25 (sSheet (nI k) lane n0 (mE 25) (fun j _ m => sF (mE 25) j (nI m)))))) (show (mF 26) = (sSheet (nI k) lane n0 (mF 26) (fun j ln _ => sF (mF 26) j ln)) from by unfold sSheet; (try rw [onR_in hk (by omega)]); (try rw [onR_out glane]); (try rfl)))) (congrArg (fun z => (wM cI cZ mq ma (sF mg 0 (fSheet (nI k) lane n0)) mh (sF mF 26 (sSheet (nI k) lane n0 (mF 26) (fun j ln _ => sF (mF 26) j ln))) (sF (sF mE 25 (sSheet (nI k) lane n0 (mE 25) (fun j _ m => sF (mE 25) j (nI m)))) 27 z))) (show (mE 27) = (sSheet (nI k) lane n0 (mE 27) (fun j _ m => zr (mE 27) (60 * j) m)) from by unfold sSheet; (try rw [onR_in hk (by omega)]); (try rw [onR_out glane]); (try rfl)))) dX6_sheet_37
set_option maxHeartbeats 4000000 in
set_option maxRecDepth 100000 in
theorem c_X6_lose (l : Launch) (D : va_G) (cI cZ cO : ClassId) (mq : Nat) (ma : Nat → Nat) (mg : Nat → Nat) (mh : Nat → Int32) (mF : Nat → Nat → Nat) (mE : Nat → Nat → Int32) (sz : Nat) (k0 : Int32) (th : Nat → Nat) (ct : Nat → Nat) (hS : ∀ z, z < 4 → (th z = 0 ∧ mE 25 z = (-1 : Int32)) ∨ (th z = 1 ∧ mE 25 z = nI (ct z))) (hct : ∀ z0, ct z0 ≤ 60) : Met l yX6_lose wsX6_lose ({ frames := 2, cells := 0, slots := 0, locals := 45 }) (va_Pc [.ref mq, .int k0] (st_W D (ty3 cI cZ cO) (wM cI cZ mq ma mg mh mF mE) sz)) (va_Qi (fun (rr : Int32) (u : Unit) => rr = aLose th k0) (fun u t => at_W D (ty3 cI cZ cO) (va_A (wM cI cZ mq ma mg mh mF mE) sz) (wM cI cZ mq ma mg mh mF (sF mE 25 (onR k0 4 (mE 25) (fun j => sF (mE 25) j (-1))))) t) (va_A (wM cI cZ mq ma mg mh mF mE) sz)) 0 0 (va_A (wM cI cZ mq ma mg mh mF mE) sz) := by
  refine Met.goi (cc := cX6_lose) (maxL := 3) (ret := (some .int)) (by decide) rfl (Nat.le_of_ble_eq_true rfl) (fun p e s m below meth c A ls X hW hl => ?_)
  have hi6 : ∀ w ∈ wsX60, w ∈ wsX6_lose := fun w h => List.mem_cons_of_mem _ (List.mem_append_right _ h)
  have hl : lv_has ls 3 [(0, .ref mq), (1, .int k0)] := hl
  refine x_iload_n X dX6_lose_0 rfl (lv_at hl 1 rfl) ?_
  refine x_callSie X hW (As := [.int k0]) (rest := []) (c_X6_noSheet l D cI cZ cO  _ k0) (va_cwS 1 X.2.2.2.2.2.1 gX6_lose_X6_noSheet rfl rfl rfl (by decide +kernel) ⟨Nat.le_of_ble_eq_true rfl, Nat.le_of_ble_eq_true rfl⟩) rfl hl.1 rfl (Nat.le_of_ble_eq_true rfl) ⟨Nat.le_of_ble_eq_true rfl, Nat.le_of_ble_eq_true rfl⟩ dX6_lose_1 (fun r1 u2 H locs w1 hW => ?_)
  have hW : Wd D A s.heap H locs (wM cI cZ mq ma mg mh mF mE) := hW
  replace w1 : (r1 = nI 1 ∧ (¬ inR k0 4) ∨ r1 = nI 0 ∧ ¬ (¬ inR k0 4)) := w1
  rcases w1 with ⟨w1, h1⟩ | ⟨w1, h1⟩
  · subst w1
    have gk0 := h1
    refine n_if_eq X 9 dX6_lose_4 (by decide) (by decide) (fun c4 => by exact absurd c4 (by decide)) (fun c4 => ?_)
    refine x_iconst (v := (-1 : Int32)) X dX6_lose_7 (by decide) ?_
    exact x_iret X hW rfl () ((by unfold aLose; (try rw [onR_out gk0]); (try rfl))) (congrArg (fun z => (wM cI cZ mq ma mg mh mF (sF mE 25 z))) (show (mE 25) = (onR k0 4 (mE 25) (fun j => sF (mE 25) j (-1))) from by (try rw [onR_out gk0]); (try rfl))) dX6_lose_8
  · subst w1
    obtain ⟨k, hk, rfl⟩ := inR_ex (Classical.not_not.mp h1) (by omega)
    refine n_if_eq X 9 dX6_lose_4 (by decide) (by decide) (fun c4 => ?_) (fun c4 => by exact absurd c4 (by decide))
    have hctk := hct k
    rcases hS k hk with ⟨hst, hs⟩ | ⟨hst, hs⟩
    · have hsz : th k = 0 := hst
      refine x_aload_n X dX6_lose_9 rfl (lv_at hl 0 rfl) ?_
      refine x_get X hW (v := .ref (ma 25)) hi6 0 rfl rfl 25 (by decide) (List.mem_of_getElem? (i := 1) rfl) rfl rfl dX6_lose_10 ?_
      refine x_iload_n X dX6_lose_13 rfl (lv_at hl 1 rfl) ?_
      refine i_iald X hW (f := mE 25) 14 0 rfl rfl (by omega) (by decide) dX6_lose_14 ?_
      refine i_as0 (b := (-1 : Int32)) hs ?_
      refine x_if_ge X 22 dX6_lose_15 (by decide) (fun c15 => by first | exact absurd c15 (by decide) | exact absurd (by decide) c15) (fun c15 => ?_)
      refine x_iconst (v := nI 0) X dX6_lose_18 (by decide) ?_
      refine x_goto X 23 dX6_lose_19 (by decide) ?_
      refine x_istore_n X [(2, .int (nI 0)), (0, .ref mq), (1, .int (nI k))] dX6_lose_23 rfl hl (by decide) rfl (fun ls hl => ?_)
      refine x_aload_n X dX6_lose_24 rfl (lv_at hl 1 rfl) ?_
      refine x_get X hW (v := .ref (ma 25)) hi6 0 rfl rfl 25 (by decide) (List.mem_of_getElem? (i := 1) rfl) rfl rfl dX6_lose_25 ?_
      refine x_iload_n X dX6_lose_28 rfl (lv_at hl 2 rfl) ?_
      refine x_iconst (v := (-1 : Int32)) X dX6_lose_29 (by decide) ?_
      refine i_iast X hW (f := mE 25) 14 0 rfl rfl (by omega) (by decide) dX6_lose_30 (wM cI cZ mq ma mg mh mF (sF mE 25 (sF (mE 25) k (-1 : Int32)))) rfl (fun H locs hW => ?_)
      refine x_iload_n X dX6_lose_31 rfl (lv_at hl 0 rfl) ?_
      exact x_iret X hW rfl () ((by unfold aLose; (try rw [onR_in hk (by omega)]); (try rw [hsz]); (try rfl))) (congrArg (fun z => (wM cI cZ mq ma mg mh mF (sF mE 25 z))) (show (sF (mE 25) k (-1 : Int32)) = (onR (nI k) 4 (mE 25) (fun j => sF (mE 25) j (-1))) from by (try rw [onR_in hk (by omega)]); (try rfl))) dX6_lose_32
    · have hsz : th k = 1 := hst
      refine x_aload_n X dX6_lose_9 rfl (lv_at hl 0 rfl) ?_
      refine x_get X hW (v := .ref (ma 25)) hi6 0 rfl rfl 25 (by decide) (List.mem_of_getElem? (i := 1) rfl) rfl rfl dX6_lose_10 ?_
      refine x_iload_n X dX6_lose_13 rfl (lv_at hl 1 rfl) ?_
      refine i_iald X hW (f := mE 25) 14 0 rfl rfl (by omega) (by decide) dX6_lose_14 ?_
      refine i_as0 (b := nI (ct k)) hs ?_
      refine n_if_ge X 22 dX6_lose_15 (by decide) (by omega) ?_
      refine x_iconst (v := nI 1) X dX6_lose_22 (by decide) ?_
      refine x_istore_n X [(2, .int (nI 1)), (0, .ref mq), (1, .int (nI k))] dX6_lose_23 rfl hl (by decide) rfl (fun ls hl => ?_)
      refine x_aload_n X dX6_lose_24 rfl (lv_at hl 1 rfl) ?_
      refine x_get X hW (v := .ref (ma 25)) hi6 0 rfl rfl 25 (by decide) (List.mem_of_getElem? (i := 1) rfl) rfl rfl dX6_lose_25 ?_
      refine x_iload_n X dX6_lose_28 rfl (lv_at hl 2 rfl) ?_
      refine x_iconst (v := (-1 : Int32)) X dX6_lose_29 (by decide) ?_
      refine i_iast X hW (f := mE 25) 14 0 rfl rfl (by omega) (by decide) dX6_lose_30 (wM cI cZ mq ma mg mh mF (sF mE 25 (sF (mE 25) k (-1 : Int32)))) rfl (fun H locs hW => ?_)
      refine x_iload_n X dX6_lose_31 rfl (lv_at hl 0 rfl) ?_
      exact x_iret X hW rfl () ((by unfold aLose; (try rw [onR_in hk (by omega)]); (try rw [hsz]); (try rfl))) (congrArg (fun z => (wM cI cZ mq ma mg mh mF (sF mE 25 z))) (show (sF (mE 25) k (-1 : Int32)) = (onR (nI k) 4 (mE 25) (fun j => sF (mE 25) j (-1))) from by (try rw [onR_in hk (by omega)]); (try rfl))) dX6_lose_32
set_option maxHeartbeats 4000000 in
set_option maxRecDepth 100000 in
theorem c_X6_traced (l : Launch) (D : va_G) (cI cZ cO : ClassId) (mq : Nat) (ma : Nat → Nat) (mg : Nat → Nat) (mh : Nat → Int32) (mF : Nat → Nat → Nat) (mE : Nat → Nat → Int32) (sz : Nat) (b : Nat)   : Met l yX6_traced wsX6_traced ({ frames := 0, cells := 0, slots := 0, locals := 0 }) (va_Pc [.ref mq, .int (nI b)] (st_W D (ty3 cI cZ cO) (wM cI cZ mq ma mg mh mF mE) sz)) (va_Qv (fun (u : Unit) => True) (fun u t => at_W D (ty3 cI cZ cO) (va_A (wM cI cZ mq ma mg mh mF mE) sz) (wM cI cZ mq ma mg (sF mh 29 (trk b (mh 29))) mF mE) t) (va_A (wM cI cZ mq ma mg mh mF mE) sz)) 0 0 (va_A (wM cI cZ mq ma mg mh mF mE) sz) := by
  refine Met.gov (cc := cX6_traced) (maxL := 2) (ret := none) (by decide) rfl (Nat.le_of_ble_eq_true rfl) (fun p e s m below meth c A ls X hW hl => ?_)
  have hi6 : ∀ w ∈ wsX60, w ∈ wsX6_traced := fun w h => List.mem_cons_of_mem _ (List.mem_append_right _ h)
  have hl : lv_has ls 2 [(0, .ref mq), (1, .int (nI b))] := hl
  refine x_aload_n X dX6_traced_0 rfl (lv_at hl 0 rfl) ?_
  refine x_bipush (v := nI 31) X dX6_traced_1 (by decide) ?_
  refine x_aload_n X dX6_traced_3 rfl (lv_at hl 0 rfl) ?_
  refine x_get X hW (v := .int (mh 29)) hi6 0 rfl rfl 29 (by decide) (List.mem_of_getElem? (i := 1) rfl) rfl rfl dX6_traced_4 ?_
  refine x_imul (v := (nI 31) * (mh 29)) X dX6_traced_7 rfl ?_
  refine x_iload_n X dX6_traced_8 rfl (lv_at hl 1 rfl) ?_
  refine x_iadd (v := (nI 31) * (mh 29) + nI b) X dX6_traced_9 rfl ?_
  refine x_put X hW (v := .int ((nI 31) * (mh 29) + nI b)) hi6 tyX6 tyX6_ok nmX6 0 rfl rfl 29 (by decide) (List.mem_of_getElem? (i := 1) rfl) rfl rfl rfl rfl (Nat.le_of_ble_eq_true rfl) dX6_traced_10 (wM cI cZ mq ma mg (sF mh 29 ((nI 31) * (mh 29) + nI b)) mF mE) rfl (fun H locs hW => ?_)
  exact x_vret X hW rfl () (trivial) (congrArg (fun z => (wM cI cZ mq ma mg (sF mh 29 z) mF mE)) (show ((nI 31) * (mh 29) + nI b) = (trk b (mh 29)) from by first | rfl | omega)) dX6_traced_13
set_option maxHeartbeats 4000000 in
set_option maxRecDepth 100000 in
theorem c_X6_trace (l : Launch) (D : va_G) (cI cZ cO : ClassId) (mq : Nat) (ma : Nat → Nat) (mg : Nat → Nat) (mh : Nat → Int32) (mF : Nat → Nat → Nat) (mE : Nat → Nat → Int32) (sz : Nat)    : Met l yX6_trace wsX6_trace ({ frames := 0, cells := 0, slots := 0, locals := 0 }) (va_Pc [.ref mq] (st_W D (ty3 cI cZ cO) (wM cI cZ mq ma mg mh mF mE) sz)) (va_Qi (fun (rr : Int32) (u : Unit) => rr = mh 29) (fun u t => at_W D (ty3 cI cZ cO) (va_A (wM cI cZ mq ma mg mh mF mE) sz) (wM cI cZ mq ma mg mh mF mE) t) (va_A (wM cI cZ mq ma mg mh mF mE) sz)) 0 0 (va_A (wM cI cZ mq ma mg mh mF mE) sz) := by
  refine Met.goi (cc := cX6_trace) (maxL := 1) (ret := (some .int)) (by decide) rfl (Nat.le_of_ble_eq_true rfl) (fun p e s m below meth c A ls X hW hl => ?_)
  have hi6 : ∀ w ∈ wsX60, w ∈ wsX6_trace := fun w h => List.mem_cons_of_mem _ (List.mem_append_right _ h)
  have hl : lv_has ls 1 [(0, .ref mq)] := hl
  refine x_aload_n X dX6_trace_0 rfl (lv_at hl 0 rfl) ?_
  refine x_get X hW (v := .int (mh 29)) hi6 0 rfl rfl 29 (by decide) (List.mem_of_getElem? (i := 1) rfl) rfl rfl dX6_trace_1 ?_
  exact x_iret X hW rfl () (rfl) rfl dX6_trace_4
set_option maxHeartbeats 4000000 in
set_option maxRecDepth 100000 in
theorem c_X6_fault (l : Launch) (D : va_G) (cI cZ cO : ClassId) (mq : Nat) (ma : Nat → Nat) (mg : Nat → Nat) (mh : Nat → Int32) (mF : Nat → Nat → Nat) (mE : Nat → Nat → Int32) (sz : Nat)    : Met l yX6_fault wsX6_fault ({ frames := 0, cells := 0, slots := 0, locals := 0 }) (va_Pc [.ref mq] (st_W D (ty3 cI cZ cO) (wM cI cZ mq ma mg mh mF mE) sz)) (va_Qi (fun (rr : Int32) (u : Unit) => rr = nI (mg 0)) (fun u t => at_W D (ty3 cI cZ cO) (va_A (wM cI cZ mq ma mg mh mF mE) sz) (wM cI cZ mq ma mg mh mF mE) t) (va_A (wM cI cZ mq ma mg mh mF mE) sz)) 0 0 (va_A (wM cI cZ mq ma mg mh mF mE) sz) := by
  refine Met.goi (cc := cX6_fault) (maxL := 1) (ret := (some .int)) (by decide) rfl (Nat.le_of_ble_eq_true rfl) (fun p e s m below meth c A ls X hW hl => ?_)
  have hi6 : ∀ w ∈ wsX60, w ∈ wsX6_fault := fun w h => List.mem_cons_of_mem _ (List.mem_append_right _ h)
  have hl : lv_has ls 1 [(0, .ref mq)] := hl
  refine x_aload_n X dX6_fault_0 rfl (lv_at hl 0 rfl) ?_
  refine x_get X hW (v := .int (nI (mg 0))) hi6 0 rfl rfl 0 (by decide) (List.mem_of_getElem? (i := 1) rfl) rfl rfl dX6_fault_1 ?_
  exact x_iret X hW rfl () ((by first | rfl | assumption | omega)) rfl dX6_fault_4
set_option maxHeartbeats 4000000 in
set_option maxRecDepth 100000 in
theorem c_X6_tell (l : Launch) (D : va_G) (cI cZ cO : ClassId) (mq : Nat) (ma : Nat → Nat) (mg : Nat → Nat) (mh : Nat → Int32) (mF : Nat → Nat → Nat) (mE : Nat → Nat → Int32) (sz : Nat) (r : Int32)  (hn : mg 2 ≤ 4) (hk : ∀ z0, mF 3 z0 ≤ 2) (hm : ∀ z0, mF 5 z0 ≤ 9) : Met l yX6_tell wsX6_tell ({ frames := 2, cells := 0, slots := 0, locals := 46 }) (va_Pc [.ref mq, .int r] (st_W D (ty3 cI cZ cO) (wM cI cZ mq ma mg mh mF mE) sz)) (va_Qi (fun (rr : Int32) (u : Unit) => rr = aTell (mg 2) (mF 3) (mF 5) r) (fun u t => at_W D (ty3 cI cZ cO) (va_A (wM cI cZ mq ma mg mh mF mE) sz) (wM cI cZ mq ma mg (sF mh 29 (sTell (mg 2) (mF 3) (mh 29) r)) mF mE) t) (va_A (wM cI cZ mq ma mg mh mF mE) sz)) 0 0 (va_A (wM cI cZ mq ma mg mh mF mE) sz) := by
  refine Met.goi (cc := cX6_tell) (maxL := 4) (ret := (some .int)) (by decide) rfl (Nat.le_of_ble_eq_true rfl) (fun p e s m below meth c A ls X hW hl => ?_)
  have hi6 : ∀ w ∈ wsX60, w ∈ wsX6_tell := fun w h => List.mem_cons_of_mem _ (List.mem_append_right _ h)
  have hl : lv_has ls 4 [(0, .ref mq), (1, .int r)] := hl
  refine x_aload_n X dX6_tell_0 rfl (lv_at hl 0 rfl) ?_
  refine x_iload_n X dX6_tell_1 rfl (lv_at hl 1 rfl) ?_
  refine x_callVi0 X hW (As := [.int r]) (rest := []) (c_X6_noReach l D cI cZ cO mq ma mg mh mF mE _ r (show (mg 2) ≤ 4 from (by first | assumption | omega))) (cwV 1 X.2.2.2.2.2.1 gX6_tell_X6_noReach rfl rfl rfl (by decide +kernel) ⟨Nat.le_of_ble_eq_true rfl, Nat.le_of_ble_eq_true rfl⟩) 0 5 rfl rfl rfl rfl hl.1 rfl (Nat.le_of_ble_eq_true rfl) ⟨Nat.le_of_ble_eq_true rfl, Nat.le_of_ble_eq_true rfl⟩ dX6_tell_2 (fun r1 u2 H locs w2 hW => ?_)
  have hW : Wd D A s.heap H locs (wM cI cZ mq ma mg mh mF mE) := hW
  replace w2 : (r1 = nI 1 ∧ (¬ inR r ((mg 2))) ∨ r1 = nI 0 ∧ ¬ (¬ inR r ((mg 2)))) := w2
  rcases w2 with ⟨w2, h2⟩ | ⟨w2, h2⟩
  · subst w2
    have gr := h2
    refine n_if_eq X 10 dX6_tell_5 (by decide) (by decide) (fun c5 => by exact absurd c5 (by decide)) (fun c5 => ?_)
    refine x_iconst (v := (-1 : Int32)) X dX6_tell_8 (by decide) ?_
    exact x_iret X hW rfl () ((by unfold aTell; (try rw [onR_out gr]); (try unfold aTellJ); (try rw [ekk]); (try rfl))) (congrArg (fun z => (wM cI cZ mq ma mg (sF mh 29 z) mF mE)) (show (mh 29) = (sTell (mg 2) (mF 3) (mh 29) r) from by unfold sTell; (try rw [onR_out gr]); (try unfold sTellJ); (try rw [ekk]); (try rfl))) dX6_tell_9
  · subst w2
    obtain ⟨j, hj, rfl⟩ := inR_ex (Classical.not_not.mp h2) (by omega)
    refine n_if_eq X 10 dX6_tell_5 (by decide) (by decide) (fun c5 => ?_) (fun c5 => by exact absurd c5 (by decide))
    rcases (show mF 3 j = 0 ∨ mF 3 j = 1 ∨ mF 3 j = 2 by have := hk j; omega) with ek | ek | ek
    · have ekk := ek
      refine x_aload_n X dX6_tell_10 rfl (lv_at hl 0 rfl) ?_
      refine x_get X hW (v := .ref (ma 3)) hi6 0 rfl rfl 3 (by decide) (List.mem_of_getElem? (i := 1) rfl) rfl rfl dX6_tell_11 ?_
      refine x_iload_n X dX6_tell_14 rfl (lv_at hl 1 rfl) ?_
      refine n_iald X hW (f := mF 3) 1 0 rfl rfl (by omega) (by decide) dX6_tell_15 ?_
      refine n_as0 (b := 0) ek ?_
      refine x_istore_n X [(2, .int (nI 0)), (0, .ref mq), (1, .int (nI j))] dX6_tell_16 rfl hl (by decide) rfl (fun ls hl => ?_)
      refine x_iload_n X dX6_tell_17 rfl (lv_at hl 0 rfl) ?_
      refine x_iconst (v := nI 2) X dX6_tell_18 (by decide) ?_
      refine n_icmp_ne X 27 dX6_tell_19 (by decide) (by decide) (by decide) (fun c19 => ?_) (fun c19 => by exact absurd c19 (by decide))
      refine x_iload_n X dX6_tell_27 rfl (lv_at hl 0 rfl) ?_
      refine n_if_le X 36 dX6_tell_28 (by decide) (by decide) (fun c28 => ?_) (fun c28 => by exact absurd c28 (by decide))
      refine x_aload_n X dX6_tell_36 rfl (lv_at hl 1 rfl) ?_
      refine x_iconst (v := nI 1) X dX6_tell_37 (by decide) ?_
      refine x_callVv0 X hW (As := [.int (nI 1)]) (rest := []) (c_X6_traced l D cI cZ cO mq ma mg mh mF mE _ 1) (cwV 1 X.2.2.2.2.2.1 gX6_tell_X6_traced rfl rfl rfl (by decide +kernel) ⟨Nat.le_of_ble_eq_true rfl, Nat.le_of_ble_eq_true rfl⟩) 0 5 rfl rfl rfl rfl hl.1 rfl (Nat.le_of_ble_eq_true rfl) ⟨Nat.le_of_ble_eq_true rfl, Nat.le_of_ble_eq_true rfl⟩ dX6_tell_38 (fun u4 H locs w38 hW => ?_)
      have hW : Wd D A s.heap H locs (wM cI cZ mq ma mg (sF mh 29 (trk 1 ((mh 29)))) mF mE) := hW
      replace w38 : True := w38
      refine x_iload_n X dX6_tell_41 rfl (lv_at hl 0 rfl) ?_
      refine x_iconst (v := nI 2) X dX6_tell_42 (by decide) ?_
      refine n_icmp_ne X 51 dX6_tell_43 (by decide) (by decide) (by decide) (fun c43 => ?_) (fun c43 => by exact absurd c43 (by decide))
      refine x_aload_n X dX6_tell_51 rfl (lv_at hl 1 rfl) ?_
      refine x_get X hW (v := .ref (ma 5)) hi6 0 rfl rfl 5 (by decide) (List.mem_of_getElem? (i := 2) rfl) rfl rfl dX6_tell_52 ?_
      refine x_iload_n X dX6_tell_55 rfl (lv_at hl 2 rfl) ?_
      refine n_iald X hW (f := mF 5) 3 0 rfl rfl (by omega) (by decide) dX6_tell_56 ?_
      refine x_istore_n X [(3, .int (nI (mF 5 j))), (2, .int (nI 0)), (0, .ref mq), (1, .int (nI j))] dX6_tell_57 rfl hl (by decide) rfl (fun ls hl => ?_)
      refine x_iload_n X dX6_tell_58 rfl (lv_at hl 1 rfl) ?_
      refine n_if_ne X 66 dX6_tell_59 (by decide) (by decide) (fun c59 => by exact absurd c59 (by decide)) (fun c59 => ?_)
      refine x_iload_n X dX6_tell_62 rfl (lv_at hl 0 rfl) ?_
      refine x_goto X 84 dX6_tell_63 (by decide) ?_
      exact x_iret X hW rfl () ((by unfold aTell; (try rw [onR_in hj (by omega)]); (try unfold aTellJ); (try rw [ekk]); (try rfl))) (congrArg (fun z => (wM cI cZ mq ma mg (sF mh 29 z) mF mE)) (show (trk 1 ((mh 29))) = (sTell (mg 2) (mF 3) (mh 29) (nI j)) from by unfold sTell; (try rw [onR_in hj (by omega)]); (try unfold sTellJ); (try rw [ekk]); (try rfl))) dX6_tell_84
    · have ekk := ek
      refine x_aload_n X dX6_tell_10 rfl (lv_at hl 0 rfl) ?_
      refine x_get X hW (v := .ref (ma 3)) hi6 0 rfl rfl 3 (by decide) (List.mem_of_getElem? (i := 1) rfl) rfl rfl dX6_tell_11 ?_
      refine x_iload_n X dX6_tell_14 rfl (lv_at hl 1 rfl) ?_
      refine n_iald X hW (f := mF 3) 1 0 rfl rfl (by omega) (by decide) dX6_tell_15 ?_
      refine n_as0 (b := 1) ek ?_
      refine x_istore_n X [(2, .int (nI 1)), (0, .ref mq), (1, .int (nI j))] dX6_tell_16 rfl hl (by decide) rfl (fun ls hl => ?_)
      refine x_iload_n X dX6_tell_17 rfl (lv_at hl 0 rfl) ?_
      refine x_iconst (v := nI 2) X dX6_tell_18 (by decide) ?_
      refine n_icmp_ne X 27 dX6_tell_19 (by decide) (by decide) (by decide) (fun c19 => ?_) (fun c19 => by exact absurd c19 (by decide))
      refine x_iload_n X dX6_tell_27 rfl (lv_at hl 0 rfl) ?_
      refine n_if_le X 36 dX6_tell_28 (by decide) (by decide) (fun c28 => by exact absurd c28 (by decide)) (fun c28 => ?_)
      refine x_aload_n X dX6_tell_31 rfl (lv_at hl 1 rfl) ?_
      refine x_iconst (v := nI 2) X dX6_tell_32 (by decide) ?_
      refine x_callVv0 X hW (As := [.int (nI 2)]) (rest := []) (c_X6_traced l D cI cZ cO mq ma mg mh mF mE _ 2) (cwV 1 X.2.2.2.2.2.1 gX6_tell_X6_traced rfl rfl rfl (by decide +kernel) ⟨Nat.le_of_ble_eq_true rfl, Nat.le_of_ble_eq_true rfl⟩) 0 5 rfl rfl rfl rfl hl.1 rfl (Nat.le_of_ble_eq_true rfl) ⟨Nat.le_of_ble_eq_true rfl, Nat.le_of_ble_eq_true rfl⟩ dX6_tell_33 (fun u6 H locs w33 hW => ?_)
      have hW : Wd D A s.heap H locs (wM cI cZ mq ma mg (sF mh 29 (trk 2 ((mh 29)))) mF mE) := hW
      replace w33 : True := w33
      refine x_aload_n X dX6_tell_36 rfl (lv_at hl 1 rfl) ?_
      refine x_iconst (v := nI 1) X dX6_tell_37 (by decide) ?_
      refine x_callVv0 X hW (As := [.int (nI 1)]) (rest := []) (c_X6_traced l D cI cZ cO mq ma mg (sF mh 29 (trk 2 ((mh 29)))) mF mE _ 1) (cwV 1 X.2.2.2.2.2.1 gX6_tell_X6_traced rfl rfl rfl (by decide +kernel) ⟨Nat.le_of_ble_eq_true rfl, Nat.le_of_ble_eq_true rfl⟩) 0 5 rfl rfl rfl rfl hl.1 rfl (Nat.le_of_ble_eq_true rfl) ⟨Nat.le_of_ble_eq_true rfl, Nat.le_of_ble_eq_true rfl⟩ dX6_tell_38 (fun u8 H locs w38 hW => ?_)
      have hW : Wd D A s.heap H locs (wM cI cZ mq ma mg (sF mh 29 (trk 1 ((trk 2 ((mh 29)))))) mF mE) := hW
      replace w38 : True := w38
      refine x_iload_n X dX6_tell_41 rfl (lv_at hl 0 rfl) ?_
      refine x_iconst (v := nI 2) X dX6_tell_42 (by decide) ?_
      refine n_icmp_ne X 51 dX6_tell_43 (by decide) (by decide) (by decide) (fun c43 => ?_) (fun c43 => by exact absurd c43 (by decide))
      refine x_aload_n X dX6_tell_51 rfl (lv_at hl 1 rfl) ?_
      refine x_get X hW (v := .ref (ma 5)) hi6 0 rfl rfl 5 (by decide) (List.mem_of_getElem? (i := 2) rfl) rfl rfl dX6_tell_52 ?_
      refine x_iload_n X dX6_tell_55 rfl (lv_at hl 2 rfl) ?_
      refine n_iald X hW (f := mF 5) 3 0 rfl rfl (by omega) (by decide) dX6_tell_56 ?_
      refine x_istore_n X [(3, .int (nI (mF 5 j))), (2, .int (nI 1)), (0, .ref mq), (1, .int (nI j))] dX6_tell_57 rfl hl (by decide) rfl (fun ls hl => ?_)
      refine x_iload_n X dX6_tell_58 rfl (lv_at hl 1 rfl) ?_
      refine n_if_ne X 66 dX6_tell_59 (by decide) (by decide) (fun c59 => ?_) (fun c59 => by exact absurd c59 (by decide))
      refine x_iload_n X dX6_tell_66 rfl (lv_at hl 1 rfl) ?_
      refine x_iconst (v := nI 1) X dX6_tell_67 (by decide) ?_
      refine n_icmp_ne X 78 dX6_tell_68 (by decide) (by decide) (by decide) (fun c68 => by exact absurd c68 (by decide)) (fun c68 => ?_)
      refine x_iload_n X dX6_tell_71 rfl (lv_at hl 0 rfl) ?_
      refine x_bipush (v := nI 100) X dX6_tell_72 (by decide) ?_
      refine n_iadd X dX6_tell_74 ?_
      refine x_goto X 84 dX6_tell_75 (by decide) ?_
      exact x_iret X hW rfl () ((by unfold aTell; (try rw [onR_in hj (by omega)]); (try unfold aTellJ); (try rw [ekk]); (try rfl))) (congrArg (fun z => (wM cI cZ mq ma mg (sF mh 29 z) mF mE)) (show (trk 1 ((trk 2 ((mh 29))))) = (sTell (mg 2) (mF 3) (mh 29) (nI j)) from by unfold sTell; (try rw [onR_in hj (by omega)]); (try unfold sTellJ); (try rw [ekk]); (try rfl))) dX6_tell_84
    · have ekk := ek
      refine x_aload_n X dX6_tell_10 rfl (lv_at hl 0 rfl) ?_
      refine x_get X hW (v := .ref (ma 3)) hi6 0 rfl rfl 3 (by decide) (List.mem_of_getElem? (i := 1) rfl) rfl rfl dX6_tell_11 ?_
      refine x_iload_n X dX6_tell_14 rfl (lv_at hl 1 rfl) ?_
      refine n_iald X hW (f := mF 3) 1 0 rfl rfl (by omega) (by decide) dX6_tell_15 ?_
      refine n_as0 (b := 2) ek ?_
      refine x_istore_n X [(2, .int (nI 2)), (0, .ref mq), (1, .int (nI j))] dX6_tell_16 rfl hl (by decide) rfl (fun ls hl => ?_)
      refine x_iload_n X dX6_tell_17 rfl (lv_at hl 0 rfl) ?_
      refine x_iconst (v := nI 2) X dX6_tell_18 (by decide) ?_
      refine n_icmp_ne X 27 dX6_tell_19 (by decide) (by decide) (by decide) (fun c19 => by exact absurd c19 (by decide)) (fun c19 => ?_)
      refine x_aload_n X dX6_tell_22 rfl (lv_at hl 1 rfl) ?_
      refine x_iconst (v := nI 3) X dX6_tell_23 (by decide) ?_
      refine x_callVv0 X hW (As := [.int (nI 3)]) (rest := []) (c_X6_traced l D cI cZ cO mq ma mg mh mF mE _ 3) (cwV 1 X.2.2.2.2.2.1 gX6_tell_X6_traced rfl rfl rfl (by decide +kernel) ⟨Nat.le_of_ble_eq_true rfl, Nat.le_of_ble_eq_true rfl⟩) 0 5 rfl rfl rfl rfl hl.1 rfl (Nat.le_of_ble_eq_true rfl) ⟨Nat.le_of_ble_eq_true rfl, Nat.le_of_ble_eq_true rfl⟩ dX6_tell_24 (fun u10 H locs w24 hW => ?_)
      have hW : Wd D A s.heap H locs (wM cI cZ mq ma mg (sF mh 29 (trk 3 ((mh 29)))) mF mE) := hW
      replace w24 : True := w24
      refine x_iload_n X dX6_tell_27 rfl (lv_at hl 0 rfl) ?_
      refine n_if_le X 36 dX6_tell_28 (by decide) (by decide) (fun c28 => by exact absurd c28 (by decide)) (fun c28 => ?_)
      refine x_aload_n X dX6_tell_31 rfl (lv_at hl 1 rfl) ?_
      refine x_iconst (v := nI 2) X dX6_tell_32 (by decide) ?_
      refine x_callVv0 X hW (As := [.int (nI 2)]) (rest := []) (c_X6_traced l D cI cZ cO mq ma mg (sF mh 29 (trk 3 ((mh 29)))) mF mE _ 2) (cwV 1 X.2.2.2.2.2.1 gX6_tell_X6_traced rfl rfl rfl (by decide +kernel) ⟨Nat.le_of_ble_eq_true rfl, Nat.le_of_ble_eq_true rfl⟩) 0 5 rfl rfl rfl rfl hl.1 rfl (Nat.le_of_ble_eq_true rfl) ⟨Nat.le_of_ble_eq_true rfl, Nat.le_of_ble_eq_true rfl⟩ dX6_tell_33 (fun u12 H locs w33 hW => ?_)
      have hW : Wd D A s.heap H locs (wM cI cZ mq ma mg (sF mh 29 (trk 2 ((trk 3 ((mh 29)))))) mF mE) := hW
      replace w33 : True := w33
      refine x_aload_n X dX6_tell_36 rfl (lv_at hl 1 rfl) ?_
      refine x_iconst (v := nI 1) X dX6_tell_37 (by decide) ?_
      refine x_callVv0 X hW (As := [.int (nI 1)]) (rest := []) (c_X6_traced l D cI cZ cO mq ma mg (sF mh 29 (trk 2 ((trk 3 ((mh 29)))))) mF mE _ 1) (cwV 1 X.2.2.2.2.2.1 gX6_tell_X6_traced rfl rfl rfl (by decide +kernel) ⟨Nat.le_of_ble_eq_true rfl, Nat.le_of_ble_eq_true rfl⟩) 0 5 rfl rfl rfl rfl hl.1 rfl (Nat.le_of_ble_eq_true rfl) ⟨Nat.le_of_ble_eq_true rfl, Nat.le_of_ble_eq_true rfl⟩ dX6_tell_38 (fun u14 H locs w38 hW => ?_)
      have hW : Wd D A s.heap H locs (wM cI cZ mq ma mg (sF mh 29 (trk 1 ((trk 2 ((trk 3 ((mh 29)))))))) mF mE) := hW
      replace w38 : True := w38
      refine x_iload_n X dX6_tell_41 rfl (lv_at hl 0 rfl) ?_
      refine x_iconst (v := nI 2) X dX6_tell_42 (by decide) ?_
      refine n_icmp_ne X 51 dX6_tell_43 (by decide) (by decide) (by decide) (fun c43 => by exact absurd c43 (by decide)) (fun c43 => ?_)
      refine x_aload_n X dX6_tell_46 rfl (lv_at hl 1 rfl) ?_
      refine x_iconst (v := nI 1) X dX6_tell_47 (by decide) ?_
      refine x_callVv0 X hW (As := [.int (nI 1)]) (rest := []) (c_X6_traced l D cI cZ cO mq ma mg (sF mh 29 (trk 1 ((trk 2 ((trk 3 ((mh 29)))))))) mF mE _ 1) (cwV 1 X.2.2.2.2.2.1 gX6_tell_X6_traced rfl rfl rfl (by decide +kernel) ⟨Nat.le_of_ble_eq_true rfl, Nat.le_of_ble_eq_true rfl⟩) 0 5 rfl rfl rfl rfl hl.1 rfl (Nat.le_of_ble_eq_true rfl) ⟨Nat.le_of_ble_eq_true rfl, Nat.le_of_ble_eq_true rfl⟩ dX6_tell_48 (fun u16 H locs w48 hW => ?_)
      have hW : Wd D A s.heap H locs (wM cI cZ mq ma mg (sF mh 29 (trk 1 ((trk 1 ((trk 2 ((trk 3 ((mh 29)))))))))) mF mE) := hW
      replace w48 : True := w48
      refine x_aload_n X dX6_tell_51 rfl (lv_at hl 1 rfl) ?_
      refine x_get X hW (v := .ref (ma 5)) hi6 0 rfl rfl 5 (by decide) (List.mem_of_getElem? (i := 2) rfl) rfl rfl dX6_tell_52 ?_
      refine x_iload_n X dX6_tell_55 rfl (lv_at hl 2 rfl) ?_
      refine n_iald X hW (f := mF 5) 3 0 rfl rfl (by omega) (by decide) dX6_tell_56 ?_
      refine x_istore_n X [(3, .int (nI (mF 5 j))), (2, .int (nI 2)), (0, .ref mq), (1, .int (nI j))] dX6_tell_57 rfl hl (by decide) rfl (fun ls hl => ?_)
      refine x_iload_n X dX6_tell_58 rfl (lv_at hl 1 rfl) ?_
      refine n_if_ne X 66 dX6_tell_59 (by decide) (by decide) (fun c59 => ?_) (fun c59 => by exact absurd c59 (by decide))
      refine x_iload_n X dX6_tell_66 rfl (lv_at hl 1 rfl) ?_
      refine x_iconst (v := nI 1) X dX6_tell_67 (by decide) ?_
      refine n_icmp_ne X 78 dX6_tell_68 (by decide) (by decide) (by decide) (fun c68 => ?_) (fun c68 => by exact absurd c68 (by decide))
      refine x_iconst (v := nI 2) X dX6_tell_78 (by decide) ?_
      refine x_iload_n X dX6_tell_79 rfl (lv_at hl 0 rfl) ?_
      refine n_imul X dX6_tell_80 ?_
      refine x_bipush (v := nI 100) X dX6_tell_81 (by decide) ?_
      refine n_iadd X dX6_tell_83 ?_
      exact x_iret X hW rfl () ((by unfold aTell; (try rw [onR_in hj (by omega)]); (try unfold aTellJ); (try rw [ekk]); (try rfl))) (congrArg (fun z => (wM cI cZ mq ma mg (sF mh 29 z) mF mE)) (show (trk 1 ((trk 1 ((trk 2 ((trk 3 ((mh 29))))))))) = (sTell (mg 2) (mF 3) (mh 29) (nI j)) from by unfold sTell; (try rw [onR_in hj (by omega)]); (try unfold sTellJ); (try rw [ekk]); (try rfl))) dX6_tell_84
set_option maxHeartbeats 4000000 in
set_option maxRecDepth 100000 in
theorem c_X6_flatter (l : Launch) (D : va_G) (cI cZ cO : ClassId) (mq : Nat) (ma : Nat → Nat) (mg : Nat → Nat) (mh : Nat → Int32) (mF : Nat → Nat → Nat) (mE : Nat → Nat → Int32) (sz : Nat) (r : Int32)  (hn : mg 2 ≤ 4) (hk : ∀ z0, mF 3 z0 ≤ 2) : Met l yX6_flatter wsX6_flatter ({ frames := 2, cells := 0, slots := 0, locals := 46 }) (va_Pc [.ref mq, .int r] (st_W D (ty3 cI cZ cO) (wM cI cZ mq ma mg mh mF mE) sz)) (va_Qi (fun (rr : Int32) (u : Unit) => rr = aFlat (mg 2) (mF 3) r) (fun u t => at_W D (ty3 cI cZ cO) (va_A (wM cI cZ mq ma mg mh mF mE) sz) (wM cI cZ mq ma mg (sF mh 29 (sFlat (mg 2) (mF 3) (mh 29) r)) mF mE) t) (va_A (wM cI cZ mq ma mg mh mF mE) sz)) 0 0 (va_A (wM cI cZ mq ma mg mh mF mE) sz) := by
  refine Met.goi (cc := cX6_flatter) (maxL := 2) (ret := (some .int)) (by decide) rfl (Nat.le_of_ble_eq_true rfl) (fun p e s m below meth c A ls X hW hl => ?_)
  have hi6 : ∀ w ∈ wsX60, w ∈ wsX6_flatter := fun w h => List.mem_cons_of_mem _ (List.mem_append_right _ h)
  have hl : lv_has ls 2 [(0, .ref mq), (1, .int r)] := hl
  refine x_aload_n X dX6_flatter_0 rfl (lv_at hl 0 rfl) ?_
  refine x_iload_n X dX6_flatter_1 rfl (lv_at hl 1 rfl) ?_
  refine x_callVi0 X hW (As := [.int r]) (rest := []) (c_X6_noReach l D cI cZ cO mq ma mg mh mF mE _ r (show (mg 2) ≤ 4 from (by first | assumption | omega))) (cwV 1 X.2.2.2.2.2.1 gX6_flatter_X6_noReach rfl rfl rfl (by decide +kernel) ⟨Nat.le_of_ble_eq_true rfl, Nat.le_of_ble_eq_true rfl⟩) 0 5 rfl rfl rfl rfl hl.1 rfl (Nat.le_of_ble_eq_true rfl) ⟨Nat.le_of_ble_eq_true rfl, Nat.le_of_ble_eq_true rfl⟩ dX6_flatter_2 (fun r1 u2 H locs w2 hW => ?_)
  have hW : Wd D A s.heap H locs (wM cI cZ mq ma mg mh mF mE) := hW
  replace w2 : (r1 = nI 1 ∧ (¬ inR r ((mg 2))) ∨ r1 = nI 0 ∧ ¬ (¬ inR r ((mg 2)))) := w2
  rcases w2 with ⟨w2, h2⟩ | ⟨w2, h2⟩
  · subst w2
    have gr := h2
    refine n_if_eq X 10 dX6_flatter_5 (by decide) (by decide) (fun c5 => by exact absurd c5 (by decide)) (fun c5 => ?_)
    refine x_iconst (v := (-1 : Int32)) X dX6_flatter_8 (by decide) ?_
    exact x_iret X hW rfl () ((by unfold aFlat; (try rw [onR_out gr]); (try rw [ekk]); (try rfl))) (congrArg (fun z => (wM cI cZ mq ma mg (sF mh 29 z) mF mE)) (show (mh 29) = (sFlat (mg 2) (mF 3) (mh 29) r) from by unfold sFlat; (try rw [onR_out gr]); (try rw [ekk]); (try rfl))) dX6_flatter_9
  · subst w2
    obtain ⟨j, hj, rfl⟩ := inR_ex (Classical.not_not.mp h2) (by omega)
    refine n_if_eq X 10 dX6_flatter_5 (by decide) (by decide) (fun c5 => ?_) (fun c5 => by exact absurd c5 (by decide))
    rcases (show mF 3 j = 0 ∨ mF 3 j = 1 ∨ mF 3 j = 2 by have := hk j; omega) with ek | ek | ek
    · have ekk := ek
      refine x_aload_n X dX6_flatter_10 rfl (lv_at hl 0 rfl) ?_
      refine x_aload_n X dX6_flatter_11 rfl (lv_at hl 0 rfl) ?_
      refine x_get X hW (v := .ref (ma 3)) hi6 0 rfl rfl 3 (by decide) (List.mem_of_getElem? (i := 1) rfl) rfl rfl dX6_flatter_12 ?_
      refine x_iload_n X dX6_flatter_15 rfl (lv_at hl 1 rfl) ?_
      refine n_iald X hW (f := mF 3) 1 0 rfl rfl (by omega) (by decide) dX6_flatter_16 ?_
      refine n_as0 (b := 0) ek ?_
      refine x_iconst (v := nI 2) X dX6_flatter_17 (by decide) ?_
      refine n_icmp_ne X 25 dX6_flatter_18 (by decide) (by decide) (by decide) (fun c18 => ?_) (fun c18 => by exact absurd c18 (by decide))
      refine x_iconst (v := nI 4) X dX6_flatter_25 (by decide) ?_
      refine x_callVv0 X hW (As := [.int (nI 4)]) (rest := []) (c_X6_traced l D cI cZ cO mq ma mg mh mF mE _ 4) (cwV 1 X.2.2.2.2.2.1 gX6_flatter_X6_traced rfl rfl rfl (by decide +kernel) ⟨Nat.le_of_ble_eq_true rfl, Nat.le_of_ble_eq_true rfl⟩) 0 5 rfl rfl rfl rfl hl.1 rfl (Nat.le_of_ble_eq_true rfl) ⟨Nat.le_of_ble_eq_true rfl, Nat.le_of_ble_eq_true rfl⟩ dX6_flatter_26 (fun u4 H locs w26 hW => ?_)
      have hW : Wd D A s.heap H locs (wM cI cZ mq ma mg (sF mh 29 (trk 4 ((mh 29)))) mF mE) := hW
      replace w26 : True := w26
      refine x_aload_n X dX6_flatter_29 rfl (lv_at hl 0 rfl) ?_
      refine x_get X hW (v := .ref (ma 3)) hi6 0 rfl rfl 3 (by decide) (List.mem_of_getElem? (i := 1) rfl) rfl rfl dX6_flatter_30 ?_
      refine x_iload_n X dX6_flatter_33 rfl (lv_at hl 1 rfl) ?_
      refine n_iald X hW (f := mF 3) 1 0 rfl rfl (by omega) (by decide) dX6_flatter_34 ?_
      refine n_as0 (b := 0) ek ?_
      refine x_iconst (v := nI 2) X dX6_flatter_35 (by decide) ?_
      refine n_icmp_ne X 44 dX6_flatter_36 (by decide) (by decide) (by decide) (fun c36 => ?_) (fun c36 => by exact absurd c36 (by decide))
      refine x_iload_n X dX6_flatter_44 rfl (lv_at hl 1 rfl) ?_
      exact x_iret X hW rfl () ((by unfold aFlat; (try rw [onR_in hj (by omega)]); (try rw [ekk]); (try rfl))) (congrArg (fun z => (wM cI cZ mq ma mg (sF mh 29 z) mF mE)) (show (trk 4 ((mh 29))) = (sFlat (mg 2) (mF 3) (mh 29) (nI j)) from by unfold sFlat; (try rw [onR_in hj (by omega)]); (try rw [ekk]); (try rfl))) dX6_flatter_45
    · have ekk := ek
      refine x_aload_n X dX6_flatter_10 rfl (lv_at hl 0 rfl) ?_
      refine x_aload_n X dX6_flatter_11 rfl (lv_at hl 0 rfl) ?_
      refine x_get X hW (v := .ref (ma 3)) hi6 0 rfl rfl 3 (by decide) (List.mem_of_getElem? (i := 1) rfl) rfl rfl dX6_flatter_12 ?_
      refine x_iload_n X dX6_flatter_15 rfl (lv_at hl 1 rfl) ?_
      refine n_iald X hW (f := mF 3) 1 0 rfl rfl (by omega) (by decide) dX6_flatter_16 ?_
      refine n_as0 (b := 1) ek ?_
      refine x_iconst (v := nI 2) X dX6_flatter_17 (by decide) ?_
      refine n_icmp_ne X 25 dX6_flatter_18 (by decide) (by decide) (by decide) (fun c18 => ?_) (fun c18 => by exact absurd c18 (by decide))
      refine x_iconst (v := nI 4) X dX6_flatter_25 (by decide) ?_
      refine x_callVv0 X hW (As := [.int (nI 4)]) (rest := []) (c_X6_traced l D cI cZ cO mq ma mg mh mF mE _ 4) (cwV 1 X.2.2.2.2.2.1 gX6_flatter_X6_traced rfl rfl rfl (by decide +kernel) ⟨Nat.le_of_ble_eq_true rfl, Nat.le_of_ble_eq_true rfl⟩) 0 5 rfl rfl rfl rfl hl.1 rfl (Nat.le_of_ble_eq_true rfl) ⟨Nat.le_of_ble_eq_true rfl, Nat.le_of_ble_eq_true rfl⟩ dX6_flatter_26 (fun u6 H locs w26 hW => ?_)
      have hW : Wd D A s.heap H locs (wM cI cZ mq ma mg (sF mh 29 (trk 4 ((mh 29)))) mF mE) := hW
      replace w26 : True := w26
      refine x_aload_n X dX6_flatter_29 rfl (lv_at hl 0 rfl) ?_
      refine x_get X hW (v := .ref (ma 3)) hi6 0 rfl rfl 3 (by decide) (List.mem_of_getElem? (i := 1) rfl) rfl rfl dX6_flatter_30 ?_
      refine x_iload_n X dX6_flatter_33 rfl (lv_at hl 1 rfl) ?_
      refine n_iald X hW (f := mF 3) 1 0 rfl rfl (by omega) (by decide) dX6_flatter_34 ?_
      refine n_as0 (b := 1) ek ?_
      refine x_iconst (v := nI 2) X dX6_flatter_35 (by decide) ?_
      refine n_icmp_ne X 44 dX6_flatter_36 (by decide) (by decide) (by decide) (fun c36 => ?_) (fun c36 => by exact absurd c36 (by decide))
      refine x_iload_n X dX6_flatter_44 rfl (lv_at hl 1 rfl) ?_
      exact x_iret X hW rfl () ((by unfold aFlat; (try rw [onR_in hj (by omega)]); (try rw [ekk]); (try rfl))) (congrArg (fun z => (wM cI cZ mq ma mg (sF mh 29 z) mF mE)) (show (trk 4 ((mh 29))) = (sFlat (mg 2) (mF 3) (mh 29) (nI j)) from by unfold sFlat; (try rw [onR_in hj (by omega)]); (try rw [ekk]); (try rfl))) dX6_flatter_45
    · have ekk := ek
      refine x_aload_n X dX6_flatter_10 rfl (lv_at hl 0 rfl) ?_
      refine x_aload_n X dX6_flatter_11 rfl (lv_at hl 0 rfl) ?_
      refine x_get X hW (v := .ref (ma 3)) hi6 0 rfl rfl 3 (by decide) (List.mem_of_getElem? (i := 1) rfl) rfl rfl dX6_flatter_12 ?_
      refine x_iload_n X dX6_flatter_15 rfl (lv_at hl 1 rfl) ?_
      refine n_iald X hW (f := mF 3) 1 0 rfl rfl (by omega) (by decide) dX6_flatter_16 ?_
      refine n_as0 (b := 2) ek ?_
      refine x_iconst (v := nI 2) X dX6_flatter_17 (by decide) ?_
      refine n_icmp_ne X 25 dX6_flatter_18 (by decide) (by decide) (by decide) (fun c18 => by exact absurd c18 (by decide)) (fun c18 => ?_)
      refine x_iconst (v := nI 5) X dX6_flatter_21 (by decide) ?_
      refine x_goto X 26 dX6_flatter_22 (by decide) ?_
      refine x_callVv0 X hW (As := [.int (nI 5)]) (rest := []) (c_X6_traced l D cI cZ cO mq ma mg mh mF mE _ 5) (cwV 1 X.2.2.2.2.2.1 gX6_flatter_X6_traced rfl rfl rfl (by decide +kernel) ⟨Nat.le_of_ble_eq_true rfl, Nat.le_of_ble_eq_true rfl⟩) 0 5 rfl rfl rfl rfl hl.1 rfl (Nat.le_of_ble_eq_true rfl) ⟨Nat.le_of_ble_eq_true rfl, Nat.le_of_ble_eq_true rfl⟩ dX6_flatter_26 (fun u8 H locs w26 hW => ?_)
      have hW : Wd D A s.heap H locs (wM cI cZ mq ma mg (sF mh 29 (trk 5 ((mh 29)))) mF mE) := hW
      replace w26 : True := w26
      refine x_aload_n X dX6_flatter_29 rfl (lv_at hl 0 rfl) ?_
      refine x_get X hW (v := .ref (ma 3)) hi6 0 rfl rfl 3 (by decide) (List.mem_of_getElem? (i := 1) rfl) rfl rfl dX6_flatter_30 ?_
      refine x_iload_n X dX6_flatter_33 rfl (lv_at hl 1 rfl) ?_
      refine n_iald X hW (f := mF 3) 1 0 rfl rfl (by omega) (by decide) dX6_flatter_34 ?_
      refine n_as0 (b := 2) ek ?_
      refine x_iconst (v := nI 2) X dX6_flatter_35 (by decide) ?_
      refine n_icmp_ne X 44 dX6_flatter_36 (by decide) (by decide) (by decide) (fun c36 => by exact absurd c36 (by decide)) (fun c36 => ?_)
      refine x_bipush (v := nI 70) X dX6_flatter_39 (by decide) ?_
      refine x_goto X 45 dX6_flatter_41 (by decide) ?_
      exact x_iret X hW rfl () ((by unfold aFlat; (try rw [onR_in hj (by omega)]); (try rw [ekk]); (try rfl))) (congrArg (fun z => (wM cI cZ mq ma mg (sF mh 29 z) mF mE)) (show (trk 5 ((mh 29))) = (sFlat (mg 2) (mF 3) (mh 29) (nI j)) from by unfold sFlat; (try rw [onR_in hj (by omega)]); (try rw [ekk]); (try rfl))) dX6_flatter_45
set_option maxHeartbeats 4000000 in
set_option maxRecDepth 100000 in
theorem c_X6_as (l : Launch) (D : va_G) (cI cZ cO : ClassId) (mq : Nat) (ma : Nat → Nat) (mg : Nat → Nat) (mh : Nat → Int32) (mF : Nat → Nat → Nat) (mE : Nat → Nat → Int32) (sz : Nat) (r : Int32) (w : Int32)  (hn : mg 2 ≤ 4) (hk : ∀ z0, mF 3 z0 ≤ 2) : Met l yX6_as wsX6_as ({ frames := 2, cells := 0, slots := 0, locals := 46 }) (va_Pc [.ref mq, .int r, .int w] (st_W D (ty3 cI cZ cO) (wM cI cZ mq ma mg mh mF mE) sz)) (va_Qi (fun (rr : Int32) (u : Unit) => rr = aAs (mg 2) (mF 3) r w) (fun u t => at_W D (ty3 cI cZ cO) (va_A (wM cI cZ mq ma mg mh mF mE) sz) (wM cI cZ mq ma (sF mg 0 (fAs (mg 2) (mF 3) r w)) mh mF mE) t) (va_A (wM cI cZ mq ma mg mh mF mE) sz)) 0 0 (va_A (wM cI cZ mq ma mg mh mF mE) sz) := by
  refine Met.goi (cc := cX6_as) (maxL := 3) (ret := (some .int)) (by decide) rfl (Nat.le_of_ble_eq_true rfl) (fun p e s m below meth c A ls X hW hl => ?_)
  have hi6 : ∀ w ∈ wsX60, w ∈ wsX6_as := fun w h => List.mem_cons_of_mem _ (List.mem_append_right _ h)
  have hl : lv_has ls 3 [(0, .ref mq), (1, .int r), (2, .int w)] := hl
  refine x_aload_n X dX6_as_0 rfl (lv_at hl 0 rfl) ?_
  refine x_iload_n X dX6_as_1 rfl (lv_at hl 1 rfl) ?_
  refine x_callVi0 X hW (As := [.int r]) (rest := []) (c_X6_noReach l D cI cZ cO mq ma mg mh mF mE _ r (show (mg 2) ≤ 4 from (by first | assumption | omega))) (cwV 1 X.2.2.2.2.2.1 gX6_as_X6_noReach rfl rfl rfl (by decide +kernel) ⟨Nat.le_of_ble_eq_true rfl, Nat.le_of_ble_eq_true rfl⟩) 0 5 rfl rfl rfl rfl hl.1 rfl (Nat.le_of_ble_eq_true rfl) ⟨Nat.le_of_ble_eq_true rfl, Nat.le_of_ble_eq_true rfl⟩ dX6_as_2 (fun r1 u2 H locs w2 hW => ?_)
  have hW : Wd D A s.heap H locs (wM cI cZ mq ma mg mh mF mE) := hW
  replace w2 : (r1 = nI 1 ∧ (¬ inR r ((mg 2))) ∨ r1 = nI 0 ∧ ¬ (¬ inR r ((mg 2)))) := w2
  rcases w2 with ⟨w2, h2⟩ | ⟨w2, h2⟩
  · subst w2
    have gr := h2
    refine n_if_eq X 14 dX6_as_5 (by decide) (by decide) (fun c5 => by exact absurd c5 (by decide)) (fun c5 => ?_)
    refine x_aload_n X dX6_as_8 rfl (lv_at hl 0 rfl) ?_
    refine x_iconst (v := (-1 : Int32)) X dX6_as_9 (by decide) ?_
    refine x_callVi0 X hW (As := [.int (-1 : Int32)]) (rest := []) (c_X6_refused l D cI cZ cO mq ma mg mh mF mE _ (-1 : Int32)) (cwV 1 X.2.2.2.2.2.1 gX6_as_X6_refused rfl rfl rfl (by decide +kernel) ⟨Nat.le_of_ble_eq_true rfl, Nat.le_of_ble_eq_true rfl⟩) 0 5 rfl rfl rfl rfl hl.1 rfl (Nat.le_of_ble_eq_true rfl) ⟨Nat.le_of_ble_eq_true rfl, Nat.le_of_ble_eq_true rfl⟩ dX6_as_10 (fun r3 u4 H locs w10 hW => ?_)
    have hW : Wd D A s.heap H locs (wM cI cZ mq ma (sF mg 0 0) mh mF mE) := hW
    replace w10 : r3 = (-1 : Int32) := w10
    subst w10
    exact x_iret X hW rfl () ((by unfold aAs; (try rw [onR_out gr]); (try rfl))) (congrArg (fun z => (wM cI cZ mq ma (sF mg 0 z) mh mF mE)) (show 0 = (fAs (mg 2) (mF 3) r w) from by unfold fAs; (try rw [onR_out gr]); (try rfl))) dX6_as_13
  · subst w2
    obtain ⟨j, hj, rfl⟩ := inR_ex (Classical.not_not.mp h2) (by omega)
    refine n_if_eq X 14 dX6_as_5 (by decide) (by decide) (fun c5 => ?_) (fun c5 => by exact absurd c5 (by decide))
    refine x_iload_n X dX6_as_14 rfl (lv_at hl 2 rfl) ?_
    refine x_i2l (v := w.toInt64) X dX6_as_15 rfl ?_
    refine x_lconst (v := 0) X dX6_as_16 (by decide) ?_
    refine x_ldc2 (v := (2)) X (List.mem_of_getElem? (i := 1) rfl) dX6_as_17 ?_
    refine x_callSie X hW (As := [.long w.toInt64, .long (0 : Int64), .long (2 : Int64)]) (rest := []) (c_X6_in l D cI cZ cO  _ w.toInt64 (0 : Int64) (2 : Int64)) (va_cwS 3 X.2.2.2.2.2.1 gX6_as_X6_in rfl rfl rfl (by decide +kernel) ⟨Nat.le_of_ble_eq_true rfl, Nat.le_of_ble_eq_true rfl⟩) rfl hl.1 rfl (Nat.le_of_ble_eq_true rfl) ⟨Nat.le_of_ble_eq_true rfl, Nat.le_of_ble_eq_true rfl⟩ dX6_as_20 (fun r5 u6 H locs w20 hW => ?_)
    have hW : Wd D A s.heap H locs (wM cI cZ mq ma mg mh mF mE) := hW
    replace w20 : (r5 = nI 1 ∧ ((0 : Int64).toInt ≤ w.toInt64.toInt ∧ w.toInt64.toInt ≤ (2 : Int64).toInt) ∨ r5 = nI 0 ∧ ¬ ((0 : Int64).toInt ≤ w.toInt64.toInt ∧ w.toInt64.toInt ≤ (2 : Int64).toInt)) := w20
    rcases w20 with ⟨w20, h20⟩ | ⟨w20, h20⟩
    · subst w20
      obtain ⟨kw, hkw, rfl⟩ := inR_ex ((in_iff (r := w) (n := 3) l_0 (by decide)).mp h20) (by omega)
      refine n_if_ne X 33 dX6_as_23 (by decide) (by decide) (fun c23 => ?_) (fun c23 => by exact absurd c23 (by decide))
      have b1 := hk j
      refine x_aload_n X dX6_as_33 rfl (lv_at hl 0 rfl) ?_
      refine x_get X hW (v := .ref (ma 3)) hi6 0 rfl rfl 3 (by decide) (List.mem_of_getElem? (i := 2) rfl) rfl rfl dX6_as_34 ?_
      refine x_iload_n X dX6_as_37 rfl (lv_at hl 1 rfl) ?_
      refine n_iald X hW (f := mF 3) 1 0 rfl rfl (by omega) (by decide) dX6_as_38 ?_
      refine x_iload_n X dX6_as_39 rfl (lv_at hl 2 rfl) ?_
      refine n_icmp_lt X 51 dX6_as_40 (by decide) (by omega) (by omega) (fun c40 => ?_) (fun c40 => ?_)
      · refine x_aload_n X dX6_as_51 rfl (lv_at hl 0 rfl) ?_
        refine x_iconst (v := nI 2) X dX6_as_52 (by decide) ?_
        refine x_callVi0 X hW (As := [.int (nI 2)]) (rest := []) (c_X6_failed l D cI cZ cO mq ma mg mh mF mE _ 2) (cwV 1 X.2.2.2.2.2.1 gX6_as_X6_failed rfl rfl rfl (by decide +kernel) ⟨Nat.le_of_ble_eq_true rfl, Nat.le_of_ble_eq_true rfl⟩) 0 5 rfl rfl rfl rfl hl.1 rfl (Nat.le_of_ble_eq_true rfl) ⟨Nat.le_of_ble_eq_true rfl, Nat.le_of_ble_eq_true rfl⟩ dX6_as_53 (fun r7 u8 H locs w53 hW => ?_)
        have hW : Wd D A s.heap H locs (wM cI cZ mq ma (sF mg 0 2) mh mF mE) := hW
        replace w53 : r7 = (-10) - nI 2 := w53
        subst w53
        exact x_iret X hW rfl () ((by unfold aAs; (try rw [onR_in hj (by omega)]); (try rw [onR_in hkw (by omega)]); (try rw [if_neg (by omega)]); (try rfl))) (congrArg (fun z => (wM cI cZ mq ma (sF mg 0 z) mh mF mE)) (show 2 = (fAs (mg 2) (mF 3) (nI j) (nI kw)) from by unfold fAs; (try rw [onR_in hj (by omega)]); (try rw [onR_in hkw (by omega)]); (try rw [if_neg (by omega)]); (try rfl))) dX6_as_56
      · refine x_aload_n X dX6_as_43 rfl (lv_at hl 0 rfl) ?_
        refine x_iconst (v := nI 1) X dX6_as_44 (by decide) ?_
        refine x_callVi0 X hW (As := [.int (nI 1)]) (rest := []) (c_X6_refused l D cI cZ cO mq ma mg mh mF mE _ (nI 1)) (cwV 1 X.2.2.2.2.2.1 gX6_as_X6_refused rfl rfl rfl (by decide +kernel) ⟨Nat.le_of_ble_eq_true rfl, Nat.le_of_ble_eq_true rfl⟩) 0 5 rfl rfl rfl rfl hl.1 rfl (Nat.le_of_ble_eq_true rfl) ⟨Nat.le_of_ble_eq_true rfl, Nat.le_of_ble_eq_true rfl⟩ dX6_as_45 (fun r9 u10 H locs w45 hW => ?_)
        have hW : Wd D A s.heap H locs (wM cI cZ mq ma (sF mg 0 0) mh mF mE) := hW
        replace w45 : r9 = (nI 1) := w45
        subst w45
        refine x_goto X 56 dX6_as_48 (by decide) ?_
        exact x_iret X hW rfl () ((by unfold aAs; (try rw [onR_in hj (by omega)]); (try rw [onR_in hkw (by omega)]); (try rw [if_pos (by omega)]); (try rfl))) (congrArg (fun z => (wM cI cZ mq ma (sF mg 0 z) mh mF mE)) (show 0 = (fAs (mg 2) (mF 3) (nI j) (nI kw)) from by unfold fAs; (try rw [onR_in hj (by omega)]); (try rw [onR_in hkw (by omega)]); (try rw [if_pos (by omega)]); (try rfl))) dX6_as_56
    · subst w20
      have gw := fun q => h20 ((in_iff (r := w) (n := 3) l_0 (by decide)).mpr q)
      refine n_if_ne X 33 dX6_as_23 (by decide) (by decide) (fun c23 => by exact absurd c23 (by decide)) (fun c23 => ?_)
      refine x_aload_n X dX6_as_26 rfl (lv_at hl 0 rfl) ?_
      refine x_bipush (v := (-2 : Int32)) X dX6_as_27 (by decide) ?_
      refine x_callVi0 X hW (As := [.int (-2 : Int32)]) (rest := []) (c_X6_refused l D cI cZ cO mq ma mg mh mF mE _ (-2 : Int32)) (cwV 1 X.2.2.2.2.2.1 gX6_as_X6_refused rfl rfl rfl (by decide +kernel) ⟨Nat.le_of_ble_eq_true rfl, Nat.le_of_ble_eq_true rfl⟩) 0 5 rfl rfl rfl rfl hl.1 rfl (Nat.le_of_ble_eq_true rfl) ⟨Nat.le_of_ble_eq_true rfl, Nat.le_of_ble_eq_true rfl⟩ dX6_as_29 (fun r11 u12 H locs w29 hW => ?_)
      have hW : Wd D A s.heap H locs (wM cI cZ mq ma (sF mg 0 0) mh mF mE) := hW
      replace w29 : r11 = (-2 : Int32) := w29
      subst w29
      exact x_iret X hW rfl () ((by unfold aAs; (try rw [onR_in hj (by omega)]); (try rw [onR_out gw]); (try rfl))) (congrArg (fun z => (wM cI cZ mq ma (sF mg 0 z) mh mF mE)) (show 0 = (fAs (mg 2) (mF 3) (nI j) w) from by unfold fAs; (try rw [onR_in hj (by omega)]); (try rw [onR_out gw]); (try rfl))) dX6_as_32
set_option maxHeartbeats 4000000 in
set_option maxRecDepth 100000 in
theorem c_X6_allLevels (l : Launch) (D : va_G) (cI cZ cO : ClassId) (mq : Nat) (ma : Nat → Nat) (mg : Nat → Nat) (mh : Nat → Int32) (mF : Nat → Nat → Nat) (mE : Nat → Nat → Int32) (sz : Nat)   (hn : mg 2 ≤ 4) (hlv : ∀ z0, mF 4 z0 ≤ 9) : Met l yX6_allLevels wsX6_allLevels ({ frames := 0, cells := 0, slots := 0, locals := 0 }) (va_Pc [.ref mq] (st_W D (ty3 cI cZ cO) (wM cI cZ mq ma mg mh mF mE) sz)) (va_Qi (fun (rr : Int32) (u : Unit) => rr = nI (smN (mF 4) (mg 2))) (fun u t => at_W D (ty3 cI cZ cO) (va_A (wM cI cZ mq ma mg mh mF mE) sz) (wM cI cZ mq ma mg mh mF mE) t) (va_A (wM cI cZ mq ma mg mh mF mE) sz)) 0 0 (va_A (wM cI cZ mq ma mg mh mF mE) sz) := by
  refine Met.goi (cc := cX6_allLevels) (maxL := 3) (ret := (some .int)) (by decide) rfl (Nat.le_of_ble_eq_true rfl) (fun p e s m below meth c A ls X hW hl => ?_)
  have hi6 : ∀ w ∈ wsX60, w ∈ wsX6_allLevels := fun w h => List.mem_cons_of_mem _ (List.mem_append_right _ h)
  have hl : lv_has ls 3 [(0, .ref mq)] := hl
  refine x_iconst (v := nI 0) X dX6_allLevels_0 (by decide) ?_
  refine x_istore_n X [(1, .int (nI 0)), (0, .ref mq)] dX6_allLevels_1 rfl hl (by decide) rfl (fun ls hl => ?_)
  refine x_iconst (v := nI 0) X dX6_allLevels_2 (by decide) ?_
  refine x_istore_n X [(2, .int (nI 0)), (1, .int (nI 0)), (0, .ref mq)] dX6_allLevels_3 rfl hl (by decide) rfl (fun ls hl => ?_)
  refine W.loop (σ := (Nat)) (fun u H locs ls => (u ≤ mg 2) ∧ Wd D A s.heap H locs (wM cI cZ mq ma mg mh mF mE) ∧ lv_has ls 3 [(2, .int (nI u)), (1, .int (nI (smN (mF 4) u))), (0, .ref mq)]) (fun u => mg 2 - u) (fun u H locs ls hI ih => ?_) 0 ⟨(show 0 ≤ mg 2 from (by omega)), hW, hl⟩
  obtain ⟨i, ie⟩ : ∃ z, z = u := ⟨_, rfl⟩
  subst ie
  obtain ⟨hv, hW, hl⟩ := hI
  have hv : i ≤ mg 2 := hv
  have hW : Wd D A s.heap H locs (wM cI cZ mq ma mg mh mF mE) := hW
  have hl : lv_has ls 3 [(2, .int (nI i)), (1, .int (nI (smN (mF 4) i))), (0, .ref mq)] := hl
  have ih4 := ih
  refine x_iload_n X dX6_allLevels_4 rfl (lv_at hl 0 rfl) ?_
  refine x_aload_n X dX6_allLevels_5 rfl (lv_at hl 2 rfl) ?_
  refine x_get X hW (v := .int (nI (mg 2))) hi6 0 rfl rfl 2 (by decide) (List.mem_of_getElem? (i := 1) rfl) rfl rfl dX6_allLevels_6 ?_
  refine n_icmp_ge X 27 dX6_allLevels_9 (by decide) (by omega) (by omega) (fun c9 => ?_) (fun c9 => ?_)
  · have ei : i = mg 2 := by omega
    refine x_iload_n X dX6_allLevels_27 rfl (lv_at hl 1 rfl) ?_
    exact x_iret X hW rfl () ((congrArg nI (show smN (mF 4) i = smN (mF 4) (mg 2) from by rw [ei]))) rfl dX6_allLevels_28
  · refine x_iload_n X dX6_allLevels_12 rfl (lv_at hl 1 rfl) ?_
    refine x_aload_n X dX6_allLevels_13 rfl (lv_at hl 2 rfl) ?_
    refine x_get X hW (v := .ref (ma 4)) hi6 0 rfl rfl 4 (by decide) (List.mem_of_getElem? (i := 2) rfl) rfl rfl dX6_allLevels_14 ?_
    refine x_iload_n X dX6_allLevels_17 rfl (lv_at hl 0 rfl) ?_
    refine n_iald X hW (f := mF 4) 2 0 rfl rfl (by omega) (by decide) dX6_allLevels_18 ?_
    refine n_iadd X dX6_allLevels_19 ?_
    refine x_istore_n X [(1, .int (nI ((smN (mF 4) i) + mF 4 i))), (2, .int (nI i)), (0, .ref mq)] dX6_allLevels_20 rfl hl (by decide) rfl (fun ls hl => ?_)
    refine x_iinc X [(2, .int (nI (i + 1))), (1, .int (nI ((smN (mF 4) i) + mF 4 i))), (0, .ref mq)] (k := 1) dX6_allLevels_21 hl rfl (nI_inc1 i) (by decide) rfl (fun ls hl => ?_)
    refine x_goto X 4 dX6_allLevels_24 (by decide) ?_
    exact ih4 (i + 1) _ _ _ ⟨(show (i + 1) ≤ mg 2 from (by omega)), hW, lv_sub hl [0, 1, 2] rfl⟩ (by omega)
set_option maxHeartbeats 4000000 in
set_option maxRecDepth 100000 in
theorem c_X6_many (l : Launch) (D : va_G) (cI cZ cO : ClassId) (mq : Nat) (ma : Nat → Nat) (mg : Nat → Nat) (mh : Nat → Int32) (mF : Nat → Nat → Nat) (mE : Nat → Nat → Int32) (sz : Nat) (w : Int32)  (hn : mg 2 ≤ 4) (hlv : ∀ z0, mF 4 z0 ≤ 9) : Met l yX6_many wsX6_many ({ frames := 1, cells := 0, slots := 0, locals := 22 }) (va_Pc [.ref mq, .int w] (st_W D (ty3 cI cZ cO) (wM cI cZ mq ma mg mh mF mE) sz)) (va_Qi (fun (rr : Int32) (u : Unit) => rr = aMany (mg 2) (mg 1) (mg 21) (mF 4) w) (fun u t => at_W D (ty3 cI cZ cO) (va_A (wM cI cZ mq ma mg mh mF mE) sz) (wM cI cZ mq ma mg mh mF mE) t) (va_A (wM cI cZ mq ma mg mh mF mE) sz)) 0 0 (va_A (wM cI cZ mq ma mg mh mF mE) sz) := by
  refine Met.goi (cc := cX6_many) (maxL := 2) (ret := (some .int)) (by decide) rfl (Nat.le_of_ble_eq_true rfl) (fun p e s m below meth c A ls X hW hl => ?_)
  have hi6 : ∀ w ∈ wsX60, w ∈ wsX6_many := fun w h => List.mem_cons_of_mem _ (List.mem_append_right _ h)
  have hl : lv_has ls 2 [(0, .ref mq), (1, .int w)] := hl
  refine x_iload_n X dX6_many_0 rfl (lv_at hl 1 rfl) ?_
  rcases (show ¬ inR w 4 ∨ w = nI 0 ∨ w = nI 1 ∨ w = nI 2 ∨ w = nI 3 from sw4 w) with hq | rfl | rfl | rfl | rfl
  · have gw := hq
    refine lv_tableOut (tgt := 52) X.1 X.2.1 dX6_many_1 (by have z1 := gw; omega) (by decide) ?_
    refine x_bipush (v := (-2 : Int32)) X dX6_many_52 (by decide) ?_
    exact x_iret X hW rfl () ((by unfold aMany; (try rw [onR_out gw]); (try rfl))) rfl dX6_many_54
  · refine lv_tableIn (off := 31) (tgt := 32) X.1 X.2.1 dX6_many_1 (by decide) (by decide) (by decide) (by decide) ?_
    refine x_aload_n X dX6_many_32 rfl (lv_at hl 0 rfl) ?_
    refine x_get X hW (v := .int (nI (mg 2))) hi6 0 rfl rfl 2 (by decide) (List.mem_of_getElem? (i := 1) rfl) rfl rfl dX6_many_33 ?_
    exact x_iret X hW rfl () ((by unfold aMany; (try rw [onR_in (by decide) (by decide)]); (try rw [aMany0]); (try rfl))) rfl dX6_many_36
  · refine lv_tableIn (off := 36) (tgt := 37) X.1 X.2.1 dX6_many_1 (by decide) (by decide) (by decide) (by decide) ?_
    refine x_aload_n X dX6_many_37 rfl (lv_at hl 0 rfl) ?_
    refine x_get X hW (v := .int (nI (mg 1))) hi6 0 rfl rfl 1 (by decide) (List.mem_of_getElem? (i := 2) rfl) rfl rfl dX6_many_38 ?_
    exact x_iret X hW rfl () ((by unfold aMany; (try rw [onR_in (by decide) (by decide)]); (try rw [aMany1]); (try rfl))) rfl dX6_many_41
  · refine lv_tableIn (off := 41) (tgt := 42) X.1 X.2.1 dX6_many_1 (by decide) (by decide) (by decide) (by decide) ?_
    refine x_aload_n X dX6_many_42 rfl (lv_at hl 0 rfl) ?_
    refine x_callVi0 X hW (As := []) (rest := []) (c_X6_allLevels l D cI cZ cO mq ma mg mh mF mE _ (show (mg 2) ≤ 4 from (by first | assumption | omega)) (show ∀ z0, (mF 4) z0 ≤ 9 from (by first | assumption | omega))) (cwV 0 X.2.2.2.2.2.1 gX6_many_X6_allLevels rfl rfl rfl (by decide +kernel) ⟨Nat.le_of_ble_eq_true rfl, Nat.le_of_ble_eq_true rfl⟩) 0 5 rfl rfl rfl rfl hl.1 rfl (Nat.le_of_ble_eq_true rfl) ⟨Nat.le_of_ble_eq_true rfl, Nat.le_of_ble_eq_true rfl⟩ dX6_many_43 (fun r1 u2 H locs w43 hW => ?_)
    have hW : Wd D A s.heap H locs (wM cI cZ mq ma mg mh mF mE) := hW
    replace w43 : r1 = nI (smN ((mF 4)) ((mg 2))) := w43
    subst w43
    exact x_iret X hW rfl () ((by unfold aMany; (try rw [onR_in (by decide) (by decide)]); (try rw [aMany2]); (try rfl))) rfl dX6_many_46
  · refine lv_tableIn (off := 46) (tgt := 47) X.1 X.2.1 dX6_many_1 (by decide) (by decide) (by decide) (by decide) ?_
    refine x_aload_n X dX6_many_47 rfl (lv_at hl 0 rfl) ?_
    refine x_get X hW (v := .int (nI (mg 21))) hi6 0 rfl rfl 21 (by decide) (List.mem_of_getElem? (i := 3) rfl) rfl rfl dX6_many_48 ?_
    exact x_iret X hW rfl () ((by unfold aMany; (try rw [onR_in (by decide) (by decide)]); (try rw [aMany3]); (try rfl))) rfl dX6_many_51
