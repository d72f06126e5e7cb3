/-! a text: how far it goes on -/
def isD (c : Int32) (k : Nat) : Prop := ∃ v, v ≤ k ∧ c = nI (48 + v)
def isL (c : Int32) : Prop := c = nI 109 ∨ c = nI 112 ∨ c = nI 115
def goN (p : Nat) (c : Int32) : Prop := if p = 0 then c = nI 108 else if p = 1 then isD c 3 else if (p - 2) % 4 = 0 then c = nI 59 else if (p - 2) % 4 = 1 then isL c else isD c 9
def okTo (cf : Nat → Int32) (p : Nat) : Prop := ∀ q, q < p → goN q (cf q)
def ffP (cf : Nat → Int32) (n p : Nat) : Prop := okTo cf p ∧ p ≤ n ∧ p ≤ 18 ∧ (p < n → p < 18 → ¬ goN p (cf p))
def wholeP (cf : Nat → Int32) (n : Nat) : Prop := okTo cf n ∧ n ≤ 18 ∧ 10 ≤ n ∧ n % 4 = 2
theorem goN0 {c : Int32} : goN 0 c ↔ c = nI 108 := by unfold goN; rw [if_pos rfl]
theorem goN1 {c : Int32} : goN 1 c ↔ isD c 3 := by unfold goN; rw [if_neg (by decide), if_pos rfl]
theorem goN2 {c : Int32} {p k : Nat} (h : p = 2 + 4 * k) : goN p c ↔ c = nI 59 := by unfold goN; rw [if_neg (by omega), if_neg (by omega), if_pos (by omega)]
theorem goN3 {c : Int32} {p k : Nat} (h : p = 2 + 4 * k + 1) : goN p c ↔ isL c := by unfold goN; rw [if_neg (by omega), if_neg (by omega), if_neg (by omega), if_pos (by omega)]
theorem goN4 {c : Int32} {p k : Nat} (h : p = 2 + 4 * k + 2 ∨ p = 2 + 4 * k + 3) : goN p c ↔ isD c 9 := by unfold goN; rw [if_neg (by omega), if_neg (by omega), if_neg (by omega), if_neg (by omega)]
theorem okTo_0 (cf : Nat → Int32) : okTo cf 0 := fun q h => absurd h (Nat.not_lt_zero q)
theorem okTo_s {cf : Nat → Int32} {p : Nat} (h : okTo cf p) (h2 : goN p (cf p)) : okTo cf (p + 1) := by
  intro q hq
  by_cases e : q = p
  · rw [e]; exact h2
  · exact h q (by omega)
theorem ff_one {cf : Nat → Int32} {n p p' : Nat} (h : ffP cf n p) (h' : ffP cf n p') : p = p' := by
  obtain ⟨a1, a2, a3, a4⟩ := h
  obtain ⟨b1, b2, b3, b4⟩ := h'
  rcases Nat.lt_trichotomy p p' with q | q | q
  · exact absurd (b1 p q) (a4 (by omega) (by omega))
  · exact q
  · exact absurd (a1 p' q) (b4 (by omega) (by omega))
theorem ff_bad {cf : Nat → Int32} {n p : Nat} (h : okTo cf p) (hn : p < n) (h18 : p ≤ 18) (hb : ¬ goN p (cf p)) : ffP cf n p := ⟨h, by omega, h18, fun _ _ => hb⟩
theorem ff_end {cf : Nat → Int32} {n p : Nat} (h : okTo cf p) (hn : p = n) (h18 : p ≤ 18) : ffP cf n p := ⟨h, by omega, h18, fun q _ => by omega⟩
theorem ff_big {cf : Nat → Int32} {n p : Nat} (h : okTo cf p) (hn : p ≤ n) (h18 : p = 18) : ffP cf n p := ⟨h, hn, by omega, fun _ q => by omega⟩
theorem nw_bad {cf : Nat → Int32} {n p : Nat} (hn : p < n) (hb : ¬ goN p (cf p)) : ¬ wholeP cf n := fun q => hb (q.1 p hn)
theorem nw_num {cf : Nat → Int32} {n : Nat} (h : ¬ n ≤ 18 ∨ ¬ 10 ≤ n ∨ ¬ n % 4 = 2) : ¬ wholeP cf n := fun q => by
  obtain ⟨-, h1, h2, h3⟩ := q; omega
noncomputable def ffN (cf : Nat → Int32) (n : Nat) : Nat := @dite _ (∃ p, ffP cf n p) (Classical.propDecidable _) (fun h => Classical.choose h) (fun _ => 0)
theorem ffN_eq {cf : Nat → Int32} {n p : Nat} (h : ffP cf n p) : ffN cf n = p := by
  unfold ffN
  rw [dif_pos ⟨p, h⟩]
  exact ff_one (Classical.choose_spec (⟨p, h⟩ : ∃ p, ffP cf n p)) h
/-- the number of a digit's code; the kind of a letter -/
def dgt (c : Int32) : Nat := c.toNatClampNeg - 48
def kl (c : Int32) : Nat := if c = nI 109 then 0 else if c = nI 112 then 1 else 2
theorem dgt_of {c : Int32} {v : Nat} (h : c = nI (48 + v)) (hv : v ≤ 9) : dgt c = v := by
  unfold dgt; rw [h, nI_clamp (by omega)]; omega
theorem sub48 {x : Int32} {j : Nat} (h : x - nI 48 = nI j) : x = nI (48 + j) := by
  have e : x = (x - nI 48) + nI 48 := by rw [Int32.sub_add_cancel]
  rw [e, h, nI_add, Nat.add_comm]
theorem sub48' {j : Nat} : nI (48 + j) - nI 48 = nI j := by rw [pk_sub (by omega)]; congr 1; omega
theorem isD_of {x : Int32} {k : Nat} (h : inR (x - nI 48) (k + 1)) (hk : k ≤ 9) : ∃ v, v ≤ k ∧ x - nI 48 = nI v ∧ x = nI (48 + v) := by
  obtain ⟨j, hj, e⟩ := inR_ex h (by omega)
  exact ⟨j, by omega, e, sub48 e⟩
theorem isD_no {x : Int32} {k : Nat} (h : ¬ inR (x - nI 48) (k + 1)) (hk : k ≤ 9) : ¬ isD x k := by
  intro ⟨v, hv, e⟩
  apply h
  rw [e, sub48']
  exact (inR_nI (by omega)).mpr (by omega)
noncomputable def txA (cf : Nat → Int32) (n : Nat) : Int32 := @ite _ (wholeP cf n) (Classical.propDecidable _) (nI ((n - 2) / 4)) ((-100) - nI (ffN cf n))
theorem txA_y {cf : Nat → Int32} {n : Nat} (h : wholeP cf n) : txA cf n = nI ((n - 2) / 4) := if_pos h
theorem txA_n {cf : Nat → Int32} {n p : Nat} (h : ¬ wholeP cf n) (h2 : ffP cf n p) : txA cf n = (-100) - nI p := by
  unfold txA; rw [if_neg h, ffN_eq h2]
def tK (cf : Nat → Int32) (i : Nat) : Nat := kl (cf (2 + 4 * i + 1))
def tL (cf : Nat → Int32) (i : Nat) : Nat := dgt (cf (2 + 4 * i + 2))
def tM (cf : Nat → Int32) (i : Nat) : Nat := dgt (cf (2 + 4 * i + 3))
noncomputable def aCanal (th ln ct : Nat → Nat) (cs : Nat → Nat → Int32) (k lane i n : Int32) : Int32 :=
  onR k 4 (-1) (fun j => onR lane 3 (-2) (fun _ => if barF (th j) (ln j) (ct j) lane i n = 0 then txA (fun z => cs j (i.toNatClampNeg + z)) n.toNatClampNeg else (-10) - nI (barF (th j) (ln j) (ct j) lane i n)))
def fCanal (th ln ct : Nat → Nat) (k lane i n : Int32) : Nat := onR k 4 0 (fun j => onR lane 3 0 (fun _ => barF (th j) (ln j) (ct j) lane i n))
noncomputable def sCanal {α : Type} (th ln ct : Nat → Nat) (cs : Nat → Nat → Int32) (k lane i n : Int32) (old : α) (new : (Nat → Int32) → Nat → α) : α :=
  onR k 4 old (fun j => onR lane 3 old (fun _ => @ite _ (barF (th j) (ln j) (ct j) lane i n = 0 ∧ wholeP (fun z => cs j (i.toNatClampNeg + z)) n.toNatClampNeg) (Classical.propDecidable _) (new (fun z => cs j (i.toNatClampNeg + z)) n.toNatClampNeg) old))
theorem sF_c {f : Nat → Nat} {g : Nat → Nat} {c x : Nat} (h : ∀ i, i < c → f i = g i) (hx : x = g c) : ∀ i, i < c + 1 → sF f c x i = g i := by
  intro i hi
  rw [sF_ap]
  by_cases e : i = c
  · rw [if_pos e, hx, e]
  · rw [if_neg e]; exact h i (by omega)
theorem isL_cases (c : Int32) : c = nI 109 ∨ c = nI 112 ∨ c = nI 115 ∨ (¬ c = nI 109 ∧ ¬ c = nI 112 ∧ ¬ c = nI 115) := by
  by_cases h1 : c = nI 109
  · exact Or.inl h1
  · by_cases h2 : c = nI 112
    · exact Or.inr (Or.inl h2)
    · by_cases h3 : c = nI 115
      · exact Or.inr (Or.inr (Or.inl h3))
      · exact Or.inr (Or.inr (Or.inr ⟨h1, h2, h3⟩))

set_option maxHeartbeats 4000000 in
set_option maxRecDepth 100000 in
theorem c_X6_codeAt (l : Launch) (D : va_G) (cI cZ cO : ClassId) (mq : Nat) (ma : Nat → Nat) (mg : Nat → Nat) (mh : Nat → Int32) (mF : Nat → Nat → Nat) (mE : Nat → Nat → Int32) (sz : Nat) (fr : Nat) (nn : Nat)  (hfr : fr + nn ≤ 240) (h6 : mg 6 ≤ 240) : Met l yX6_codeAt wsX6_codeAt ({ frames := 0, cells := 0, slots := 0, locals := 0 }) (va_Pc [.ref mq, .int (nI fr), .int (nI nn)] (st_W D (ty3 cI cZ cO) (wM cI cZ mq ma mg mh mF mE) sz)) (va_Qi (fun (rr : Int32) (u : Unit) => (rr = mE 27 (fr + mg 6) ∧ (mg 6 < nn) ∨ rr = (-9 : Int32) ∧ (¬ mg 6 < nn))) (fun u t => at_W D (ty3 cI cZ cO) (va_A (wM cI cZ mq ma mg mh mF mE) sz) (wM cI cZ mq ma mg mh mF mE) t) (va_A (wM cI cZ mq ma mg mh mF mE) sz)) 0 0 (va_A (wM cI cZ mq ma mg mh mF mE) sz) := by
  refine Met.goi (cc := cX6_codeAt) (maxL := 3) (ret := (some .int)) (by decide) rfl (Nat.le_of_ble_eq_true rfl) (fun p e s m below meth c A ls X hW hl => ?_)
  have hi6 : ∀ w ∈ wsX60, w ∈ wsX6_codeAt := fun w h => List.mem_cons_of_mem _ (List.mem_append_right _ h)
  have hl : lv_has ls 3 [(0, .ref mq), (1, .int (nI fr)), (2, .int (nI nn))] := hl
  refine x_aload_n X dX6_codeAt_0 rfl (lv_at hl 0 rfl) ?_
  refine x_get X hW (v := .int (nI (mg 6))) hi6 0 rfl rfl 6 (by decide) (List.mem_of_getElem? (i := 1) rfl) rfl rfl dX6_codeAt_1 ?_
  refine x_iload_n X dX6_codeAt_4 rfl (lv_at hl 2 rfl) ?_
  have hfr2 := hfr
  refine n_icmp_ge X 22 dX6_codeAt_5 (by decide) (by omega) (by omega) (fun c5 => ?_) (fun c5 => ?_)
  · refine x_bipush (v := (-9 : Int32)) X dX6_codeAt_22 (by decide) ?_
    exact x_iret X hW rfl () (Or.inr (⟨rfl, by omega⟩)) rfl dX6_codeAt_24
  · refine x_aload_n X dX6_codeAt_8 rfl (lv_at hl 0 rfl) ?_
    refine x_get X hW (v := .ref (ma 27)) hi6 0 rfl rfl 27 (by decide) (List.mem_of_getElem? (i := 2) rfl) rfl rfl dX6_codeAt_9 ?_
    refine x_iload_n X dX6_codeAt_12 rfl (lv_at hl 1 rfl) ?_
    refine x_aload_n X dX6_codeAt_13 rfl (lv_at hl 0 rfl) ?_
    refine x_get X hW (v := .int (nI (mg 6))) hi6 0 rfl rfl 6 (by decide) (List.mem_of_getElem? (i := 1) rfl) rfl rfl dX6_codeAt_14 ?_
    refine n_iadd X dX6_codeAt_17 ?_
    refine i_iald X hW (f := mE 27) 16 0 rfl rfl (by omega) (by decide) dX6_codeAt_18 ?_
    refine x_goto X 24 dX6_codeAt_19 (by decide) ?_
    exact x_iret X hW rfl () (Or.inl ⟨rfl, by omega⟩) rfl dX6_codeAt_24
set_option maxHeartbeats 4000000 in
set_option maxRecDepth 100000 in
theorem c_X6_figure (l : Launch) (D : va_G) (cI cZ cO : ClassId) (mq : Nat) (ma : Nat → Nat) (mg : Nat → Nat) (mh : Nat → Int32) (mF : Nat → Nat → Nat) (mE : Nat → Nat → Int32) (sz : Nat) (fr : Nat) (nn : Nat) (most : Nat)  (hfr : fr + nn ≤ 240) (h6 : mg 6 ≤ 240) (hmost : most ≤ 9) : Met l yX6_figure wsX6_figure ({ frames := 1, cells := 0, slots := 0, locals := 25 }) (va_Pc [.ref mq, .int (nI fr), .int (nI nn), .int (nI most)] (st_W D (ty3 cI cZ cO) (wM cI cZ mq ma mg mh mF mE) sz)) (va_Qi (fun (rr : Int32) (u : (Nat)) => ((∃ (v : Nat), rr = nI v ∧ (v ≤ most ∧ mg 6 < nn ∧ mE 27 (fr + mg 6) = nI (48 + v) ∧ u = mg 6 + 1)) ∨ rr = (-9 : Int32) ∧ (¬ (mg 6 < nn ∧ isD (mE 27 (fr + mg 6)) most) ∧ u = mg 6))) (fun u t => at_W D (ty3 cI cZ cO) (va_A (wM cI cZ mq ma mg mh mF mE) sz) (wM cI cZ mq ma (sF mg 6 u) mh mF mE) t) (va_A (wM cI cZ mq ma mg mh mF mE) sz)) 0 0 (va_A (wM cI cZ mq ma mg mh mF mE) sz) := by
  refine Met.goi (cc := cX6_figure) (maxL := 6) (ret := (some .int)) (by decide) rfl (Nat.le_of_ble_eq_true rfl) (fun p e s m below meth c A ls X hW hl => ?_)
  have hi6 : ∀ w ∈ wsX60, w ∈ wsX6_figure := fun w h => List.mem_cons_of_mem _ (List.mem_append_right _ h)
  have hl : lv_has ls 6 [(0, .ref mq), (1, .int (nI fr)), (2, .int (nI nn)), (3, .int (nI most))] := hl
  refine x_aload_n X dX6_figure_0 rfl (lv_at hl 0 rfl) ?_
  refine x_iload_n X dX6_figure_1 rfl (lv_at hl 1 rfl) ?_
  refine x_iload_n X dX6_figure_2 rfl (lv_at hl 2 rfl) ?_
  refine x_callVi0 X hW (As := [.int (nI fr), .int (nI nn)]) (rest := []) (c_X6_codeAt l D cI cZ cO mq ma mg mh mF mE _ fr nn (show fr + nn ≤ 240 from (by first | assumption | omega)) (show (mg 6) ≤ 240 from (by first | assumption | omega))) (cwV 2 X.2.2.2.2.2.1 gX6_figure_X6_codeAt rfl rfl rfl (by decide +kernel) ⟨Nat.le_of_ble_eq_true rfl, Nat.le_of_ble_eq_true rfl⟩) 0 5 rfl rfl rfl rfl hl.1 rfl (Nat.le_of_ble_eq_true rfl) ⟨Nat.le_of_ble_eq_true rfl, Nat.le_of_ble_eq_true rfl⟩ dX6_figure_3 (fun r1 u2 H locs w3 hW => ?_)
  have hW : Wd D A s.heap H locs (wM cI cZ mq ma mg mh mF mE) := hW
  replace w3 : (r1 = (mE 27) (fr + (mg 6)) ∧ ((mg 6) < nn) ∨ r1 = (-9 : Int32) ∧ (¬ (mg 6) < nn)) := w3
  rcases w3 with ⟨w3, h3⟩ | ⟨w3, h3⟩
  · subst w3
    refine x_bipush (v := nI 48) X dX6_figure_6 (by decide) ?_
    refine x_isub (v := ((mE 27) (fr + (mg 6))) - (nI 48)) X dX6_figure_8 rfl ?_
    refine x_istore X [(4, .int (((mE 27) (fr + (mg 6))) - (nI 48))), (0, .ref mq), (1, .int (nI fr)), (2, .int (nI nn)), (3, .int (nI most))] dX6_figure_9 hl (by decide) rfl (fun ls hl => ?_)
    refine x_iload X dX6_figure_11 (lv_at hl 0 rfl) ?_
    refine x_i2l (v := (((mE 27) (fr + (mg 6))) - (nI 48)).toInt64) X dX6_figure_13 rfl ?_
    refine x_lconst (v := 0) X dX6_figure_14 (by decide) ?_
    refine x_iload_n X dX6_figure_15 rfl (lv_at hl 4 rfl) ?_
    refine x_i2l (v := (nI most).toInt64) X dX6_figure_16 rfl ?_
    refine x_callSie X hW (As := [.long ((((mE 27) (fr + (mg 6))) - (nI 48)).toInt64), .long (0 : Int64), .long ((nI most).toInt64)]) (rest := []) (c_X6_in l D cI cZ cO  _ ((((mE 27) (fr + (mg 6))) - (nI 48)).toInt64) (0 : Int64) ((nI most).toInt64)) (va_cwS 3 X.2.2.2.2.2.1 gX6_figure_X6_in rfl rfl rfl (by decide +kernel) ⟨Nat.le_of_ble_eq_true rfl, Nat.le_of_ble_eq_true rfl⟩) rfl hl.1 rfl (Nat.le_of_ble_eq_true rfl) ⟨Nat.le_of_ble_eq_true rfl, Nat.le_of_ble_eq_true rfl⟩ dX6_figure_17 (fun r3 u4 H locs w17 hW => ?_)
    have hW : Wd D A s.heap H locs (wM cI cZ mq ma mg mh mF mE) := hW
    replace w17 : (r3 = nI 1 ∧ ((0 : Int64).toInt ≤ ((((mE 27) (fr + (mg 6))) - (nI 48)).toInt64).toInt ∧ ((((mE 27) (fr + (mg 6))) - (nI 48)).toInt64).toInt ≤ ((nI most).toInt64).toInt) ∨ r3 = nI 0 ∧ ¬ ((0 : Int64).toInt ≤ ((((mE 27) (fr + (mg 6))) - (nI 48)).toInt64).toInt ∧ ((((mE 27) (fr + (mg 6))) - (nI 48)).toInt64).toInt ≤ ((nI most).toInt64).toInt)) := w17
    rcases w17 with ⟨w17, h17⟩ | ⟨w17, h17⟩
    · subst w17
      obtain ⟨v, hv, ev, ec⟩ := isD_of ((in_iff (n := most + 1) l_0 (by rw [wide, nI_toInt (by omega)]; omega)).mp h17) hmost
      have hl : lv_has ls 6 [(4, .int (nI v)), (0, .ref mq), (1, .int (nI fr)), (2, .int (nI nn)), (3, .int (nI most))] := by rw [ev] at hl; exact hl
      refine x_istore X [(5, .int (nI 1)), (4, .int (nI v)), (0, .ref mq), (1, .int (nI fr)), (2, .int (nI nn)), (3, .int (nI most))] dX6_figure_20 hl (by decide) rfl (fun ls hl => ?_)
      refine x_aload_n X dX6_figure_22 rfl (lv_at hl 2 rfl) ?_
      refine x_dup X dX6_figure_23 rfl ?_
      refine x_get X hW (v := .int (nI (mg 6))) hi6 0 rfl rfl 6 (by decide) (List.mem_of_getElem? (i := 1) rfl) rfl rfl dX6_figure_24 ?_
      refine x_iload X dX6_figure_27 (lv_at hl 0 rfl) ?_
      refine n_if_eq X 36 dX6_figure_29 (by decide) (by decide) (fun c29 => by exact absurd c29 (by decide)) (fun c29 => ?_)
      refine x_iconst (v := nI 1) X dX6_figure_32 (by decide) ?_
      refine x_goto X 37 dX6_figure_33 (by decide) ?_
      refine n_iadd X dX6_figure_37 ?_
      refine x_put X hW (v := .int (nI (mg 6 + 1))) hi6 tyX6 tyX6_ok nmX6 0 rfl rfl 6 (by decide) (List.mem_of_getElem? (i := 1) rfl) rfl rfl rfl rfl (Nat.le_of_ble_eq_true rfl) dX6_figure_38 (wM cI cZ mq ma (sF mg 6 (mg 6 + 1)) mh mF mE) rfl (fun H locs hW => ?_)
      refine x_iload X dX6_figure_41 (lv_at hl 0 rfl) ?_
      refine n_if_eq X 51 dX6_figure_43 (by decide) (by decide) (fun c43 => by exact absurd c43 (by decide)) (fun c43 => ?_)
      refine x_iload X dX6_figure_46 (lv_at hl 1 rfl) ?_
      refine x_goto X 53 dX6_figure_48 (by decide) ?_
      exact x_iret X hW rfl (mg 6 + 1) (Or.inl ⟨v, rfl, hv, h3, ec, rfl⟩) rfl dX6_figure_53
    · subst w17
      have hnd := isD_no (fun q => h17 ((in_iff (n := most + 1) l_0 (by rw [wide, nI_toInt (by omega)]; omega)).mpr q)) hmost
      refine x_istore X [(5, .int (nI 0)), (4, .int (((mE 27) (fr + (mg 6))) - (nI 48))), (0, .ref mq), (1, .int (nI fr)), (2, .int (nI nn)), (3, .int (nI most))] dX6_figure_20 hl (by decide) rfl (fun ls hl => ?_)
      refine x_aload_n X dX6_figure_22 rfl (lv_at hl 2 rfl) ?_
      refine x_dup X dX6_figure_23 rfl ?_
      refine x_get X hW (v := .int (nI (mg 6))) hi6 0 rfl rfl 6 (by decide) (List.mem_of_getElem? (i := 1) rfl) rfl rfl dX6_figure_24 ?_
      refine x_iload X dX6_figure_27 (lv_at hl 0 rfl) ?_
      refine n_if_eq X 36 dX6_figure_29 (by decide) (by decide) (fun c29 => ?_) (fun c29 => by exact absurd c29 (by decide))
      refine x_iconst (v := nI 0) X dX6_figure_36 (by decide) ?_
      refine n_iadd X dX6_figure_37 ?_
      refine x_put X hW (v := .int (nI (mg 6 + 0))) hi6 tyX6 tyX6_ok nmX6 0 rfl rfl 6 (by decide) (List.mem_of_getElem? (i := 1) rfl) rfl rfl rfl rfl (Nat.le_of_ble_eq_true rfl) dX6_figure_38 (wM cI cZ mq ma (sF mg 6 (mg 6 + 0)) mh mF mE) rfl (fun H locs hW => ?_)
      refine x_iload X dX6_figure_41 (lv_at hl 0 rfl) ?_
      refine n_if_eq X 51 dX6_figure_43 (by decide) (by decide) (fun c43 => ?_) (fun c43 => by exact absurd c43 (by decide))
      refine x_bipush (v := (-9 : Int32)) X dX6_figure_51 (by decide) ?_
      exact x_iret X hW rfl (mg 6 + 0) (Or.inr ⟨rfl, by first | exact fun q => hnd q.2 | exact fun q => h3 q.1, rfl⟩) rfl dX6_figure_53
  · subst w3
    refine x_bipush (v := nI 48) X dX6_figure_6 (by decide) ?_
    refine x_isub (v := (-9 : Int32) - (nI 48)) X dX6_figure_8 rfl ?_
    refine x_istore X [(4, .int ((-9 : Int32) - (nI 48))), (0, .ref mq), (1, .int (nI fr)), (2, .int (nI nn)), (3, .int (nI most))] dX6_figure_9 hl (by decide) rfl (fun ls hl => ?_)
    refine x_iload X dX6_figure_11 (lv_at hl 0 rfl) ?_
    refine x_i2l (v := ((-9 : Int32) - (nI 48)).toInt64) X dX6_figure_13 rfl ?_
    refine x_lconst (v := 0) X dX6_figure_14 (by decide) ?_
    refine x_iload_n X dX6_figure_15 rfl (lv_at hl 4 rfl) ?_
    refine x_i2l (v := (nI most).toInt64) X dX6_figure_16 rfl ?_
    refine x_callSie X hW (As := [.long (((-9 : Int32) - (nI 48)).toInt64), .long (0 : Int64), .long ((nI most).toInt64)]) (rest := []) (c_X6_in l D cI cZ cO  _ (((-9 : Int32) - (nI 48)).toInt64) (0 : Int64) ((nI most).toInt64)) (va_cwS 3 X.2.2.2.2.2.1 gX6_figure_X6_in rfl rfl rfl (by decide +kernel) ⟨Nat.le_of_ble_eq_true rfl, Nat.le_of_ble_eq_true rfl⟩) rfl hl.1 rfl (Nat.le_of_ble_eq_true rfl) ⟨Nat.le_of_ble_eq_true rfl, Nat.le_of_ble_eq_true rfl⟩ dX6_figure_17 (fun r5 u6 H locs w17 hW => ?_)
    have hW : Wd D A s.heap H locs (wM cI cZ mq ma mg mh mF mE) := hW
    replace w17 : (r5 = nI 1 ∧ ((0 : Int64).toInt ≤ (((-9 : Int32) - (nI 48)).toInt64).toInt ∧ (((-9 : Int32) - (nI 48)).toInt64).toInt ≤ ((nI most).toInt64).toInt) ∨ r5 = nI 0 ∧ ¬ ((0 : Int64).toInt ≤ (((-9 : Int32) - (nI 48)).toInt64).toInt ∧ (((-9 : Int32) - (nI 48)).toInt64).toInt ≤ ((nI most).toInt64).toInt)) := w17
    rcases w17 with ⟨w17, h17⟩ | ⟨w17, h17⟩
    · subst w17
      exact absurd ((in_iff (n := most + 1) l_0 (by rw [wide, nI_toInt (by omega)]; omega)).mp h17) (by intro q; have z1 := q.1; revert z1; decide)
    · subst w17
      refine x_istore X [(5, .int (nI 0)), (4, .int ((-9 : Int32) - (nI 48))), (0, .ref mq), (1, .int (nI fr)), (2, .int (nI nn)), (3, .int (nI most))] dX6_figure_20 hl (by decide) rfl (fun ls hl => ?_)
      refine x_aload_n X dX6_figure_22 rfl (lv_at hl 2 rfl) ?_
      refine x_dup X dX6_figure_23 rfl ?_
      refine x_get X hW (v := .int (nI (mg 6))) hi6 0 rfl rfl 6 (by decide) (List.mem_of_getElem? (i := 1) rfl) rfl rfl dX6_figure_24 ?_
      refine x_iload X dX6_figure_27 (lv_at hl 0 rfl) ?_
      refine n_if_eq X 36 dX6_figure_29 (by decide) (by decide) (fun c29 => ?_) (fun c29 => by exact absurd c29 (by decide))
      refine x_iconst (v := nI 0) X dX6_figure_36 (by decide) ?_
      refine n_iadd X dX6_figure_37 ?_
      refine x_put X hW (v := .int (nI (mg 6 + 0))) hi6 tyX6 tyX6_ok nmX6 0 rfl rfl 6 (by decide) (List.mem_of_getElem? (i := 1) rfl) rfl rfl rfl rfl (Nat.le_of_ble_eq_true rfl) dX6_figure_38 (wM cI cZ mq ma (sF mg 6 (mg 6 + 0)) mh mF mE) rfl (fun H locs hW => ?_)
      refine x_iload X dX6_figure_41 (lv_at hl 0 rfl) ?_
      refine n_if_eq X 51 dX6_figure_43 (by decide) (by decide) (fun c43 => ?_) (fun c43 => by exact absurd c43 (by decide))
      refine x_bipush (v := (-9 : Int32)) X dX6_figure_51 (by decide) ?_
      exact x_iret X hW rfl (mg 6 + 0) (Or.inr ⟨rfl, by first | exact fun q => hnd q.2 | exact fun q => h3 q.1, rfl⟩) rfl dX6_figure_53
set_option maxHeartbeats 4000000 in
set_option maxRecDepth 100000 in
theorem c_X6_readsReach (l : Launch) (D : va_G) (cI cZ cO : ClassId) (mq : Nat) (ma : Nat → Nat) (mg : Nat → Nat) (mh : Nat → Int32) (mF : Nat → Nat → Nat) (mE : Nat → Nat → Int32) (sz : Nat) (fr : Nat) (nn : Nat)  (hfr : fr + nn ≤ 240) (hp : mg 6 = 2 + 4 * mg 8) (hc : mg 8 ≤ 4) (hpn : mg 6 ≤ nn) (hgo : mg 8 < 2 ∨ mg 6 < nn) (hok : okTo (fun z => mE 27 (fr + z)) (mg 6)) : Met l yX6_readsReach wsX6_readsReach ({ frames := 2, cells := 0, slots := 0, locals := 50 }) (va_Pc [.ref mq, .int (nI fr), .int (nI nn)] (st_W D (ty3 cI cZ cO) (wM cI cZ mq ma mg mh mF mE) sz)) (va_Qi (fun (rr : Int32) (u : (Nat) × (Nat) × (Nat → Nat) × (Nat → Nat) × (Nat → Nat)) => (rr = nI 1 ∧ (u.1 = mg 6 + 4 ∧ u.2.1 = mg 8 + 1 ∧ mg 8 < 4 ∧ mg 6 + 4 ≤ nn ∧ okTo (fun z => mE 27 (fr + z)) (mg 6 + 4) ∧ u.2.2.1 = sF (mF 9) (mg 8) (kl (mE 27 (fr + (mg 6 + 1)))) ∧ u.2.2.2.1 = sF (mF 10) (mg 8) (dgt (mE 27 (fr + (mg 6 + 2)))) ∧ u.2.2.2.2 = sF (mF 11) (mg 8) (dgt (mE 27 (fr + (mg 6 + 3))))) ∨ rr = nI 0 ∧ (ffP (fun z => mE 27 (fr + z)) nn u.1 ∧ ¬ wholeP (fun z => mE 27 (fr + z)) nn ∧ mg 6 ≤ u.1 ∧ u.1 ≤ nn))) (fun u t => at_W D (ty3 cI cZ cO) (va_A (wM cI cZ mq ma mg mh mF mE) sz) (wM cI cZ mq ma (sF (sF mg 6 u.1) 8 u.2.1) mh (sF (sF (sF mF 9 u.2.2.1) 10 u.2.2.2.1) 11 u.2.2.2.2) mE) t) (va_A (wM cI cZ mq ma mg mh mF mE) sz)) 0 0 (va_A (wM cI cZ mq ma mg mh mF mE) sz) := by
  refine Met.goi (cc := cX6_readsReach) (maxL := 6) (ret := (some .boolean)) (by decide) rfl (Nat.le_of_ble_eq_true rfl) (fun p e s m below meth c A ls X hW hl => ?_)
  have hi6 : ∀ w ∈ wsX60, w ∈ wsX6_readsReach := fun w h => List.mem_cons_of_mem _ (List.mem_append_right _ h)
  have hl : lv_has ls 6 [(0, .ref mq), (1, .int (nI fr)), (2, .int (nI nn))] := hl
  refine x_aload_n X dX6_readsReach_0 rfl (lv_at hl 0 rfl) ?_
  refine x_get X hW (v := .int (nI (mg 8))) hi6 0 rfl rfl 8 (by decide) (List.mem_of_getElem? (i := 1) rfl) rfl rfl dX6_readsReach_1 ?_
  refine x_iconst (v := nI 4) X dX6_readsReach_4 (by decide) ?_
  refine n_icmp_eq X 19 dX6_readsReach_5 (by decide) (by omega) (by decide) (fun c5 => ?_) (fun c5 => ?_)
  · refine x_iconst (v := nI 0) X dX6_readsReach_19 (by decide) ?_
    exact x_zret X hW rfl (Or.inl (by decide)) (mg 6, mg 8, mF 9, mF 10, mF 11) (Or.inr ⟨rfl, ff_big hok hpn (by omega), nw_num (Or.inl (by omega)), Nat.le_refl _, hpn⟩) rfl dX6_readsReach_20
  · refine x_aload_n X dX6_readsReach_8 rfl (lv_at hl 0 rfl) ?_
    refine x_iload_n X dX6_readsReach_9 rfl (lv_at hl 1 rfl) ?_
    refine x_iload_n X dX6_readsReach_10 rfl (lv_at hl 2 rfl) ?_
    refine x_callVi0 X hW (As := [.int (nI fr), .int (nI nn)]) (rest := []) (c_X6_codeAt l D cI cZ cO mq ma mg mh mF mE _ fr nn (show fr + nn ≤ 240 from (by first | assumption | omega)) (show (mg 6) ≤ 240 from (by first | assumption | omega))) (cwV 2 X.2.2.2.2.2.1 gX6_readsReach_X6_codeAt rfl rfl rfl (by decide +kernel) ⟨Nat.le_of_ble_eq_true rfl, Nat.le_of_ble_eq_true rfl⟩) 0 5 rfl rfl rfl rfl hl.1 rfl (Nat.le_of_ble_eq_true rfl) ⟨Nat.le_of_ble_eq_true rfl, Nat.le_of_ble_eq_true rfl⟩ dX6_readsReach_11 (fun r1 u2 H locs w11 hW => ?_)
    have hW : Wd D A s.heap H locs (wM cI cZ mq ma mg mh mF mE) := hW
    replace w11 : (r1 = (mE 27) (fr + (mg 6)) ∧ ((mg 6) < nn) ∨ r1 = (-9 : Int32) ∧ (¬ (mg 6) < nn)) := w11
    rcases w11 with ⟨w11, h11⟩ | ⟨w11, h11⟩
    · subst w11
      refine x_bipush (v := nI 59) X dX6_readsReach_14 (by decide) ?_
      refine x_icmp_eq X 21 dX6_readsReach_16 (by decide) (fun c16 => ?_) (fun c16 => ?_)
      · refine x_aload_n X dX6_readsReach_21 rfl (lv_at hl 0 rfl) ?_
        refine x_dup X dX6_readsReach_22 rfl ?_
        refine x_get X hW (v := .int (nI (mg 6))) hi6 0 rfl rfl 6 (by decide) (List.mem_of_getElem? (i := 2) rfl) rfl rfl dX6_readsReach_23 ?_
        refine x_iconst (v := nI 1) X dX6_readsReach_26 (by decide) ?_
        refine n_iadd X dX6_readsReach_27 ?_
        refine x_put X hW (v := .int (nI (mg 6 + 1))) hi6 tyX6 tyX6_ok nmX6 0 rfl rfl 6 (by decide) (List.mem_of_getElem? (i := 2) rfl) rfl rfl rfl rfl (Nat.le_of_ble_eq_true rfl) dX6_readsReach_28 (wM cI cZ mq ma (sF mg 6 (mg 6 + 1)) mh mF mE) rfl (fun H locs hW => ?_)
        refine x_aload_n X dX6_readsReach_31 rfl (lv_at hl 0 rfl) ?_
        refine x_iload_n X dX6_readsReach_32 rfl (lv_at hl 1 rfl) ?_
        refine x_iload_n X dX6_readsReach_33 rfl (lv_at hl 2 rfl) ?_
        refine x_callVi0 X hW (As := [.int (nI fr), .int (nI nn)]) (rest := []) (c_X6_codeAt l D cI cZ cO mq ma (sF mg 6 (mg 6 + 1)) mh mF mE _ fr nn (show fr + nn ≤ 240 from (by first | assumption | omega)) (show (mg 6 + 1) ≤ 240 from (by first | assumption | omega))) (cwV 2 X.2.2.2.2.2.1 gX6_readsReach_X6_codeAt rfl rfl rfl (by decide +kernel) ⟨Nat.le_of_ble_eq_true rfl, Nat.le_of_ble_eq_true rfl⟩) 0 5 rfl rfl rfl rfl hl.1 rfl (Nat.le_of_ble_eq_true rfl) ⟨Nat.le_of_ble_eq_true rfl, Nat.le_of_ble_eq_true rfl⟩ dX6_readsReach_34 (fun r3 u4 H locs w34 hW => ?_)
        have hW : Wd D A s.heap H locs (wM cI cZ mq ma (sF mg 6 (mg 6 + 1)) mh mF mE) := hW
        replace w34 : (r3 = (mE 27) (fr + (mg 6 + 1)) ∧ ((mg 6 + 1) < nn) ∨ r3 = (-9 : Int32) ∧ (¬ (mg 6 + 1) < nn)) := w34
        rcases w34 with ⟨w34, h34⟩ | ⟨w34, h34⟩
        · subst w34
          refine x_istore_n X [(3, .int ((mE 27) (fr + (mg 6 + 1)))), (0, .ref mq), (1, .int (nI fr)), (2, .int (nI nn))] dX6_readsReach_37 rfl hl (by decide) rfl (fun ls hl => ?_)
          rcases isL_cases ((mE 27) (fr + (mg 6 + 1))) with hlt | hlt | hlt | ⟨hl1, hl2, hl3⟩
          · have hl : lv_has ls 6 [(3, .int (nI 109)), (0, .ref mq), (1, .int (nI fr)), (2, .int (nI nn))] := by rw [hlt] at hl; exact hl
            refine x_iload_n X dX6_readsReach_38 rfl (lv_at hl 0 rfl) ?_
            refine x_bipush (v := nI 109) X dX6_readsReach_39 (by decide) ?_
            refine n_icmp_eq X 58 dX6_readsReach_41 (by decide) (by decide) (by decide) (fun c41 => ?_) (fun c41 => by exact absurd c41 (by decide))
            refine x_aload_n X dX6_readsReach_58 rfl (lv_at hl 1 rfl) ?_
            refine x_dup X dX6_readsReach_59 rfl ?_
            refine x_get X hW (v := .int (nI (mg 6 + 1))) hi6 0 rfl rfl 6 (by decide) (List.mem_of_getElem? (i := 2) rfl) rfl rfl dX6_readsReach_60 ?_
            refine x_iconst (v := nI 1) X dX6_readsReach_63 (by decide) ?_
            refine n_iadd X dX6_readsReach_64 ?_
            refine x_put X hW (v := .int (nI ((mg 6 + 1) + 1))) hi6 tyX6 tyX6_ok nmX6 0 rfl rfl 6 (by decide) (List.mem_of_getElem? (i := 2) rfl) rfl rfl rfl rfl (Nat.le_of_ble_eq_true rfl) dX6_readsReach_65 (wM cI cZ mq ma (sF mg 6 ((mg 6 + 1) + 1)) mh mF mE) rfl (fun H locs hW => ?_)
            refine x_aload_n X dX6_readsReach_68 rfl (lv_at hl 1 rfl) ?_
            refine x_iload_n X dX6_readsReach_69 rfl (lv_at hl 2 rfl) ?_
            refine x_iload_n X dX6_readsReach_70 rfl (lv_at hl 3 rfl) ?_
            refine x_bipush (v := nI 9) X dX6_readsReach_71 (by decide) ?_
            refine x_callVi0 X hW (As := [.int (nI fr), .int (nI nn), .int (nI 9)]) (rest := []) (c_X6_figure l D cI cZ cO mq ma (sF mg 6 ((mg 6 + 1) + 1)) mh mF mE _ fr nn 9 (show fr + nn ≤ 240 from (by first | assumption | omega)) (show ((mg 6 + 1) + 1) ≤ 240 from (by first | assumption | omega)) (show 9 ≤ 9 from (by first | assumption | omega))) (cwV 3 X.2.2.2.2.2.1 gX6_readsReach_X6_figure rfl rfl rfl (by decide +kernel) ⟨Nat.le_of_ble_eq_true rfl, Nat.le_of_ble_eq_true rfl⟩) 0 5 rfl rfl rfl rfl hl.1 rfl (Nat.le_of_ble_eq_true rfl) ⟨Nat.le_of_ble_eq_true rfl, Nat.le_of_ble_eq_true rfl⟩ dX6_readsReach_73 (fun r6 u7 H locs w73 hW => ?_)
            obtain ⟨o1_5, o1_5e⟩ : ∃ z, z = u7 := ⟨_, rfl⟩
            subst o1_5e
            have hW : Wd D A s.heap H locs (wM cI cZ mq ma (sF mg 6 o1_5) mh mF mE) := hW
            replace w73 : ((∃ (v : Nat), r6 = nI v ∧ (v ≤ 9 ∧ ((mg 6 + 1) + 1) < nn ∧ (mE 27) (fr + ((mg 6 + 1) + 1)) = nI (48 + v) ∧ o1_5 = ((mg 6 + 1) + 1) + 1)) ∨ r6 = (-9 : Int32) ∧ (¬ (((mg 6 + 1) + 1) < nn ∧ isD ((mE 27) (fr + ((mg 6 + 1) + 1))) 9) ∧ o1_5 = ((mg 6 + 1) + 1))) := w73
            rcases w73 with ⟨v_8, w73, h73⟩ | ⟨w73, h73⟩
            · subst w73
              obtain ⟨p1, p2, p3, p4⟩ := h73
              subst p4
              refine x_istore X [(4, .int (nI v_8)), (3, .int (nI 109)), (0, .ref mq), (1, .int (nI fr)), (2, .int (nI nn))] dX6_readsReach_76 hl (by decide) rfl (fun ls hl => ?_)
              refine x_iload X dX6_readsReach_78 (lv_at hl 0 rfl) ?_
              refine n_if_ge X 88 dX6_readsReach_80 (by decide) (by omega) ?_
              refine x_aload_n X dX6_readsReach_88 rfl (lv_at hl 2 rfl) ?_
              refine x_iload_n X dX6_readsReach_89 rfl (lv_at hl 3 rfl) ?_
              refine x_iload_n X dX6_readsReach_90 rfl (lv_at hl 4 rfl) ?_
              refine x_bipush (v := nI 9) X dX6_readsReach_91 (by decide) ?_
              refine x_callVi0 X hW (As := [.int (nI fr), .int (nI nn), .int (nI 9)]) (rest := []) (c_X6_figure l D cI cZ cO mq ma (sF mg 6 (mg 6 + 1 + 1 + 1)) mh mF mE _ fr nn 9 (show fr + nn ≤ 240 from (by first | assumption | omega)) (show (mg 6 + 1 + 1 + 1) ≤ 240 from (by first | assumption | omega)) (show 9 ≤ 9 from (by first | assumption | omega))) (cwV 3 X.2.2.2.2.2.1 gX6_readsReach_X6_figure rfl rfl rfl (by decide +kernel) ⟨Nat.le_of_ble_eq_true rfl, Nat.le_of_ble_eq_true rfl⟩) 0 5 rfl rfl rfl rfl hl.1 rfl (Nat.le_of_ble_eq_true rfl) ⟨Nat.le_of_ble_eq_true rfl, Nat.le_of_ble_eq_true rfl⟩ dX6_readsReach_93 (fun r10 u11 H locs w93 hW => ?_)
              obtain ⟨o1_9, o1_9e⟩ : ∃ z, z = u11 := ⟨_, rfl⟩
              subst o1_9e
              have hW : Wd D A s.heap H locs (wM cI cZ mq ma (sF mg 6 o1_9) mh mF mE) := hW
              replace w93 : ((∃ (v : Nat), r10 = nI v ∧ (v ≤ 9 ∧ (mg 6 + 1 + 1 + 1) < nn ∧ (mE 27) (fr + (mg 6 + 1 + 1 + 1)) = nI (48 + v) ∧ o1_9 = (mg 6 + 1 + 1 + 1) + 1)) ∨ r10 = (-9 : Int32) ∧ (¬ ((mg 6 + 1 + 1 + 1) < nn ∧ isD ((mE 27) (fr + (mg 6 + 1 + 1 + 1))) 9) ∧ o1_9 = (mg 6 + 1 + 1 + 1))) := w93
              rcases w93 with ⟨v_12, w93, h93⟩ | ⟨w93, h93⟩
              · subst w93
                obtain ⟨q1, q2, q3, q4⟩ := h93
                subst q4
                refine x_istore X [(5, .int (nI v_12)), (4, .int (nI v_8)), (3, .int (nI 109)), (0, .ref mq), (1, .int (nI fr)), (2, .int (nI nn))] dX6_readsReach_96 hl (by decide) rfl (fun ls hl => ?_)
                refine x_iload X dX6_readsReach_98 (lv_at hl 0 rfl) ?_
                refine n_if_ge X 105 dX6_readsReach_100 (by decide) (by omega) ?_
                refine x_aload_n X dX6_readsReach_105 rfl (lv_at hl 3 rfl) ?_
                refine x_get X hW (v := .ref (ma 9)) hi6 0 rfl rfl 9 (by decide) (List.mem_of_getElem? (i := 3) rfl) rfl rfl dX6_readsReach_106 ?_
                refine x_aload_n X dX6_readsReach_109 rfl (lv_at hl 3 rfl) ?_
                refine x_get X hW (v := .int (nI (mg 8))) hi6 0 rfl rfl 8 (by decide) (List.mem_of_getElem? (i := 1) rfl) rfl rfl dX6_readsReach_110 ?_
                refine x_iload_n X dX6_readsReach_113 rfl (lv_at hl 2 rfl) ?_
                refine x_bipush (v := nI 109) X dX6_readsReach_114 (by decide) ?_
                refine n_icmp_ne X 123 dX6_readsReach_116 (by decide) (by decide) (by decide) (fun c116 => by exact absurd c116 (by decide)) (fun c116 => ?_)
                refine x_iconst (v := nI 0) X dX6_readsReach_119 (by decide) ?_
                refine x_goto X 134 dX6_readsReach_120 (by decide) ?_
                refine n_iast X hW (f := mF 9) 4 0 rfl rfl (by omega) (by decide) dX6_readsReach_134 (wM cI cZ mq ma (sF mg 6 (mg 6 + 1 + 1 + 1 + 1)) mh (sF mF 9 (sF (mF 9) (mg 8) 0)) mE) rfl (fun H locs hW => ?_)
                refine x_aload_n X dX6_readsReach_135 rfl (lv_at hl 3 rfl) ?_
                refine x_get X hW (v := .ref (ma 10)) hi6 0 rfl rfl 10 (by decide) (List.mem_of_getElem? (i := 4) rfl) rfl rfl dX6_readsReach_136 ?_
                refine x_aload_n X dX6_readsReach_139 rfl (lv_at hl 3 rfl) ?_
                refine x_get X hW (v := .int (nI (mg 8))) hi6 0 rfl rfl 8 (by decide) (List.mem_of_getElem? (i := 1) rfl) rfl rfl dX6_readsReach_140 ?_
                refine x_iload X dX6_readsReach_143 (lv_at hl 1 rfl) ?_
                refine n_iast X hW (f := mF 10) 5 0 rfl rfl (by omega) (by decide) dX6_readsReach_145 (wM cI cZ mq ma (sF mg 6 (mg 6 + 1 + 1 + 1 + 1)) mh (sF (sF mF 9 (sF (mF 9) (mg 8) 0)) 10 (sF (mF 10) (mg 8) v_8)) mE) rfl (fun H locs hW => ?_)
                refine x_aload_n X dX6_readsReach_146 rfl (lv_at hl 3 rfl) ?_
                refine x_get X hW (v := .ref (ma 11)) hi6 0 rfl rfl 11 (by decide) (List.mem_of_getElem? (i := 5) rfl) rfl rfl dX6_readsReach_147 ?_
                refine x_aload_n X dX6_readsReach_150 rfl (lv_at hl 3 rfl) ?_
                refine x_get X hW (v := .int (nI (mg 8))) hi6 0 rfl rfl 8 (by decide) (List.mem_of_getElem? (i := 1) rfl) rfl rfl dX6_readsReach_151 ?_
                refine x_iload X dX6_readsReach_154 (lv_at hl 0 rfl) ?_
                refine n_iast X hW (f := mF 11) 6 0 rfl rfl (by omega) (by decide) dX6_readsReach_156 (wM cI cZ mq ma (sF mg 6 (mg 6 + 1 + 1 + 1 + 1)) mh (sF (sF (sF mF 9 (sF (mF 9) (mg 8) 0)) 10 (sF (mF 10) (mg 8) v_8)) 11 (sF (mF 11) (mg 8) v_12)) mE) rfl (fun H locs hW => ?_)
                refine x_aload_n X dX6_readsReach_157 rfl (lv_at hl 3 rfl) ?_
                refine x_dup X dX6_readsReach_158 rfl ?_
                refine x_get X hW (v := .int (nI (mg 8))) hi6 0 rfl rfl 8 (by decide) (List.mem_of_getElem? (i := 1) rfl) rfl rfl dX6_readsReach_159 ?_
                refine x_iconst (v := nI 1) X dX6_readsReach_162 (by decide) ?_
                refine n_iadd X dX6_readsReach_163 ?_
                refine x_put X hW (v := .int (nI (mg 8 + 1))) hi6 tyX6 tyX6_ok nmX6 0 rfl rfl 8 (by decide) (List.mem_of_getElem? (i := 1) rfl) rfl rfl rfl rfl (Nat.le_of_ble_eq_true rfl) dX6_readsReach_164 (wM cI cZ mq ma (sF (sF mg 6 (mg 6 + 1 + 1 + 1 + 1)) 8 (mg 8 + 1)) mh (sF (sF (sF mF 9 (sF (mF 9) (mg 8) 0)) 10 (sF (mF 10) (mg 8) v_8)) 11 (sF (mF 11) (mg 8) v_12)) mE) rfl (fun H locs hW => ?_)
                refine x_iconst (v := nI 1) X dX6_readsReach_167 (by decide) ?_
                have k3 : okTo (fun z => mE 27 (fr + z)) (mg 6 + 4) := okTo_s (okTo_s (okTo_s (okTo_s hok ((goN2 hp).mpr c16)) ((goN3 (k := mg 8) (by omega)).mpr (by rw [hlt]; unfold isL; simp))) ((goN4 (k := mg 8) (by omega)).mpr ⟨_, p1, p3⟩)) ((goN4 (k := mg 8) (by omega)).mpr ⟨_, q1, q3⟩)
                exact x_zret X hW rfl (Or.inr (by decide)) ((mg 6 + 1 + 1 + 1 + 1), mg 8 + 1, sF (mF 9) (mg 8) 0, sF (mF 10) (mg 8) v_8, sF (mF 11) (mg 8) v_12) (Or.inl ⟨rfl, by omega, rfl, by omega, by omega, k3, by rw [show kl (mE 27 (fr + (mg 6 + 1))) = 0 by rw [hlt]; decide], by rw [dgt_of p3 p1], by rw [dgt_of q3 q1]⟩) rfl dX6_readsReach_168
              · subst w93
                obtain ⟨q1, q4⟩ := h93
                subst q4
                refine x_istore X [(5, .int (-9 : Int32)), (4, .int (nI v_8)), (3, .int (nI 109)), (0, .ref mq), (1, .int (nI fr)), (2, .int (nI nn))] dX6_readsReach_96 hl (by decide) rfl (fun ls hl => ?_)
                refine x_iload X dX6_readsReach_98 (lv_at hl 0 rfl) ?_
                refine x_if_ge X 105 dX6_readsReach_100 (by decide) (fun c100 => by first | exact absurd c100 (by decide) | exact absurd (by decide) c100) (fun c100 => ?_)
                refine x_iconst (v := nI 0) X dX6_readsReach_103 (by decide) ?_
                exact x_zret X hW rfl (Or.inl (by decide)) ((mg 6 + 1 + 1 + 1), mg 8, mF 9, mF 10, mF 11) (by
                  by_cases hb : mg 6 + 1 + 1 + 1 < nn
                  · exact Or.inr ⟨rfl, ff_bad (okTo_s (okTo_s (okTo_s hok ((goN2 hp).mpr c16)) ((goN3 (k := mg 8) (by omega)).mpr (by rw [hlt]; unfold isL; simp))) ((goN4 (k := mg 8) (by omega)).mpr ⟨_, p1, p3⟩)) hb (by omega) (fun q => q1 ⟨hb, (goN4 (k := mg 8) (by omega)).mp q⟩), nw_bad hb (fun q => q1 ⟨hb, (goN4 (k := mg 8) (by omega)).mp q⟩), by omega, by omega⟩
                  · exact Or.inr ⟨rfl, ff_end (okTo_s (okTo_s (okTo_s hok ((goN2 hp).mpr c16)) ((goN3 (k := mg 8) (by omega)).mpr (by rw [hlt]; unfold isL; simp))) ((goN4 (k := mg 8) (by omega)).mpr ⟨_, p1, p3⟩)) (by omega) (by omega), nw_num (by omega), by omega, by omega⟩) rfl dX6_readsReach_104
            · subst w73
              obtain ⟨p1, p4⟩ := h73
              subst p4
              refine x_istore X [(4, .int (-9 : Int32)), (3, .int (nI 109)), (0, .ref mq), (1, .int (nI fr)), (2, .int (nI nn))] dX6_readsReach_76 hl (by decide) rfl (fun ls hl => ?_)
              refine x_iload X dX6_readsReach_78 (lv_at hl 0 rfl) ?_
              refine x_if_ge X 88 dX6_readsReach_80 (by decide) (fun c80 => by first | exact absurd c80 (by decide) | exact absurd (by decide) c80) (fun c80 => ?_)
              refine x_bipush (v := (-9 : Int32)) X dX6_readsReach_83 (by decide) ?_
              refine x_goto X 96 dX6_readsReach_85 (by decide) ?_
              refine x_istore X [(5, .int (-9 : Int32)), (4, .int (-9 : Int32)), (3, .int (nI 109)), (0, .ref mq), (1, .int (nI fr)), (2, .int (nI nn))] dX6_readsReach_96 hl (by decide) rfl (fun ls hl => ?_)
              refine x_iload X dX6_readsReach_98 (lv_at hl 0 rfl) ?_
              refine x_if_ge X 105 dX6_readsReach_100 (by decide) (fun c100 => by first | exact absurd c100 (by decide) | exact absurd (by decide) c100) (fun c100 => ?_)
              refine x_iconst (v := nI 0) X dX6_readsReach_103 (by decide) ?_
              exact x_zret X hW rfl (Or.inl (by decide)) ((mg 6 + 1 + 1), mg 8, mF 9, mF 10, mF 11) (by
                by_cases hb : mg 6 + 1 + 1 < nn
                · exact Or.inr ⟨rfl, ff_bad (okTo_s (okTo_s hok ((goN2 hp).mpr c16)) ((goN3 (k := mg 8) (by omega)).mpr (by rw [hlt]; unfold isL; simp))) hb (by omega) (fun q => p1 ⟨hb, (goN4 (k := mg 8) (by omega)).mp q⟩), nw_bad hb (fun q => p1 ⟨hb, (goN4 (k := mg 8) (by omega)).mp q⟩), by omega, by omega⟩
                · exact Or.inr ⟨rfl, ff_end (okTo_s (okTo_s hok ((goN2 hp).mpr c16)) ((goN3 (k := mg 8) (by omega)).mpr (by rw [hlt]; unfold isL; simp))) (by omega) (by omega), nw_num (by omega), by omega, by omega⟩) rfl dX6_readsReach_104
          · have hl : lv_has ls 6 [(3, .int (nI 112)), (0, .ref mq), (1, .int (nI fr)), (2, .int (nI nn))] := by rw [hlt] at hl; exact hl
            refine x_iload_n X dX6_readsReach_38 rfl (lv_at hl 0 rfl) ?_
            refine x_bipush (v := nI 109) X dX6_readsReach_39 (by decide) ?_
            refine n_icmp_eq X 58 dX6_readsReach_41 (by decide) (by decide) (by decide) (fun c41 => by exact absurd c41 (by decide)) (fun c41 => ?_)
            refine x_iload_n X dX6_readsReach_44 rfl (lv_at hl 0 rfl) ?_
            refine x_bipush (v := nI 112) X dX6_readsReach_45 (by decide) ?_
            refine n_icmp_eq X 58 dX6_readsReach_47 (by decide) (by decide) (by decide) (fun c47 => ?_) (fun c47 => by exact absurd c47 (by decide))
            refine x_aload_n X dX6_readsReach_58 rfl (lv_at hl 1 rfl) ?_
            refine x_dup X dX6_readsReach_59 rfl ?_
            refine x_get X hW (v := .int (nI (mg 6 + 1))) hi6 0 rfl rfl 6 (by decide) (List.mem_of_getElem? (i := 2) rfl) rfl rfl dX6_readsReach_60 ?_
            refine x_iconst (v := nI 1) X dX6_readsReach_63 (by decide) ?_
            refine n_iadd X dX6_readsReach_64 ?_
            refine x_put X hW (v := .int (nI ((mg 6 + 1) + 1))) hi6 tyX6 tyX6_ok nmX6 0 rfl rfl 6 (by decide) (List.mem_of_getElem? (i := 2) rfl) rfl rfl rfl rfl (Nat.le_of_ble_eq_true rfl) dX6_readsReach_65 (wM cI cZ mq ma (sF mg 6 ((mg 6 + 1) + 1)) mh mF mE) rfl (fun H locs hW => ?_)
            refine x_aload_n X dX6_readsReach_68 rfl (lv_at hl 1 rfl) ?_
            refine x_iload_n X dX6_readsReach_69 rfl (lv_at hl 2 rfl) ?_
            refine x_iload_n X dX6_readsReach_70 rfl (lv_at hl 3 rfl) ?_
            refine x_bipush (v := nI 9) X dX6_readsReach_71 (by decide) ?_
            refine x_callVi0 X hW (As := [.int (nI fr), .int (nI nn), .int (nI 9)]) (rest := []) (c_X6_figure l D cI cZ cO mq ma (sF mg 6 ((mg 6 + 1) + 1)) mh mF mE _ fr nn 9 (show fr + nn ≤ 240 from (by first | assumption | omega)) (show ((mg 6 + 1) + 1) ≤ 240 from (by first | assumption | omega)) (show 9 ≤ 9 from (by first | assumption | omega))) (cwV 3 X.2.2.2.2.2.1 gX6_readsReach_X6_figure rfl rfl rfl (by decide +kernel) ⟨Nat.le_of_ble_eq_true rfl, Nat.le_of_ble_eq_true rfl⟩) 0 5 rfl rfl rfl rfl hl.1 rfl (Nat.le_of_ble_eq_true rfl) ⟨Nat.le_of_ble_eq_true rfl, Nat.le_of_ble_eq_true rfl⟩ dX6_readsReach_73 (fun r14 u15 H locs w73 hW => ?_)
            obtain ⟨o1_13, o1_13e⟩ : ∃ z, z = u15 := ⟨_, rfl⟩
            subst o1_13e
            have hW : Wd D A s.heap H locs (wM cI cZ mq ma (sF mg 6 o1_13) mh mF mE) := hW
            replace w73 : ((∃ (v : Nat), r14 = nI v ∧ (v ≤ 9 ∧ ((mg 6 + 1) + 1) < nn ∧ (mE 27) (fr + ((mg 6 + 1) + 1)) = nI (48 + v) ∧ o1_13 = ((mg 6 + 1) + 1) + 1)) ∨ r14 = (-9 : Int32) ∧ (¬ (((mg 6 + 1) + 1) < nn ∧ isD ((mE 27) (fr + ((mg 6 + 1) + 1))) 9) ∧ o1_13 = ((mg 6 + 1) + 1))) := w73
            rcases w73 with ⟨v_16, w73, h73⟩ | ⟨w73, h73⟩
            · subst w73
              obtain ⟨p1, p2, p3, p4⟩ := h73
              subst p4
              refine x_istore X [(4, .int (nI v_16)), (3, .int (nI 112)), (0, .ref mq), (1, .int (nI fr)), (2, .int (nI nn))] dX6_readsReach_76 hl (by decide) rfl (fun ls hl => ?_)
              refine x_iload X dX6_readsReach_78 (lv_at hl 0 rfl) ?_
              refine n_if_ge X 88 dX6_readsReach_80 (by decide) (by omega) ?_
              refine x_aload_n X dX6_readsReach_88 rfl (lv_at hl 2 rfl) ?_
              refine x_iload_n X dX6_readsReach_89 rfl (lv_at hl 3 rfl) ?_
              refine x_iload_n X dX6_readsReach_90 rfl (lv_at hl 4 rfl) ?_
              refine x_bipush (v := nI 9) X dX6_readsReach_91 (by decide) ?_
              refine x_callVi0 X hW (As := [.int (nI fr), .int (nI nn), .int (nI 9)]) (rest := []) (c_X6_figure l D cI cZ cO mq ma (sF mg 6 (mg 6 + 1 + 1 + 1)) mh mF mE _ fr nn 9 (show fr + nn ≤ 240 from (by first | assumption | omega)) (show (mg 6 + 1 + 1 + 1) ≤ 240 from (by first | assumption | omega)) (show 9 ≤ 9 from (by first | assumption | omega))) (cwV 3 X.2.2.2.2.2.1 gX6_readsReach_X6_figure rfl rfl rfl (by decide +kernel) ⟨Nat.le_of_ble_eq_true rfl, Nat.le_of_ble_eq_true rfl⟩) 0 5 rfl rfl rfl rfl hl.1 rfl (Nat.le_of_ble_eq_true rfl) ⟨Nat.le_of_ble_eq_true rfl, Nat.le_of_ble_eq_true rfl⟩ dX6_readsReach_93 (fun r18 u19 H locs w93 hW => ?_)
              obtain ⟨o1_17, o1_17e⟩ : ∃ z, z = u19 := ⟨_, rfl⟩
              subst o1_17e
              have hW : Wd D A s.heap H locs (wM cI cZ mq ma (sF mg 6 o1_17) mh mF mE) := hW
              replace w93 : ((∃ (v : Nat), r18 = nI v ∧ (v ≤ 9 ∧ (mg 6 + 1 + 1 + 1) < nn ∧ (mE 27) (fr + (mg 6 + 1 + 1 + 1)) = nI (48 + v) ∧ o1_17 = (mg 6 + 1 + 1 + 1) + 1)) ∨ r18 = (-9 : Int32) ∧ (¬ ((mg 6 + 1 + 1 + 1) < nn ∧ isD ((mE 27) (fr + (mg 6 + 1 + 1 + 1))) 9) ∧ o1_17 = (mg 6 + 1 + 1 + 1))) := w93
              rcases w93 with ⟨v_20, w93, h93⟩ | ⟨w93, h93⟩
              · subst w93
                obtain ⟨q1, q2, q3, q4⟩ := h93
                subst q4
                refine x_istore X [(5, .int (nI v_20)), (4, .int (nI v_16)), (3, .int (nI 112)), (0, .ref mq), (1, .int (nI fr)), (2, .int (nI nn))] dX6_readsReach_96 hl (by decide) rfl (fun ls hl => ?_)
                refine x_iload X dX6_readsReach_98 (lv_at hl 0 rfl) ?_
                refine n_if_ge X 105 dX6_readsReach_100 (by decide) (by omega) ?_
                refine x_aload_n X dX6_readsReach_105 rfl (lv_at hl 3 rfl) ?_
                refine x_get X hW (v := .ref (ma 9)) hi6 0 rfl rfl 9 (by decide) (List.mem_of_getElem? (i := 3) rfl) rfl rfl dX6_readsReach_106 ?_
                refine x_aload_n X dX6_readsReach_109 rfl (lv_at hl 3 rfl) ?_
                refine x_get X hW (v := .int (nI (mg 8))) hi6 0 rfl rfl 8 (by decide) (List.mem_of_getElem? (i := 1) rfl) rfl rfl dX6_readsReach_110 ?_
                refine x_iload_n X dX6_readsReach_113 rfl (lv_at hl 2 rfl) ?_
                refine x_bipush (v := nI 109) X dX6_readsReach_114 (by decide) ?_
                refine n_icmp_ne X 123 dX6_readsReach_116 (by decide) (by decide) (by decide) (fun c116 => ?_) (fun c116 => by exact absurd c116 (by decide))
                refine x_iload_n X dX6_readsReach_123 rfl (lv_at hl 2 rfl) ?_
                refine x_bipush (v := nI 112) X dX6_readsReach_124 (by decide) ?_
                refine n_icmp_ne X 133 dX6_readsReach_126 (by decide) (by decide) (by decide) (fun c126 => by exact absurd c126 (by decide)) (fun c126 => ?_)
                refine x_iconst (v := nI 1) X dX6_readsReach_129 (by decide) ?_
                refine x_goto X 134 dX6_readsReach_130 (by decide) ?_
                refine n_iast X hW (f := mF 9) 4 0 rfl rfl (by omega) (by decide) dX6_readsReach_134 (wM cI cZ mq ma (sF mg 6 (mg 6 + 1 + 1 + 1 + 1)) mh (sF mF 9 (sF (mF 9) (mg 8) 1)) mE) rfl (fun H locs hW => ?_)
                refine x_aload_n X dX6_readsReach_135 rfl (lv_at hl 3 rfl) ?_
                refine x_get X hW (v := .ref (ma 10)) hi6 0 rfl rfl 10 (by decide) (List.mem_of_getElem? (i := 4) rfl) rfl rfl dX6_readsReach_136 ?_
                refine x_aload_n X dX6_readsReach_139 rfl (lv_at hl 3 rfl) ?_
                refine x_get X hW (v := .int (nI (mg 8))) hi6 0 rfl rfl 8 (by decide) (List.mem_of_getElem? (i := 1) rfl) rfl rfl dX6_readsReach_140 ?_
                refine x_iload X dX6_readsReach_143 (lv_at hl 1 rfl) ?_
                refine n_iast X hW (f := mF 10) 5 0 rfl rfl (by omega) (by decide) dX6_readsReach_145 (wM cI cZ mq ma (sF mg 6 (mg 6 + 1 + 1 + 1 + 1)) mh (sF (sF mF 9 (sF (mF 9) (mg 8) 1)) 10 (sF (mF 10) (mg 8) v_16)) mE) rfl (fun H locs hW => ?_)
                refine x_aload_n X dX6_readsReach_146 rfl (lv_at hl 3 rfl) ?_
                refine x_get X hW (v := .ref (ma 11)) hi6 0 rfl rfl 11 (by decide) (List.mem_of_getElem? (i := 5) rfl) rfl rfl dX6_readsReach_147 ?_
                refine x_aload_n X dX6_readsReach_150 rfl (lv_at hl 3 rfl) ?_
                refine x_get X hW (v := .int (nI (mg 8))) hi6 0 rfl rfl 8 (by decide) (List.mem_of_getElem? (i := 1) rfl) rfl rfl dX6_readsReach_151 ?_
                refine x_iload X dX6_readsReach_154 (lv_at hl 0 rfl) ?_
                refine n_iast X hW (f := mF 11) 6 0 rfl rfl (by omega) (by decide) dX6_readsReach_156 (wM cI cZ mq ma (sF mg 6 (mg 6 + 1 + 1 + 1 + 1)) mh (sF (sF (sF mF 9 (sF (mF 9) (mg 8) 1)) 10 (sF (mF 10) (mg 8) v_16)) 11 (sF (mF 11) (mg 8) v_20)) mE) rfl (fun H locs hW => ?_)
                refine x_aload_n X dX6_readsReach_157 rfl (lv_at hl 3 rfl) ?_
                refine x_dup X dX6_readsReach_158 rfl ?_
                refine x_get X hW (v := .int (nI (mg 8))) hi6 0 rfl rfl 8 (by decide) (List.mem_of_getElem? (i := 1) rfl) rfl rfl dX6_readsReach_159 ?_
                refine x_iconst (v := nI 1) X dX6_readsReach_162 (by decide) ?_
                refine n_iadd X dX6_readsReach_163 ?_
                refine x_put X hW (v := .int (nI (mg 8 + 1))) hi6 tyX6 tyX6_ok nmX6 0 rfl rfl 8 (by decide) (List.mem_of_getElem? (i := 1) rfl) rfl rfl rfl rfl (Nat.le_of_ble_eq_true rfl) dX6_readsReach_164 (wM cI cZ mq ma (sF (sF mg 6 (mg 6 + 1 + 1 + 1 + 1)) 8 (mg 8 + 1)) mh (sF (sF (sF mF 9 (sF (mF 9) (mg 8) 1)) 10 (sF (mF 10) (mg 8) v_16)) 11 (sF (mF 11) (mg 8) v_20)) mE) rfl (fun H locs hW => ?_)
                refine x_iconst (v := nI 1) X dX6_readsReach_167 (by decide) ?_
                have k3 : okTo (fun z => mE 27 (fr + z)) (mg 6 + 4) := okTo_s (okTo_s (okTo_s (okTo_s hok ((goN2 hp).mpr c16)) ((goN3 (k := mg 8) (by omega)).mpr (by rw [hlt]; unfold isL; simp))) ((goN4 (k := mg 8) (by omega)).mpr ⟨_, p1, p3⟩)) ((goN4 (k := mg 8) (by omega)).mpr ⟨_, q1, q3⟩)
                exact x_zret X hW rfl (Or.inr (by decide)) ((mg 6 + 1 + 1 + 1 + 1), mg 8 + 1, sF (mF 9) (mg 8) 1, sF (mF 10) (mg 8) v_16, sF (mF 11) (mg 8) v_20) (Or.inl ⟨rfl, by omega, rfl, by omega, by omega, k3, by rw [show kl (mE 27 (fr + (mg 6 + 1))) = 1 by rw [hlt]; decide], by rw [dgt_of p3 p1], by rw [dgt_of q3 q1]⟩) rfl dX6_readsReach_168
              · subst w93
                obtain ⟨q1, q4⟩ := h93
                subst q4
                refine x_istore X [(5, .int (-9 : Int32)), (4, .int (nI v_16)), (3, .int (nI 112)), (0, .ref mq), (1, .int (nI fr)), (2, .int (nI nn))] dX6_readsReach_96 hl (by decide) rfl (fun ls hl => ?_)
                refine x_iload X dX6_readsReach_98 (lv_at hl 0 rfl) ?_
                refine x_if_ge X 105 dX6_readsReach_100 (by decide) (fun c100 => by first | exact absurd c100 (by decide) | exact absurd (by decide) c100) (fun c100 => ?_)
                refine x_iconst (v := nI 0) X dX6_readsReach_103 (by decide) ?_
                exact x_zret X hW rfl (Or.inl (by decide)) ((mg 6 + 1 + 1 + 1), mg 8, mF 9, mF 10, mF 11) (by
                  by_cases hb : mg 6 + 1 + 1 + 1 < nn
                  · exact Or.inr ⟨rfl, ff_bad (okTo_s (okTo_s (okTo_s hok ((goN2 hp).mpr c16)) ((goN3 (k := mg 8) (by omega)).mpr (by rw [hlt]; unfold isL; simp))) ((goN4 (k := mg 8) (by omega)).mpr ⟨_, p1, p3⟩)) hb (by omega) (fun q => q1 ⟨hb, (goN4 (k := mg 8) (by omega)).mp q⟩), nw_bad hb (fun q => q1 ⟨hb, (goN4 (k := mg 8) (by omega)).mp q⟩), by omega, by omega⟩
                  · exact Or.inr ⟨rfl, ff_end (okTo_s (okTo_s (okTo_s hok ((goN2 hp).mpr c16)) ((goN3 (k := mg 8) (by omega)).mpr (by rw [hlt]; unfold isL; simp))) ((goN4 (k := mg 8) (by omega)).mpr ⟨_, p1, p3⟩)) (by omega) (by omega), nw_num (by omega), by omega, by omega⟩) rfl dX6_readsReach_104
            · subst w73
              obtain ⟨p1, p4⟩ := h73
              subst p4
              refine x_istore X [(4, .int (-9 : Int32)), (3, .int (nI 112)), (0, .ref mq), (1, .int (nI fr)), (2, .int (nI nn))] dX6_readsReach_76 hl (by decide) rfl (fun ls hl => ?_)
              refine x_iload X dX6_readsReach_78 (lv_at hl 0 rfl) ?_
              refine x_if_ge X 88 dX6_readsReach_80 (by decide) (fun c80 => by first | exact absurd c80 (by decide) | exact absurd (by decide) c80) (fun c80 => ?_)
              refine x_bipush (v := (-9 : Int32)) X dX6_readsReach_83 (by decide) ?_
              refine x_goto X 96 dX6_readsReach_85 (by decide) ?_
              refine x_istore X [(5, .int (-9 : Int32)), (4, .int (-9 : Int32)), (3, .int (nI 112)), (0, .ref mq), (1, .int (nI fr)), (2, .int (nI nn))] dX6_readsReach_96 hl (by decide) rfl (fun ls hl => ?_)
              refine x_iload X dX6_readsReach_98 (lv_at hl 0 rfl) ?_
              refine x_if_ge X 105 dX6_readsReach_100 (by decide) (fun c100 => by first | exact absurd c100 (by decide) | exact absurd (by decide) c100) (fun c100 => ?_)
              refine x_iconst (v := nI 0) X dX6_readsReach_103 (by decide) ?_
              exact x_zret X hW rfl (Or.inl (by decide)) ((mg 6 + 1 + 1), mg 8, mF 9, mF 10, mF 11) (by
                by_cases hb : mg 6 + 1 + 1 < nn
                · exact Or.inr ⟨rfl, ff_bad (okTo_s (okTo_s hok ((goN2 hp).mpr c16)) ((goN3 (k := mg 8) (by omega)).mpr (by rw [hlt]; unfold isL; simp))) hb (by omega) (fun q => p1 ⟨hb, (goN4 (k := mg 8) (by omega)).mp q⟩), nw_bad hb (fun q => p1 ⟨hb, (goN4 (k := mg 8) (by omega)).mp q⟩), by omega, by omega⟩
                · exact Or.inr ⟨rfl, ff_end (okTo_s (okTo_s hok ((goN2 hp).mpr c16)) ((goN3 (k := mg 8) (by omega)).mpr (by rw [hlt]; unfold isL; simp))) (by omega) (by omega), nw_num (by omega), by omega, by omega⟩) rfl dX6_readsReach_104
          · have hl : lv_has ls 6 [(3, .int (nI 115)), (0, .ref mq), (1, .int (nI fr)), (2, .int (nI nn))] := by rw [hlt] at hl; exact hl
            refine x_iload_n X dX6_readsReach_38 rfl (lv_at hl 0 rfl) ?_
            refine x_bipush (v := nI 109) X dX6_readsReach_39 (by decide) ?_
            refine n_icmp_eq X 58 dX6_readsReach_41 (by decide) (by decide) (by decide) (fun c41 => by exact absurd c41 (by decide)) (fun c41 => ?_)
            refine x_iload_n X dX6_readsReach_44 rfl (lv_at hl 0 rfl) ?_
            refine x_bipush (v := nI 112) X dX6_readsReach_45 (by decide) ?_
            refine n_icmp_eq X 58 dX6_readsReach_47 (by decide) (by decide) (by decide) (fun c47 => by exact absurd c47 (by decide)) (fun c47 => ?_)
            refine x_iload_n X dX6_readsReach_50 rfl (lv_at hl 0 rfl) ?_
            refine x_bipush (v := nI 115) X dX6_readsReach_51 (by decide) ?_
            refine n_icmp_eq X 58 dX6_readsReach_53 (by decide) (by decide) (by decide) (fun c53 => ?_) (fun c53 => by exact absurd c53 (by decide))
            refine x_aload_n X dX6_readsReach_58 rfl (lv_at hl 1 rfl) ?_
            refine x_dup X dX6_readsReach_59 rfl ?_
            refine x_get X hW (v := .int (nI (mg 6 + 1))) hi6 0 rfl rfl 6 (by decide) (List.mem_of_getElem? (i := 2) rfl) rfl rfl dX6_readsReach_60 ?_
            refine x_iconst (v := nI 1) X dX6_readsReach_63 (by decide) ?_
            refine n_iadd X dX6_readsReach_64 ?_
            refine x_put X hW (v := .int (nI ((mg 6 + 1) + 1))) hi6 tyX6 tyX6_ok nmX6 0 rfl rfl 6 (by decide) (List.mem_of_getElem? (i := 2) rfl) rfl rfl rfl rfl (Nat.le_of_ble_eq_true rfl) dX6_readsReach_65 (wM cI cZ mq ma (sF mg 6 ((mg 6 + 1) + 1)) mh mF mE) rfl (fun H locs hW => ?_)
            refine x_aload_n X dX6_readsReach_68 rfl (lv_at hl 1 rfl) ?_
            refine x_iload_n X dX6_readsReach_69 rfl (lv_at hl 2 rfl) ?_
            refine x_iload_n X dX6_readsReach_70 rfl (lv_at hl 3 rfl) ?_
            refine x_bipush (v := nI 9) X dX6_readsReach_71 (by decide) ?_
            refine x_callVi0 X hW (As := [.int (nI fr), .int (nI nn), .int (nI 9)]) (rest := []) (c_X6_figure l D cI cZ cO mq ma (sF mg 6 ((mg 6 + 1) + 1)) mh mF mE _ fr nn 9 (show fr + nn ≤ 240 from (by first | assumption | omega)) (show ((mg 6 + 1) + 1) ≤ 240 from (by first | assumption | omega)) (show 9 ≤ 9 from (by first | assumption | omega))) (cwV 3 X.2.2.2.2.2.1 gX6_readsReach_X6_figure rfl rfl rfl (by decide +kernel) ⟨Nat.le_of_ble_eq_true rfl, Nat.le_of_ble_eq_true rfl⟩) 0 5 rfl rfl rfl rfl hl.1 rfl (Nat.le_of_ble_eq_true rfl) ⟨Nat.le_of_ble_eq_true rfl, Nat.le_of_ble_eq_true rfl⟩ dX6_readsReach_73 (fun r22 u23 H locs w73 hW => ?_)
            obtain ⟨o1_21, o1_21e⟩ : ∃ z, z = u23 := ⟨_, rfl⟩
            subst o1_21e
            have hW : Wd D A s.heap H locs (wM cI cZ mq ma (sF mg 6 o1_21) mh mF mE) := hW
            replace w73 : ((∃ (v : Nat), r22 = nI v ∧ (v ≤ 9 ∧ ((mg 6 + 1) + 1) < nn ∧ (mE 27) (fr + ((mg 6 + 1) + 1)) = nI (48 + v) ∧ o1_21 = ((mg 6 + 1) + 1) + 1)) ∨ r22 = (-9 : Int32) ∧ (¬ (((mg 6 + 1) + 1) < nn ∧ isD ((mE 27) (fr + ((mg 6 + 1) + 1))) 9) ∧ o1_21 = ((mg 6 + 1) + 1))) := w73
            rcases w73 with ⟨v_24, w73, h73⟩ | ⟨w73, h73⟩
            · subst w73
              obtain ⟨p1, p2, p3, p4⟩ := h73
              subst p4
              refine x_istore X [(4, .int (nI v_24)), (3, .int (nI 115)), (0, .ref mq), (1, .int (nI fr)), (2, .int (nI nn))] dX6_readsReach_76 hl (by decide) rfl (fun ls hl => ?_)
              refine x_iload X dX6_readsReach_78 (lv_at hl 0 rfl) ?_
              refine n_if_ge X 88 dX6_readsReach_80 (by decide) (by omega) ?_
              refine x_aload_n X dX6_readsReach_88 rfl (lv_at hl 2 rfl) ?_
              refine x_iload_n X dX6_readsReach_89 rfl (lv_at hl 3 rfl) ?_
              refine x_iload_n X dX6_readsReach_90 rfl (lv_at hl 4 rfl) ?_
              refine x_bipush (v := nI 9) X dX6_readsReach_91 (by decide) ?_
              refine x_callVi0 X hW (As := [.int (nI fr), .int (nI nn), .int (nI 9)]) (rest := []) (c_X6_figure l D cI cZ cO mq ma (sF mg 6 (mg 6 + 1 + 1 + 1)) mh mF mE _ fr nn 9 (show fr + nn ≤ 240 from (by first | assumption | omega)) (show (mg 6 + 1 + 1 + 1) ≤ 240 from (by first | assumption | omega)) (show 9 ≤ 9 from (by first | assumption | omega))) (cwV 3 X.2.2.2.2.2.1 gX6_readsReach_X6_figure rfl rfl rfl (by decide +kernel) ⟨Nat.le_of_ble_eq_true rfl, Nat.le_of_ble_eq_true rfl⟩) 0 5 rfl rfl rfl rfl hl.1 rfl (Nat.le_of_ble_eq_true rfl) ⟨Nat.le_of_ble_eq_true rfl, Nat.le_of_ble_eq_true rfl⟩ dX6_readsReach_93 (fun r26 u27 H locs w93 hW => ?_)
              obtain ⟨o1_25, o1_25e⟩ : ∃ z, z = u27 := ⟨_, rfl⟩
              subst o1_25e
              have hW : Wd D A s.heap H locs (wM cI cZ mq ma (sF mg 6 o1_25) mh mF mE) := hW
              replace w93 : ((∃ (v : Nat), r26 = nI v ∧ (v ≤ 9 ∧ (mg 6 + 1 + 1 + 1) < nn ∧ (mE 27) (fr + (mg 6 + 1 + 1 + 1)) = nI (48 + v) ∧ o1_25 = (mg 6 + 1 + 1 + 1) + 1)) ∨ r26 = (-9 : Int32) ∧ (¬ ((mg 6 + 1 + 1 + 1) < nn ∧ isD ((mE 27) (fr + (mg 6 + 1 + 1 + 1))) 9) ∧ o1_25 = (mg 6 + 1 + 1 + 1))) := w93
              rcases w93 with ⟨v_28, w93, h93⟩ | ⟨w93, h93⟩
              · subst w93
                obtain ⟨q1, q2, q3, q4⟩ := h93
                subst q4
                refine x_istore X [(5, .int (nI v_28)), (4, .int (nI v_24)), (3, .int (nI 115)), (0, .ref mq), (1, .int (nI fr)), (2, .int (nI nn))] dX6_readsReach_96 hl (by decide) rfl (fun ls hl => ?_)
                refine x_iload X dX6_readsReach_98 (lv_at hl 0 rfl) ?_
                refine n_if_ge X 105 dX6_readsReach_100 (by decide) (by omega) ?_
                refine x_aload_n X dX6_readsReach_105 rfl (lv_at hl 3 rfl) ?_
                refine x_get X hW (v := .ref (ma 9)) hi6 0 rfl rfl 9 (by decide) (List.mem_of_getElem? (i := 3) rfl) rfl rfl dX6_readsReach_106 ?_
                refine x_aload_n X dX6_readsReach_109 rfl (lv_at hl 3 rfl) ?_
                refine x_get X hW (v := .int (nI (mg 8))) hi6 0 rfl rfl 8 (by decide) (List.mem_of_getElem? (i := 1) rfl) rfl rfl dX6_readsReach_110 ?_
                refine x_iload_n X dX6_readsReach_113 rfl (lv_at hl 2 rfl) ?_
                refine x_bipush (v := nI 109) X dX6_readsReach_114 (by decide) ?_
                refine n_icmp_ne X 123 dX6_readsReach_116 (by decide) (by decide) (by decide) (fun c116 => ?_) (fun c116 => by exact absurd c116 (by decide))
                refine x_iload_n X dX6_readsReach_123 rfl (lv_at hl 2 rfl) ?_
                refine x_bipush (v := nI 112) X dX6_readsReach_124 (by decide) ?_
                refine n_icmp_ne X 133 dX6_readsReach_126 (by decide) (by decide) (by decide) (fun c126 => ?_) (fun c126 => by exact absurd c126 (by decide))
                refine x_iconst (v := nI 2) X dX6_readsReach_133 (by decide) ?_
                refine n_iast X hW (f := mF 9) 4 0 rfl rfl (by omega) (by decide) dX6_readsReach_134 (wM cI cZ mq ma (sF mg 6 (mg 6 + 1 + 1 + 1 + 1)) mh (sF mF 9 (sF (mF 9) (mg 8) 2)) mE) rfl (fun H locs hW => ?_)
                refine x_aload_n X dX6_readsReach_135 rfl (lv_at hl 3 rfl) ?_
                refine x_get X hW (v := .ref (ma 10)) hi6 0 rfl rfl 10 (by decide) (List.mem_of_getElem? (i := 4) rfl) rfl rfl dX6_readsReach_136 ?_
                refine x_aload_n X dX6_readsReach_139 rfl (lv_at hl 3 rfl) ?_
                refine x_get X hW (v := .int (nI (mg 8))) hi6 0 rfl rfl 8 (by decide) (List.mem_of_getElem? (i := 1) rfl) rfl rfl dX6_readsReach_140 ?_
                refine x_iload X dX6_readsReach_143 (lv_at hl 1 rfl) ?_
                refine n_iast X hW (f := mF 10) 5 0 rfl rfl (by omega) (by decide) dX6_readsReach_145 (wM cI cZ mq ma (sF mg 6 (mg 6 + 1 + 1 + 1 + 1)) mh (sF (sF mF 9 (sF (mF 9) (mg 8) 2)) 10 (sF (mF 10) (mg 8) v_24)) mE) rfl (fun H locs hW => ?_)
                refine x_aload_n X dX6_readsReach_146 rfl (lv_at hl 3 rfl) ?_
                refine x_get X hW (v := .ref (ma 11)) hi6 0 rfl rfl 11 (by decide) (List.mem_of_getElem? (i := 5) rfl) rfl rfl dX6_readsReach_147 ?_
                refine x_aload_n X dX6_readsReach_150 rfl (lv_at hl 3 rfl) ?_
                refine x_get X hW (v := .int (nI (mg 8))) hi6 0 rfl rfl 8 (by decide) (List.mem_of_getElem? (i := 1) rfl) rfl rfl dX6_readsReach_151 ?_
                refine x_iload X dX6_readsReach_154 (lv_at hl 0 rfl) ?_
                refine n_iast X hW (f := mF 11) 6 0 rfl rfl (by omega) (by decide) dX6_readsReach_156 (wM cI cZ mq ma (sF mg 6 (mg 6 + 1 + 1 + 1 + 1)) mh (sF (sF (sF mF 9 (sF (mF 9) (mg 8) 2)) 10 (sF (mF 10) (mg 8) v_24)) 11 (sF (mF 11) (mg 8) v_28)) mE) rfl (fun H locs hW => ?_)
                refine x_aload_n X dX6_readsReach_157 rfl (lv_at hl 3 rfl) ?_
                refine x_dup X dX6_readsReach_158 rfl ?_
                refine x_get X hW (v := .int (nI (mg 8))) hi6 0 rfl rfl 8 (by decide) (List.mem_of_getElem? (i := 1) rfl) rfl rfl dX6_readsReach_159 ?_
                refine x_iconst (v := nI 1) X dX6_readsReach_162 (by decide) ?_
                refine n_iadd X dX6_readsReach_163 ?_
                refine x_put X hW (v := .int (nI (mg 8 + 1))) hi6 tyX6 tyX6_ok nmX6 0 rfl rfl 8 (by decide) (List.mem_of_getElem? (i := 1) rfl) rfl rfl rfl rfl (Nat.le_of_ble_eq_true rfl) dX6_readsReach_164 (wM cI cZ mq ma (sF (sF mg 6 (mg 6 + 1 + 1 + 1 + 1)) 8 (mg 8 + 1)) mh (sF (sF (sF mF 9 (sF (mF 9) (mg 8) 2)) 10 (sF (mF 10) (mg 8) v_24)) 11 (sF (mF 11) (mg 8) v_28)) mE) rfl (fun H locs hW => ?_)
                refine x_iconst (v := nI 1) X dX6_readsReach_167 (by decide) ?_
                have k3 : okTo (fun z => mE 27 (fr + z)) (mg 6 + 4) := okTo_s (okTo_s (okTo_s (okTo_s hok ((goN2 hp).mpr c16)) ((goN3 (k := mg 8) (by omega)).mpr (by rw [hlt]; unfold isL; simp))) ((goN4 (k := mg 8) (by omega)).mpr ⟨_, p1, p3⟩)) ((goN4 (k := mg 8) (by omega)).mpr ⟨_, q1, q3⟩)
                exact x_zret X hW rfl (Or.inr (by decide)) ((mg 6 + 1 + 1 + 1 + 1), mg 8 + 1, sF (mF 9) (mg 8) 2, sF (mF 10) (mg 8) v_24, sF (mF 11) (mg 8) v_28) (Or.inl ⟨rfl, by omega, rfl, by omega, by omega, k3, by rw [show kl (mE 27 (fr + (mg 6 + 1))) = 2 by rw [hlt]; decide], by rw [dgt_of p3 p1], by rw [dgt_of q3 q1]⟩) rfl dX6_readsReach_168
              · subst w93
                obtain ⟨q1, q4⟩ := h93
                subst q4
                refine x_istore X [(5, .int (-9 : Int32)), (4, .int (nI v_24)), (3, .int (nI 115)), (0, .ref mq), (1, .int (nI fr)), (2, .int (nI nn))] dX6_readsReach_96 hl (by decide) rfl (fun ls hl => ?_)
                refine x_iload X dX6_readsReach_98 (lv_at hl 0 rfl) ?_
                refine x_if_ge X 105 dX6_readsReach_100 (by decide) (fun c100 => by first | exact absurd c100 (by decide) | exact absurd (by decide) c100) (fun c100 => ?_)
                refine x_iconst (v := nI 0) X dX6_readsReach_103 (by decide) ?_
                exact x_zret X hW rfl (Or.inl (by decide)) ((mg 6 + 1 + 1 + 1), mg 8, mF 9, mF 10, mF 11) (by
                  by_cases hb : mg 6 + 1 + 1 + 1 < nn
                  · exact Or.inr ⟨rfl, ff_bad (okTo_s (okTo_s (okTo_s hok ((goN2 hp).mpr c16)) ((goN3 (k := mg 8) (by omega)).mpr (by rw [hlt]; unfold isL; simp))) ((goN4 (k := mg 8) (by omega)).mpr ⟨_, p1, p3⟩)) hb (by omega) (fun q => q1 ⟨hb, (goN4 (k := mg 8) (by omega)).mp q⟩), nw_bad hb (fun q => q1 ⟨hb, (goN4 (k := mg 8) (by omega)).mp q⟩), by omega, by omega⟩
                  · exact Or.inr ⟨rfl, ff_end (okTo_s (okTo_s (okTo_s hok ((goN2 hp).mpr c16)) ((goN3 (k := mg 8) (by omega)).mpr (by rw [hlt]; unfold isL; simp))) ((goN4 (k := mg 8) (by omega)).mpr ⟨_, p1, p3⟩)) (by omega) (by omega), nw_num (by omega), by omega, by omega⟩) rfl dX6_readsReach_104
            · subst w73
              obtain ⟨p1, p4⟩ := h73
              subst p4
              refine x_istore X [(4, .int (-9 : Int32)), (3, .int (nI 115)), (0, .ref mq), (1, .int (nI fr)), (2, .int (nI nn))] dX6_readsReach_76 hl (by decide) rfl (fun ls hl => ?_)
              refine x_iload X dX6_readsReach_78 (lv_at hl 0 rfl) ?_
              refine x_if_ge X 88 dX6_readsReach_80 (by decide) (fun c80 => by first | exact absurd c80 (by decide) | exact absurd (by decide) c80) (fun c80 => ?_)
              refine x_bipush (v := (-9 : Int32)) X dX6_readsReach_83 (by decide) ?_
              refine x_goto X 96 dX6_readsReach_85 (by decide) ?_
              refine x_istore X [(5, .int (-9 : Int32)), (4, .int (-9 : Int32)), (3, .int (nI 115)), (0, .ref mq), (1, .int (nI fr)), (2, .int (nI nn))] dX6_readsReach_96 hl (by decide) rfl (fun ls hl => ?_)
              refine x_iload X dX6_readsReach_98 (lv_at hl 0 rfl) ?_
              refine x_if_ge X 105 dX6_readsReach_100 (by decide) (fun c100 => by first | exact absurd c100 (by decide) | exact absurd (by decide) c100) (fun c100 => ?_)
              refine x_iconst (v := nI 0) X dX6_readsReach_103 (by decide) ?_
              exact x_zret X hW rfl (Or.inl (by decide)) ((mg 6 + 1 + 1), mg 8, mF 9, mF 10, mF 11) (by
                by_cases hb : mg 6 + 1 + 1 < nn
                · exact Or.inr ⟨rfl, ff_bad (okTo_s (okTo_s hok ((goN2 hp).mpr c16)) ((goN3 (k := mg 8) (by omega)).mpr (by rw [hlt]; unfold isL; simp))) hb (by omega) (fun q => p1 ⟨hb, (goN4 (k := mg 8) (by omega)).mp q⟩), nw_bad hb (fun q => p1 ⟨hb, (goN4 (k := mg 8) (by omega)).mp q⟩), by omega, by omega⟩
                · exact Or.inr ⟨rfl, ff_end (okTo_s (okTo_s hok ((goN2 hp).mpr c16)) ((goN3 (k := mg 8) (by omega)).mpr (by rw [hlt]; unfold isL; simp))) (by omega) (by omega), nw_num (by omega), by omega, by omega⟩) rfl dX6_readsReach_104
          · refine x_iload_n X dX6_readsReach_38 rfl (lv_at hl 0 rfl) ?_
            refine x_bipush (v := nI 109) X dX6_readsReach_39 (by decide) ?_
            refine x_icmp_eq X 58 dX6_readsReach_41 (by decide) (fun c41 => by exact absurd c41 hl1) (fun c41 => ?_)
            refine x_iload_n X dX6_readsReach_44 rfl (lv_at hl 0 rfl) ?_
            refine x_bipush (v := nI 112) X dX6_readsReach_45 (by decide) ?_
            refine x_icmp_eq X 58 dX6_readsReach_47 (by decide) (fun c47 => by exact absurd c47 hl2) (fun c47 => ?_)
            refine x_iload_n X dX6_readsReach_50 rfl (lv_at hl 0 rfl) ?_
            refine x_bipush (v := nI 115) X dX6_readsReach_51 (by decide) ?_
            refine x_icmp_eq X 58 dX6_readsReach_53 (by decide) (fun c53 => by exact absurd c53 hl3) (fun c53 => ?_)
            refine x_iconst (v := nI 0) X dX6_readsReach_56 (by decide) ?_
            exact x_zret X hW rfl (Or.inl (by decide)) (mg 6 + 1, mg 8, mF 9, mF 10, mF 11) (Or.inr ⟨rfl, ff_bad (okTo_s hok ((goN2 hp).mpr c16)) h34 (by omega) (fun q => ((goN3 (k := mg 8) (by omega)).mp q).elim hl1 (fun z => z.elim hl2 hl3)), nw_bad h34 (fun q => ((goN3 (k := mg 8) (by omega)).mp q).elim hl1 (fun z => z.elim hl2 hl3)), by omega, by omega⟩) rfl dX6_readsReach_57
        · subst w34
          refine x_istore_n X [(3, .int (-9 : Int32)), (0, .ref mq), (1, .int (nI fr)), (2, .int (nI nn))] dX6_readsReach_37 rfl hl (by decide) rfl (fun ls hl => ?_)
          refine x_iload_n X dX6_readsReach_38 rfl (lv_at hl 0 rfl) ?_
          refine x_bipush (v := nI 109) X dX6_readsReach_39 (by decide) ?_
          refine x_icmp_eq X 58 dX6_readsReach_41 (by decide) (fun c41 => by first | exact absurd c41 (by decide) | exact absurd (by decide) c41) (fun c41 => ?_)
          refine x_iload_n X dX6_readsReach_44 rfl (lv_at hl 0 rfl) ?_
          refine x_bipush (v := nI 112) X dX6_readsReach_45 (by decide) ?_
          refine x_icmp_eq X 58 dX6_readsReach_47 (by decide) (fun c47 => by first | exact absurd c47 (by decide) | exact absurd (by decide) c47) (fun c47 => ?_)
          refine x_iload_n X dX6_readsReach_50 rfl (lv_at hl 0 rfl) ?_
          refine x_bipush (v := nI 115) X dX6_readsReach_51 (by decide) ?_
          refine x_icmp_eq X 58 dX6_readsReach_53 (by decide) (fun c53 => by first | exact absurd c53 (by decide) | exact absurd (by decide) c53) (fun c53 => ?_)
          refine x_iconst (v := nI 0) X dX6_readsReach_56 (by decide) ?_
          exact x_zret X hW rfl (Or.inl (by decide)) (mg 6 + 1, mg 8, mF 9, mF 10, mF 11) (Or.inr ⟨rfl, ff_end (okTo_s hok ((goN2 hp).mpr c16)) (by omega) (by omega), nw_num (by omega), by omega, by omega⟩) rfl dX6_readsReach_57
      · refine x_iconst (v := nI 0) X dX6_readsReach_19 (by decide) ?_
        exact x_zret X hW rfl (Or.inl (by decide)) (mg 6, mg 8, mF 9, mF 10, mF 11) (Or.inr ⟨rfl, ff_bad hok h11 (by omega) (fun q => c16 ((goN2 hp).mp q)), nw_bad h11 (fun q => c16 ((goN2 hp).mp q)), Nat.le_refl _, hpn⟩) rfl dX6_readsReach_20
    · subst w11
      refine x_bipush (v := nI 59) X dX6_readsReach_14 (by decide) ?_
      refine x_icmp_eq X 21 dX6_readsReach_16 (by decide) (fun c16 => by first | exact absurd c16 (by decide) | exact absurd (by decide) c16) (fun c16 => ?_)
      refine x_iconst (v := nI 0) X dX6_readsReach_19 (by decide) ?_
      exact x_zret X hW rfl (Or.inl (by decide)) (mg 6, mg 8, mF 9, mF 10, mF 11) (Or.inr ⟨rfl, ff_end hok (by omega) (by omega), nw_num (by omega), Nat.le_refl _, hpn⟩) rfl dX6_readsReach_20
