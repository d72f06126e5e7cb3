
def fill60 (v : Int32) (f : Nat → Int32) : Nat → Int32 := fun x => if x < 60 then v else f x
theorem hc_of {i n : Int32} {ct : Nat} (h1 : ¬ i < 0) (h2 : ¬ n < 0) : 0 ≤ i.toInt ∧ 0 ≤ n.toInt := by
  rw [i_lt, i_0] at h1 h2; constructor <;> omega
theorem gt_of {i : Int32} {ct : Nat} (hct : ct < 2 ^ 31) (h : ¬ nI ct < i) : i.toInt ≤ ct := by
  rw [i_lt, nI_toInt hct] at h; omega
theorem gt_n {i : Int32} {ct : Nat} (hct : ct < 2 ^ 31) (h : nI ct < i) : (ct : Int) < i.toInt := by
  rw [i_lt, nI_toInt hct] at h; exact h
theorem neg_n {i : Int32} (h : i < 0) : i.toInt < 0 := by rw [i_lt, i_0] at h; exact h
theorem nneg_n {i : Int32} (h : ¬ i < 0) : 0 ≤ i.toInt := by rw [i_lt, i_0] at h; omega
theorem ge_n {i : Int32} (h : 0 ≤ i) : 0 ≤ i.toInt := by rw [i_le, i_0] at h; exact h
theorem nge_n {i : Int32} (h : ¬ 0 ≤ i) : i.toInt < 0 := by rw [i_le, i_0] at h; omega

set_option maxHeartbeats 4000000 in
set_option maxRecDepth 100000 in
theorem c_J7_fill_53178 (l : Launch) (D : va_G) (cI cZ cO : ClassId) (bq : Nat) (bf : Nat → Int32) (sz : Nat) (v : Int32)   : Met l yJ7_fill_53178 wsJ7_fill_53178 ({ frames := 0, cells := 0, slots := 0, locals := 0 }) (va_Pc [.ref bq, .int v] (st_W D (ty3 cI cZ cO) (wB cI bq bf) sz)) (va_Qv (fun (u : Unit) => True) (fun u t => at_W D (ty3 cI cZ cO) (va_A (wB cI bq bf) sz) (wB cI bq (fill60 v bf)) t) (va_A (wB cI bq bf) sz)) 0 0 (va_A (wB cI bq bf) sz) := by
  refine Met.gov (cc := cJ7_fill_53178) (maxL := 4) (ret := none) (by decide) rfl (Nat.le_of_ble_eq_true rfl) (fun p e s m below meth c A ls X hW hl => ?_)
  have hl : lv_has ls 4 [(0, .ref bq), (1, .int v)] := hl
  refine x_iconst (v := nI 0) X dJ7_fill_53178_0 (by decide) ?_
  refine x_istore_n X [(2, .int (nI 0)), (0, .ref bq), (1, .int v)] dJ7_fill_53178_1 rfl hl (by decide) rfl (fun ls hl => ?_)
  refine x_aload_n X dJ7_fill_53178_2 rfl (lv_at hl 1 rfl) ?_
  refine n_alen X hW (f := bf) 0 0 rfl rfl dJ7_fill_53178_3 ?_
  refine x_istore_n X [(3, .int (nI 60)), (2, .int (nI 0)), (0, .ref bq), (1, .int v)] dJ7_fill_53178_4 rfl hl (by decide) rfl (fun ls hl => ?_)
  refine W.loop (σ := (Nat)) (fun u H locs ls => (u ≤ 60) ∧ Wd D A s.heap H locs (wB cI bq (fun x => if x < u then v else bf x)) ∧ lv_has ls 4 [(3, .int (nI 60)), (2, .int (nI u)), (0, .ref bq), (1, .int v)]) (fun u => 60 - u) (fun u H locs ls hI ih => ?_) 0 ⟨(show 0 ≤ 60 from (by omega)), (hW.eq (congrArg (fun z => (wB cI bq z)) (show bf = (fun x => if x < 0 then v else bf x) from by funext x; first | (rw [if_neg (by omega)]; done) | (rw [sF_ap]; by_cases h1 : x = i; (rw [if_pos h1, if_pos (by omega)]); (rw [if_neg h1]; by_cases h2 : x < i; (rw [if_pos h2, if_pos (by omega)]); (rw [if_neg h2, if_neg (by omega)])))))), hl⟩
  obtain ⟨i, ie⟩ : ∃ z, z = u := ⟨_, rfl⟩
  subst ie
  obtain ⟨hv, hW, hl⟩ := hI
  have hv : i ≤ 60 := hv
  have hW : Wd D A s.heap H locs (wB cI bq (fun x => if x < i then v else bf x)) := hW
  have hl : lv_has ls 4 [(3, .int (nI 60)), (2, .int (nI i)), (0, .ref bq), (1, .int v)] := hl
  have ih5 := ih
  refine x_iload_n X dJ7_fill_53178_5 rfl (lv_at hl 1 rfl) ?_
  refine x_iload_n X dJ7_fill_53178_6 rfl (lv_at hl 0 rfl) ?_
  refine n_icmp_ge X 20 dJ7_fill_53178_7 (by decide) (by omega) (by decide) (fun c7 => ?_) (fun c7 => ?_)
  · exact x_vret X hW rfl () (trivial) (congrArg (fun z => (wB cI bq z)) (show (fun x => if x < i then v else bf x) = (fill60 v bf) from by funext x; unfold fill60; by_cases h1 : x < 60; (rw [if_pos h1, if_pos (by omega)]); (rw [if_neg h1, if_neg (by omega)]))) dJ7_fill_53178_20
  · refine x_aload_n X dJ7_fill_53178_10 rfl (lv_at hl 2 rfl) ?_
    refine x_iload_n X dJ7_fill_53178_11 rfl (lv_at hl 1 rfl) ?_
    refine x_iload_n X dJ7_fill_53178_12 rfl (lv_at hl 3 rfl) ?_
    refine i_iast X hW (f := fun x => if x < i then v else bf x) 0 0 rfl rfl (by omega) (by decide) dJ7_fill_53178_13 (wB cI bq (sF (fun x => if x < i then v else bf x) i v)) rfl (fun H locs hW => ?_)
    refine x_iinc X [(2, .int (nI (i + 1))), (3, .int (nI 60)), (0, .ref bq), (1, .int v)] (k := 1) dJ7_fill_53178_14 hl rfl (nI_inc1 i) (by decide) rfl (fun ls hl => ?_)
    refine x_goto X 5 dJ7_fill_53178_17 (by decide) ?_
    exact ih5 (i + 1) _ _ _ ⟨(show (i + 1) ≤ 60 from (by omega)), (hW.eq (congrArg (fun z => (wB cI bq z)) (show (sF (fun x => if x < i then v else bf x) i v) = (fun x => if x < (i + 1) then v else bf x) from by funext x; first | (rw [if_neg (by omega)]; done) | (rw [sF_ap]; by_cases h1 : x = i; (rw [if_pos h1, if_pos (by omega)]); (rw [if_neg h1]; by_cases h2 : x < i; (rw [if_pos h2, if_pos (by omega)]); (rw [if_neg h2, if_neg (by omega)])))))), lv_sub hl [1, 0, 2, 3] rfl⟩ (by omega)
set_option maxHeartbeats 4000000 in
set_option maxRecDepth 100000 in
theorem c_X3_becomeNew (l : Launch) (D : va_G) (cI cZ cO : ClassId) (tq : Nat) (ta : Nat → Nat) (tg : Nat → Nat) (bf : Nat → Int32) (sz : Nat) (ln : Nat) (n : Nat)   : Met l yX3_becomeNew wsX3_becomeNew ({ frames := 1, cells := 0, slots := 0, locals := 23 }) (va_Pc [.ref tq, .int (nI ln), .int (nI n)] (st_W D (ty3 cI cZ cO) (wT cI cZ tq ta tg ++ (wB cI (ta 3) bf)) sz)) (va_Qv (fun (u : Unit) => True) (fun u t => at_W D (ty3 cI cZ cO) (va_A (wT cI cZ tq ta tg ++ (wB cI (ta 3) bf)) sz) (wT cI cZ tq ta (sF (sF (sF tg 0 1) 1 ln) 2 n) ++ (wB cI (ta 3) (fill60 (nI 0) bf))) t) (va_A (wT cI cZ tq ta tg ++ (wB cI (ta 3) bf)) sz)) 0 0 (va_A (wT cI cZ tq ta tg ++ (wB cI (ta 3) bf)) sz) := by
  refine Met.gov (cc := cX3_becomeNew) (maxL := 3) (ret := none) (by decide) rfl (Nat.le_of_ble_eq_true rfl) (fun p e s m below meth c A ls X hW hl => ?_)
  have hi3 : ∀ w ∈ wsX30, w ∈ wsX3_becomeNew := fun w h => List.mem_cons_of_mem _ (List.mem_append_right _ h)
  have hl : lv_has ls 3 [(0, .ref tq), (1, .int (nI ln)), (2, .int (nI n))] := hl
  refine x_aload_n X dX3_becomeNew_0 rfl (lv_at hl 0 rfl) ?_
  refine x_iconst (v := nI 1) X dX3_becomeNew_1 (by decide) ?_
  refine x_put X hW (v := .int (nI 1)) hi3 tyX3 tyX3_ok nmX3 0 rfl rfl 0 (by decide) (List.mem_of_getElem? (i := 1) rfl) rfl rfl rfl rfl (Nat.le_of_ble_eq_true rfl) dX3_becomeNew_2 (wT cI cZ tq ta (sF tg 0 1) ++ (wB cI (ta 3) bf)) rfl (fun H locs hW => ?_)
  refine x_aload_n X dX3_becomeNew_5 rfl (lv_at hl 0 rfl) ?_
  refine x_iload_n X dX3_becomeNew_6 rfl (lv_at hl 1 rfl) ?_
  refine x_put X hW (v := .int (nI ln)) hi3 tyX3 tyX3_ok nmX3 0 rfl rfl 1 (by decide) (List.mem_of_getElem? (i := 2) rfl) rfl rfl rfl rfl (Nat.le_of_ble_eq_true rfl) dX3_becomeNew_7 (wT cI cZ tq ta (sF (sF tg 0 1) 1 ln) ++ (wB cI (ta 3) bf)) rfl (fun H locs hW => ?_)
  refine x_aload_n X dX3_becomeNew_10 rfl (lv_at hl 0 rfl) ?_
  refine x_iload_n X dX3_becomeNew_11 rfl (lv_at hl 2 rfl) ?_
  refine x_put X hW (v := .int (nI n)) hi3 tyX3 tyX3_ok nmX3 0 rfl rfl 2 (by decide) (List.mem_of_getElem? (i := 3) rfl) rfl rfl rfl rfl (Nat.le_of_ble_eq_true rfl) dX3_becomeNew_12 (wT cI cZ tq ta (sF (sF (sF tg 0 1) 1 ln) 2 n) ++ (wB cI (ta 3) bf)) rfl (fun H locs hW => ?_)
  refine x_aload_n X dX3_becomeNew_15 rfl (lv_at hl 0 rfl) ?_
  refine x_get X hW (v := .ref (ta 3)) hi3 0 rfl rfl 3 (by decide) (List.mem_of_getElem? (i := 4) rfl) rfl rfl dX3_becomeNew_16 ?_
  refine x_iconst (v := nI 0) X dX3_becomeNew_19 (by decide) ?_
  refine x_callSv X hW (As := [.ref (ta 3), .int (nI 0)]) (rest := []) (wz := fun u => (wT cI cZ tq ta (sF (sF (sF tg 0 1) 1 ln) 2 n) ++ (wB cI (ta 3) (fill60 (nI 0) bf)))) (c_J7_fill_53178 l D cI cZ cO (ta 3) bf _ (nI 0)) (va_cwS 2 X.2.2.2.2.2.1 gX3_becomeNew_J7_fill_53178 rfl rfl rfl (by decide +kernel) ⟨Nat.le_of_ble_eq_true rfl, Nat.le_of_ble_eq_true rfl⟩) [1] [0] [0, 1] rfl rfl (by decide) (fun _ => rfl) rfl hl.1 rfl (Nat.le_of_ble_eq_true rfl) ⟨Nat.le_of_ble_eq_true rfl, Nat.le_of_ble_eq_true rfl⟩ dX3_becomeNew_20 (fun u2 H locs w20 hW => ?_)
  have hW : Wd D A s.heap H locs (wT cI cZ tq ta (sF (sF (sF tg 0 1) 1 ln) 2 n) ++ (wB cI (ta 3) (fill60 (nI 0) bf))) := hW
  replace w20 : True := w20
  exact x_vret X hW rfl () (trivial) rfl dX3_becomeNew_23
set_option maxHeartbeats 4000000 in
set_option maxRecDepth 100000 in
theorem c_X3_hasCells (l : Launch) (D : va_G) (cI cZ cO : ClassId) (tq : Nat) (ta : Nat → Nat) (tg : Nat → Nat) (bf : Nat → Int32) (sz : Nat) (i0 : Int32) (n0 : Int32)  (hct : tg 2 ≤ 60) : Met l yX3_hasCells wsX3_hasCells ({ frames := 0, cells := 0, slots := 0, locals := 0 }) (va_Pc [.ref tq, .int i0, .int n0] (st_W D (ty3 cI cZ cO) (wT cI cZ tq ta tg ++ (wB cI (ta 3) bf)) sz)) (va_Qi (fun (rr : Int32) (u : Unit) => (rr = nI 1 ∧ (0 ≤ i0.toInt ∧ 0 ≤ n0.toInt ∧ i0.toInt + n0.toInt ≤ (tg 2 : Int)) ∨ rr = nI 0 ∧ ¬ (0 ≤ i0.toInt ∧ 0 ≤ n0.toInt ∧ i0.toInt + n0.toInt ≤ (tg 2 : Int)))) (fun u t => at_W D (ty3 cI cZ cO) (va_A (wT cI cZ tq ta tg ++ (wB cI (ta 3) bf)) sz) (wT cI cZ tq ta tg ++ (wB cI (ta 3) bf)) t) (va_A (wT cI cZ tq ta tg ++ (wB cI (ta 3) bf)) sz)) 0 0 (va_A (wT cI cZ tq ta tg ++ (wB cI (ta 3) bf)) sz) := by
  refine Met.goi (cc := cX3_hasCells) (maxL := 3) (ret := (some .boolean)) (by decide) rfl (Nat.le_of_ble_eq_true rfl) (fun p e s m below meth c A ls X hW hl => ?_)
  have hi3 : ∀ w ∈ wsX30, w ∈ wsX3_hasCells := fun w h => List.mem_cons_of_mem _ (List.mem_append_right _ h)
  have hl : lv_has ls 3 [(0, .ref tq), (1, .int i0), (2, .int n0)] := hl
  refine x_iload_n X dX3_hasCells_0 rfl (lv_at hl 1 rfl) ?_
  refine x_if_lt X 42 dX3_hasCells_1 (by decide) (fun c1 => ?_) (fun c1 => ?_)
  · refine x_iconst (v := nI 0) X dX3_hasCells_42 (by decide) ?_
    exact x_zret X hW rfl (Or.inl (by decide)) () (Or.inr ⟨rfl, by (try have z1 := neg_n c1); (try have z2 := neg_n c5); (try have z3 := gt_n (by omega) c13); (try have z4 := gt_n (by omega) c23); (try have z5 := gt_of (by omega) c23); (try have z6 := nneg_n c5); (try rw [nI_toInt (by omega)]); omega⟩) rfl dX3_hasCells_43
  · refine x_iload_n X dX3_hasCells_4 rfl (lv_at hl 2 rfl) ?_
    refine x_if_lt X 42 dX3_hasCells_5 (by decide) (fun c5 => ?_) (fun c5 => ?_)
    · refine x_iconst (v := nI 0) X dX3_hasCells_42 (by decide) ?_
      exact x_zret X hW rfl (Or.inl (by decide)) () (Or.inr ⟨rfl, by (try have z1 := neg_n c1); (try have z2 := neg_n c5); (try have z3 := gt_n (by omega) c13); (try have z4 := gt_n (by omega) c23); (try have z5 := gt_of (by omega) c23); (try have z6 := nneg_n c5); (try rw [nI_toInt (by omega)]); omega⟩) rfl dX3_hasCells_43
    · refine x_iload_n X dX3_hasCells_8 rfl (lv_at hl 1 rfl) ?_
      refine x_aload_n X dX3_hasCells_9 rfl (lv_at hl 0 rfl) ?_
      refine x_get X hW (v := .int (nI (tg 2))) hi3 0 rfl rfl 2 (by decide) (List.mem_of_getElem? (i := 1) rfl) rfl rfl dX3_hasCells_10 ?_
      refine x_icmp_gt X 42 dX3_hasCells_13 (by decide) (fun c13 => ?_) (fun c13 => ?_)
      · refine x_iconst (v := nI 0) X dX3_hasCells_42 (by decide) ?_
        exact x_zret X hW rfl (Or.inl (by decide)) () (Or.inr ⟨rfl, by (try have z1 := neg_n c1); (try have z2 := neg_n c5); (try have z3 := gt_n (by omega) c13); (try have z4 := gt_n (by omega) c23); (try have z5 := gt_of (by omega) c23); (try have z6 := nneg_n c5); (try rw [nI_toInt (by omega)]); omega⟩) rfl dX3_hasCells_43
      · refine x_iload_n X dX3_hasCells_16 rfl (lv_at hl 2 rfl) ?_
        refine x_aload_n X dX3_hasCells_17 rfl (lv_at hl 0 rfl) ?_
        refine x_get X hW (v := .int (nI (tg 2))) hi3 0 rfl rfl 2 (by decide) (List.mem_of_getElem? (i := 1) rfl) rfl rfl dX3_hasCells_18 ?_
        refine x_iload_n X dX3_hasCells_21 rfl (lv_at hl 1 rfl) ?_
        obtain ⟨ii, hii, rfl⟩ := inR_ex (x := i0) (n := tg 2 + 1) ⟨nneg_n c1, by have := gt_of (by omega) c13; omega⟩ (by omega)
        refine n_isub X dX3_hasCells_22 (by omega) ?_
        refine x_icmp_gt X 42 dX3_hasCells_23 (by decide) (fun c23 => ?_) (fun c23 => ?_)
        · refine x_iconst (v := nI 0) X dX3_hasCells_42 (by decide) ?_
          exact x_zret X hW rfl (Or.inl (by decide)) () (Or.inr ⟨rfl, by (try have z1 := neg_n c1); (try have z2 := neg_n c5); (try have z3 := gt_n (by omega) c13); (try have z4 := gt_n (by omega) c23); (try have z5 := gt_of (by omega) c23); (try have z6 := nneg_n c5); (try rw [nI_toInt (by omega)]); omega⟩) rfl dX3_hasCells_43
        · refine x_aload_n X dX3_hasCells_26 rfl (lv_at hl 0 rfl) ?_
          refine x_get X hW (v := .int (nI (tg 2))) hi3 0 rfl rfl 2 (by decide) (List.mem_of_getElem? (i := 1) rfl) rfl rfl dX3_hasCells_27 ?_
          refine x_aload_n X dX3_hasCells_30 rfl (lv_at hl 0 rfl) ?_
          refine x_get X hW (v := .ref (ta 3)) hi3 0 rfl rfl 3 (by decide) (List.mem_of_getElem? (i := 2) rfl) rfl rfl dX3_hasCells_31 ?_
          refine n_alen X hW (f := bf) 1 0 rfl rfl dX3_hasCells_34 ?_
          refine n_icmp_gt X 42 dX3_hasCells_35 (by decide) (by omega) (by decide) (fun c35 => ?_) (fun c35 => ?_)
          · refine x_iconst (v := nI 0) X dX3_hasCells_42 (by decide) ?_
            exact x_zret X hW rfl (Or.inl (by decide)) () (Or.inr ⟨rfl, by (try have z1 := neg_n c1); (try have z2 := neg_n c5); (try have z3 := gt_n (by omega) c13); (try have z4 := gt_n (by omega) c23); (try have z5 := gt_of (by omega) c23); (try have z6 := nneg_n c5); (try rw [nI_toInt (by omega)]); omega⟩) rfl dX3_hasCells_43
          · refine x_iconst (v := nI 1) X dX3_hasCells_38 (by decide) ?_
            refine x_goto X 43 dX3_hasCells_39 (by decide) ?_
            exact x_zret X hW rfl (Or.inr (by decide)) () (Or.inl ⟨rfl, by (try have z1 := neg_n c1); (try have z2 := neg_n c5); (try have z3 := gt_n (by omega) c13); (try have z4 := gt_n (by omega) c23); (try have z5 := gt_of (by omega) c23); (try have z6 := nneg_n c5); (try rw [nI_toInt (by omega)]); omega⟩) rfl dX3_hasCells_43
set_option maxHeartbeats 4000000 in
set_option maxRecDepth 100000 in
theorem c_X3_faultOf (l : Launch) (D : va_G) (cI cZ cO : ClassId) (tq : Nat) (ta : Nat → Nat) (tg : Nat → Nat) (bf : Nat → Int32) (sz : Nat) (lane : Int32) (i0 : Int32) (n0 : Int32)  (hct : tg 2 ≤ 60) (hth : tg 0 ≤ 1) : Met l yX3_faultOf wsX3_faultOf ({ frames := 1, cells := 0, slots := 0, locals := 22 }) (va_Pc [.ref tq, .int lane, .int i0, .int n0] (st_W D (ty3 cI cZ cO) (wT cI cZ tq ta tg ++ (wB cI (ta 3) bf)) sz)) (va_Qi (fun (rr : Int32) (u : Unit) => rr = nI (barF (tg 0) (tg 1) (tg 2) lane i0 n0)) (fun u t => at_W D (ty3 cI cZ cO) (va_A (wT cI cZ tq ta tg ++ (wB cI (ta 3) bf)) sz) (wT cI cZ tq ta tg ++ (wB cI (ta 3) bf)) t) (va_A (wT cI cZ tq ta tg ++ (wB cI (ta 3) bf)) sz)) 0 0 (va_A (wT cI cZ tq ta tg ++ (wB cI (ta 3) bf)) sz) := by
  refine Met.goi (cc := cX3_faultOf) (maxL := 4) (ret := (some .int)) (by decide) rfl (Nat.le_of_ble_eq_true rfl) (fun p e s m below meth c A ls X hW hl => ?_)
  have hi3 : ∀ w ∈ wsX30, w ∈ wsX3_faultOf := fun w h => List.mem_cons_of_mem _ (List.mem_append_right _ h)
  have hl : lv_has ls 4 [(0, .ref tq), (1, .int lane), (2, .int i0), (3, .int n0)] := hl
  refine x_aload_n X dX3_faultOf_0 rfl (lv_at hl 0 rfl) ?_
  refine x_get X hW (v := .int (nI (tg 0))) hi3 0 rfl rfl 0 (by decide) (List.mem_of_getElem? (i := 1) rfl) rfl rfl dX3_faultOf_1 ?_
  refine n_if_ne X 9 dX3_faultOf_4 (by decide) (by omega) (fun c4 => ?_) (fun c4 => ?_)
  · refine x_aload_n X dX3_faultOf_9 rfl (lv_at hl 0 rfl) ?_
    refine x_get X hW (v := .int (nI (tg 1))) hi3 0 rfl rfl 1 (by decide) (List.mem_of_getElem? (i := 2) rfl) rfl rfl dX3_faultOf_10 ?_
    refine x_iload_n X dX3_faultOf_13 rfl (lv_at hl 1 rfl) ?_
    refine x_icmp_eq X 19 dX3_faultOf_14 (by decide) (fun c14 => ?_) (fun c14 => ?_)
    · refine x_iload_n X dX3_faultOf_19 rfl (lv_at hl 3 rfl) ?_
      refine x_if_ge X 25 dX3_faultOf_20 (by decide) (fun c20 => ?_) (fun c20 => ?_)
      · refine x_aload_n X dX3_faultOf_25 rfl (lv_at hl 0 rfl) ?_
        refine x_iload_n X dX3_faultOf_26 rfl (lv_at hl 2 rfl) ?_
        refine x_iload_n X dX3_faultOf_27 rfl (lv_at hl 3 rfl) ?_
        refine x_callVi0 X hW (As := [.int i0, .int n0]) (rest := []) (c_X3_hasCells l D cI cZ cO tq ta tg bf _ i0 n0 (show (tg 2) ≤ 60 from (by first | assumption | omega))) (cwV 2 X.2.2.2.2.2.1 gX3_faultOf_X3_hasCells rfl rfl rfl (by decide +kernel) ⟨Nat.le_of_ble_eq_true rfl, Nat.le_of_ble_eq_true rfl⟩) 0 3 rfl rfl rfl rfl hl.1 rfl (Nat.le_of_ble_eq_true rfl) ⟨Nat.le_of_ble_eq_true rfl, Nat.le_of_ble_eq_true rfl⟩ dX3_faultOf_28 (fun r1 u2 H locs w28 hW => ?_)
        have hW : Wd D A s.heap H locs (wT cI cZ tq ta tg ++ (wB cI (ta 3) bf)) := hW
        replace w28 : (r1 = nI 1 ∧ (0 ≤ i0.toInt ∧ 0 ≤ n0.toInt ∧ i0.toInt + n0.toInt ≤ ((tg 2) : Int)) ∨ r1 = nI 0 ∧ ¬ (0 ≤ i0.toInt ∧ 0 ≤ n0.toInt ∧ i0.toInt + n0.toInt ≤ ((tg 2) : Int))) := w28
        rcases w28 with ⟨w28, h28⟩ | ⟨w28, h28⟩
        · subst w28
          refine n_if_eq X 38 dX3_faultOf_31 (by decide) (by decide) (fun c31 => by exact absurd c31 (by decide)) (fun c31 => ?_)
          refine x_iconst (v := nI 0) X dX3_faultOf_34 (by decide) ?_
          refine x_goto X 39 dX3_faultOf_35 (by decide) ?_
          exact x_iret X hW rfl () ((congrArg nI (show 0 = barF (tg 0) (tg 1) (tg 2) lane i0 n0 from by (try have z1 := ge_n c20); (try have z2 := nge_n c20); unfold barF; (repeat' split) <;> first | rfl | omega | contradiction))) rfl dX3_faultOf_39
        · subst w28
          refine n_if_eq X 38 dX3_faultOf_31 (by decide) (by decide) (fun c31 => ?_) (fun c31 => by exact absurd c31 (by decide))
          refine x_iconst (v := nI 3) X dX3_faultOf_38 (by decide) ?_
          exact x_iret X hW rfl () ((congrArg nI (show 3 = barF (tg 0) (tg 1) (tg 2) lane i0 n0 from by (try have z1 := ge_n c20); (try have z2 := nge_n c20); unfold barF; (repeat' split) <;> first | rfl | omega | contradiction))) rfl dX3_faultOf_39
      · refine x_iconst (v := nI 4) X dX3_faultOf_23 (by decide) ?_
        exact x_iret X hW rfl () ((congrArg nI (show 4 = barF (tg 0) (tg 1) (tg 2) lane i0 n0 from by (try have z1 := ge_n c20); (try have z2 := nge_n c20); unfold barF; (repeat' split) <;> first | rfl | omega | contradiction))) rfl dX3_faultOf_24
    · refine x_iconst (v := nI 2) X dX3_faultOf_17 (by decide) ?_
      exact x_iret X hW rfl () ((congrArg nI (show 2 = barF (tg 0) (tg 1) (tg 2) lane i0 n0 from by (try have z1 := ge_n c20); (try have z2 := nge_n c20); unfold barF; (repeat' split) <;> first | rfl | omega | contradiction))) rfl dX3_faultOf_18
  · refine x_iconst (v := nI 1) X dX3_faultOf_7 (by decide) ?_
    exact x_iret X hW rfl () ((congrArg nI (show 1 = barF (tg 0) (tg 1) (tg 2) lane i0 n0 from by (try have z1 := ge_n c20); (try have z2 := nge_n c20); unfold barF; (repeat' split) <;> first | rfl | omega | contradiction))) rfl dX3_faultOf_8
set_option maxHeartbeats 4000000 in
set_option maxRecDepth 100000 in
theorem c_X3_cellAt (l : Launch) (D : va_G) (cI cZ cO : ClassId) (tq : Nat) (ta : Nat → Nat) (tg : Nat → Nat) (bf : Nat → Int32) (sz : Nat) (j : Nat)  (hj : j < tg 2) (hct : tg 2 ≤ 60) : Met l yX3_cellAt wsX3_cellAt ({ frames := 0, cells := 0, slots := 0, locals := 0 }) (va_Pc [.ref tq, .int (nI j)] (st_W D (ty3 cI cZ cO) (wT cI cZ tq ta tg ++ (wB cI (ta 3) bf)) sz)) (va_Qi (fun (rr : Int32) (u : Unit) => rr = bf j) (fun u t => at_W D (ty3 cI cZ cO) (va_A (wT cI cZ tq ta tg ++ (wB cI (ta 3) bf)) sz) (wT cI cZ tq ta tg ++ (wB cI (ta 3) bf)) t) (va_A (wT cI cZ tq ta tg ++ (wB cI (ta 3) bf)) sz)) 0 0 (va_A (wT cI cZ tq ta tg ++ (wB cI (ta 3) bf)) sz) := by
  refine Met.goi (cc := cX3_cellAt) (maxL := 2) (ret := (some .int)) (by decide) rfl (Nat.le_of_ble_eq_true rfl) (fun p e s m below meth c A ls X hW hl => ?_)
  have hi3 : ∀ w ∈ wsX30, w ∈ wsX3_cellAt := fun w h => List.mem_cons_of_mem _ (List.mem_append_right _ h)
  have hl : lv_has ls 2 [(0, .ref tq), (1, .int (nI j))] := hl
  refine x_iload_n X dX3_cellAt_0 rfl (lv_at hl 1 rfl) ?_
  refine n_if_lt X 30 dX3_cellAt_1 (by decide) (by omega) ?_
  refine x_iload_n X dX3_cellAt_4 rfl (lv_at hl 1 rfl) ?_
  refine x_aload_n X dX3_cellAt_5 rfl (lv_at hl 0 rfl) ?_
  refine x_get X hW (v := .int (nI (tg 2))) hi3 0 rfl rfl 2 (by decide) (List.mem_of_getElem? (i := 1) rfl) rfl rfl dX3_cellAt_6 ?_
  refine n_icmp_ge X 30 dX3_cellAt_9 (by decide) (by omega) (by omega) (fun c9 => by omega) (fun c9 => ?_)
  refine x_iload_n X dX3_cellAt_12 rfl (lv_at hl 1 rfl) ?_
  refine x_aload_n X dX3_cellAt_13 rfl (lv_at hl 0 rfl) ?_
  refine x_get X hW (v := .ref (ta 3)) hi3 0 rfl rfl 3 (by decide) (List.mem_of_getElem? (i := 2) rfl) rfl rfl dX3_cellAt_14 ?_
  refine n_alen X hW (f := bf) 1 0 rfl rfl dX3_cellAt_17 ?_
  refine n_icmp_ge X 30 dX3_cellAt_18 (by decide) (by omega) (by decide) (fun c18 => by omega) (fun c18 => ?_)
  refine x_aload_n X dX3_cellAt_21 rfl (lv_at hl 0 rfl) ?_
  refine x_get X hW (v := .ref (ta 3)) hi3 0 rfl rfl 3 (by decide) (List.mem_of_getElem? (i := 2) rfl) rfl rfl dX3_cellAt_22 ?_
  refine x_iload_n X dX3_cellAt_25 rfl (lv_at hl 1 rfl) ?_
  refine i_iald X hW (f := bf) 1 0 rfl rfl (by omega) (by decide) dX3_cellAt_26 ?_
  refine x_goto X 31 dX3_cellAt_27 (by decide) ?_
  exact x_iret X hW rfl () (rfl) rfl dX3_cellAt_31
set_option maxHeartbeats 4000000 in
set_option maxRecDepth 100000 in
theorem c_X3_cutToLane (l : Launch) (D : va_G) (cI cZ cO : ClassId) (tq : Nat) (ta : Nat → Nat) (tg : Nat → Nat) (bf : Nat → Int32) (sz : Nat) (v : Int32)  (hln : tg 1 ≤ 2) : Met l yX3_cutToLane wsX3_cutToLane ({ frames := 0, cells := 0, slots := 0, locals := 0 }) (va_Pc [.ref tq, .int v] (st_W D (ty3 cI cZ cO) (wT cI cZ tq ta tg ++ (wB cI (ta 3) bf)) sz)) (va_Qi (fun (rr : Int32) (u : Unit) => rr = cutI (tg 1) v) (fun u t => at_W D (ty3 cI cZ cO) (va_A (wT cI cZ tq ta tg ++ (wB cI (ta 3) bf)) sz) (wT cI cZ tq ta tg ++ (wB cI (ta 3) bf)) t) (va_A (wT cI cZ tq ta tg ++ (wB cI (ta 3) bf)) sz)) 0 0 (va_A (wT cI cZ tq ta tg ++ (wB cI (ta 3) bf)) sz) := by
  refine Met.goi (cc := cX3_cutToLane) (maxL := 2) (ret := (some .int)) (by decide) rfl (Nat.le_of_ble_eq_true rfl) (fun p e s m below meth c A ls X hW hl => ?_)
  have hi3 : ∀ w ∈ wsX30, w ∈ wsX3_cutToLane := fun w h => List.mem_cons_of_mem _ (List.mem_append_right _ h)
  have hl : lv_has ls 2 [(0, .ref tq), (1, .int v)] := hl
  refine x_aload_n X dX3_cutToLane_0 rfl (lv_at hl 0 rfl) ?_
  refine x_get X hW (v := .int (nI (tg 1))) hi3 0 rfl rfl 1 (by decide) (List.mem_of_getElem? (i := 1) rfl) rfl rfl dX3_cutToLane_1 ?_
  rcases (show tg 1 = 0 ∨ tg 1 = 1 ∨ tg 1 = 2 by omega) with ek | ek | ek
  · refine n_as0 (b := 0) ek ?_
    refine lv_lookup (off := 28) (tgt := 32) X.1 X.2.1 dX3_cutToLane_4 (by decide) (by decide) (by decide) ?_
    refine x_iload_n X dX3_cutToLane_32 rfl (lv_at hl 1 rfl) ?_
    refine x_i2b (v := v.toInt8.toInt32) X dX3_cutToLane_33 rfl ?_
    exact x_iret X hW rfl () ((by unfold cutI; rw [ek]; rfl)) rfl dX3_cutToLane_34
  · refine n_as0 (b := 1) ek ?_
    refine lv_lookup (off := 31) (tgt := 35) X.1 X.2.1 dX3_cutToLane_4 (by decide) (by decide) (by decide) ?_
    refine x_iload_n X dX3_cutToLane_35 rfl (lv_at hl 1 rfl) ?_
    refine x_i2s (v := v.toInt16.toInt32) X dX3_cutToLane_36 rfl ?_
    exact x_iret X hW rfl () ((by unfold cutI; rw [ek]; rfl)) rfl dX3_cutToLane_37
  · refine n_as0 (b := 2) ek ?_
    refine lv_lookup (off := 34) (tgt := 38) X.1 X.2.1 dX3_cutToLane_4 (by decide) (by decide) (by decide) ?_
    refine x_iload_n X dX3_cutToLane_38 rfl (lv_at hl 1 rfl) ?_
    exact x_iret X hW rfl () ((by unfold cutI; rw [ek]; rfl)) rfl dX3_cutToLane_39
set_option maxHeartbeats 4000000 in
set_option maxRecDepth 100000 in
theorem c_X3_setCell (l : Launch) (D : va_G) (cI cZ cO : ClassId) (tq : Nat) (ta : Nat → Nat) (tg : Nat → Nat) (bf : Nat → Int32) (sz : Nat) (j : Nat) (v : Int32)  (hj : j < tg 2) (hct : tg 2 ≤ 60) (hln : tg 1 ≤ 2) : Met l yX3_setCell wsX3_setCell ({ frames := 1, cells := 0, slots := 0, locals := 21 }) (va_Pc [.ref tq, .int (nI j), .int v] (st_W D (ty3 cI cZ cO) (wT cI cZ tq ta tg ++ (wB cI (ta 3) bf)) sz)) (va_Qv (fun (u : Unit) => True) (fun u t => at_W D (ty3 cI cZ cO) (va_A (wT cI cZ tq ta tg ++ (wB cI (ta 3) bf)) sz) (wT cI cZ tq ta tg ++ (wB cI (ta 3) (sF bf j (cutI (tg 1) v)))) t) (va_A (wT cI cZ tq ta tg ++ (wB cI (ta 3) bf)) sz)) 0 0 (va_A (wT cI cZ tq ta tg ++ (wB cI (ta 3) bf)) sz) := by
  refine Met.gov (cc := cX3_setCell) (maxL := 3) (ret := none) (by decide) rfl (Nat.le_of_ble_eq_true rfl) (fun p e s m below meth c A ls X hW hl => ?_)
  have hi3 : ∀ w ∈ wsX30, w ∈ wsX3_setCell := fun w h => List.mem_cons_of_mem _ (List.mem_append_right _ h)
  have hl : lv_has ls 3 [(0, .ref tq), (1, .int (nI j)), (2, .int v)] := hl
  refine x_iload_n X dX3_setCell_0 rfl (lv_at hl 1 rfl) ?_
  refine n_if_lt X 32 dX3_setCell_1 (by decide) (by omega) ?_
  refine x_iload_n X dX3_setCell_4 rfl (lv_at hl 1 rfl) ?_
  refine x_aload_n X dX3_setCell_5 rfl (lv_at hl 0 rfl) ?_
  refine x_get X hW (v := .int (nI (tg 2))) hi3 0 rfl rfl 2 (by decide) (List.mem_of_getElem? (i := 1) rfl) rfl rfl dX3_setCell_6 ?_
  refine n_icmp_ge X 32 dX3_setCell_9 (by decide) (by omega) (by omega) (fun c9 => by omega) (fun c9 => ?_)
  refine x_iload_n X dX3_setCell_12 rfl (lv_at hl 1 rfl) ?_
  refine x_aload_n X dX3_setCell_13 rfl (lv_at hl 0 rfl) ?_
  refine x_get X hW (v := .ref (ta 3)) hi3 0 rfl rfl 3 (by decide) (List.mem_of_getElem? (i := 2) rfl) rfl rfl dX3_setCell_14 ?_
  refine n_alen X hW (f := bf) 1 0 rfl rfl dX3_setCell_17 ?_
  refine n_icmp_ge X 32 dX3_setCell_18 (by decide) (by omega) (by decide) (fun c18 => by omega) (fun c18 => ?_)
  refine x_aload_n X dX3_setCell_21 rfl (lv_at hl 0 rfl) ?_
  refine x_get X hW (v := .ref (ta 3)) hi3 0 rfl rfl 3 (by decide) (List.mem_of_getElem? (i := 2) rfl) rfl rfl dX3_setCell_22 ?_
  refine x_iload_n X dX3_setCell_25 rfl (lv_at hl 1 rfl) ?_
  refine x_aload_n X dX3_setCell_26 rfl (lv_at hl 0 rfl) ?_
  refine x_iload_n X dX3_setCell_27 rfl (lv_at hl 2 rfl) ?_
  refine x_callVi0 X hW (As := [.int v]) (rest := [.int (nI j), .ref (ta 3)]) (c_X3_cutToLane l D cI cZ cO tq ta tg bf _ v (show (tg 1) ≤ 2 from (by first | assumption | omega))) (cwV 1 X.2.2.2.2.2.1 gX3_setCell_X3_cutToLane rfl rfl rfl (by decide +kernel) ⟨Nat.le_of_ble_eq_true rfl, Nat.le_of_ble_eq_true rfl⟩) 0 3 rfl rfl rfl rfl hl.1 rfl (Nat.le_of_ble_eq_true rfl) ⟨Nat.le_of_ble_eq_true rfl, Nat.le_of_ble_eq_true rfl⟩ dX3_setCell_28 (fun r1 u2 H locs w28 hW => ?_)
  have hW : Wd D A s.heap H locs (wT cI cZ tq ta tg ++ (wB cI (ta 3) bf)) := hW
  replace w28 : r1 = cutI ((tg 1)) v := w28
  subst w28
  refine i_iast X hW (f := bf) 1 0 rfl rfl (by omega) (by decide) dX3_setCell_31 (wT cI cZ tq ta tg ++ (wB cI (ta 3) (sF bf j (cutI ((tg 1)) v)))) rfl (fun H locs hW => ?_)
  exact x_vret X hW rfl () (trivial) (congrArg (fun z => (wT cI cZ tq ta tg ++ (wB cI (ta 3) z))) (show (sF bf j (cutI ((tg 1)) v)) = (sF bf j (cutI (tg 1) v)) from by first | rfl | omega)) dX3_setCell_32
