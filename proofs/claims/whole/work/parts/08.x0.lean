set_option maxHeartbeats 4000000 in
set_option maxRecDepth 100000 in
theorem c_X0_isNone (l : Launch) (D : va_G) (cI cZ cO : ClassId) (cq : Nat) (ca : Nat → Nat) (cg : Nat → Nat) (cF : Nat → Nat → Nat) (sz : Nat)   (hn : cg 0 ≤ 4) : Met l yX0_isNone wsX0_isNone ({ frames := 0, cells := 0, slots := 0, locals := 0 }) (va_Pc [.ref cq] (st_W D (ty3 cI cZ cO) (wC cI cZ cq ca cg cF) sz)) (va_Qi (fun (rr : Int32) (u : Unit) => (rr = nI 1 ∧ (cg 0 = 0) ∨ rr = nI 0 ∧ ¬ (cg 0 = 0))) (fun u t => at_W D (ty3 cI cZ cO) (va_A (wC cI cZ cq ca cg cF) sz) (wC cI cZ cq ca cg cF) t) (va_A (wC cI cZ cq ca cg cF) sz)) 0 0 (va_A (wC cI cZ cq ca cg cF) sz) := by
  refine Met.goi (cc := cX0_isNone) (maxL := 1) (ret := (some .boolean)) (by decide) rfl (Nat.le_of_ble_eq_true rfl) (fun p e s m below meth c A ls X hW hl => ?_)
  have hi0 : ∀ w ∈ wsX00, w ∈ wsX0_isNone := fun w h => List.mem_cons_of_mem _ (List.mem_append_right _ h)
  have hl : lv_has ls 1 [(0, .ref cq)] := hl
  refine x_aload_n X dX0_isNone_0 rfl (lv_at hl 0 rfl) ?_
  refine x_get X hW (v := .int (nI (cg 0))) hi0 0 rfl rfl 0 (by decide) (List.mem_of_getElem? (i := 1) rfl) rfl rfl dX0_isNone_1 ?_
  refine n_if_ne X 11 dX0_isNone_4 (by decide) (by omega) (fun c4 => ?_) (fun c4 => ?_)
  · refine x_iconst (v := nI 0) X dX0_isNone_11 (by decide) ?_
    exact x_zret X hW rfl (Or.inl (by decide)) () (Or.inr ⟨rfl, by first | rfl | assumption | omega⟩) rfl dX0_isNone_12
  · refine x_iconst (v := nI 1) X dX0_isNone_7 (by decide) ?_
    refine x_goto X 12 dX0_isNone_8 (by decide) ?_
    exact x_zret X hW rfl (Or.inr (by decide)) () (Or.inl ⟨rfl, by first | rfl | assumption | omega⟩) rfl dX0_isNone_12
set_option maxHeartbeats 4000000 in
set_option maxRecDepth 100000 in
theorem c_X0_has (l : Launch) (D : va_G) (cI cZ cO : ClassId) (cq : Nat) (ca : Nat → Nat) (cg : Nat → Nat) (cF : Nat → Nat → Nat) (sz : Nat) (r : Int32)  (hn : cg 0 ≤ 4) : Met l yX0_has wsX0_has ({ frames := 0, cells := 0, slots := 0, locals := 0 }) (va_Pc [.ref cq, .int r] (st_W D (ty3 cI cZ cO) (wC cI cZ cq ca cg cF) sz)) (va_Qi (fun (rr : Int32) (u : Unit) => (rr = nI 1 ∧ (inR r (cg 0)) ∨ rr = nI 0 ∧ ¬ (inR r (cg 0)))) (fun u t => at_W D (ty3 cI cZ cO) (va_A (wC cI cZ cq ca cg cF) sz) (wC cI cZ cq ca cg cF) t) (va_A (wC cI cZ cq ca cg cF) sz)) 0 0 (va_A (wC cI cZ cq ca cg cF) sz) := by
  refine Met.goi (cc := cX0_has) (maxL := 2) (ret := (some .boolean)) (by decide) rfl (Nat.le_of_ble_eq_true rfl) (fun p e s m below meth c A ls X hW hl => ?_)
  have hi0 : ∀ w ∈ wsX00, w ∈ wsX0_has := fun w h => List.mem_cons_of_mem _ (List.mem_append_right _ h)
  have hl : lv_has ls 2 [(0, .ref cq), (1, .int r)] := hl
  refine x_iload_n X dX0_has_0 rfl (lv_at hl 1 rfl) ?_
  refine x_if_lt X 21 dX0_has_1 (by decide) (fun c1 => ?_) (fun c1 => ?_)
  · refine x_iconst (v := nI 0) X dX0_has_21 (by decide) ?_
    exact x_zret X hW rfl (Or.inl (by decide)) () (Or.inr ⟨rfl, by first | exact inR_of c1 c9 (by omega) | exact inR_neg c1 | exact inR_big c9 (by omega) | exact fun q => inR_big c14 (by decide) ⟨q.1, by have := q.2; omega⟩⟩) rfl dX0_has_22
  · refine x_iload_n X dX0_has_4 rfl (lv_at hl 1 rfl) ?_
    refine x_aload_n X dX0_has_5 rfl (lv_at hl 0 rfl) ?_
    refine x_get X hW (v := .int (nI (cg 0))) hi0 0 rfl rfl 0 (by decide) (List.mem_of_getElem? (i := 1) rfl) rfl rfl dX0_has_6 ?_
    refine x_icmp_ge X 21 dX0_has_9 (by decide) (fun c9 => ?_) (fun c9 => ?_)
    · refine x_iconst (v := nI 0) X dX0_has_21 (by decide) ?_
      exact x_zret X hW rfl (Or.inl (by decide)) () (Or.inr ⟨rfl, by first | exact inR_of c1 c9 (by omega) | exact inR_neg c1 | exact inR_big c9 (by omega) | exact fun q => inR_big c14 (by decide) ⟨q.1, by have := q.2; omega⟩⟩) rfl dX0_has_22
    · refine x_iload_n X dX0_has_12 rfl (lv_at hl 1 rfl) ?_
      refine x_iconst (v := nI 4) X dX0_has_13 (by decide) ?_
      refine x_icmp_ge X 21 dX0_has_14 (by decide) (fun c14 => ?_) (fun c14 => ?_)
      · refine x_iconst (v := nI 0) X dX0_has_21 (by decide) ?_
        exact x_zret X hW rfl (Or.inl (by decide)) () (Or.inr ⟨rfl, by first | exact inR_of c1 c9 (by omega) | exact inR_neg c1 | exact inR_big c9 (by omega) | exact fun q => inR_big c14 (by decide) ⟨q.1, by have := q.2; omega⟩⟩) rfl dX0_has_22
      · refine x_iconst (v := nI 1) X dX0_has_17 (by decide) ?_
        refine x_goto X 22 dX0_has_18 (by decide) ?_
        exact x_zret X hW rfl (Or.inr (by decide)) () (Or.inl ⟨rfl, by first | exact inR_of c1 c9 (by omega) | exact inR_neg c1 | exact inR_big c9 (by omega) | exact fun q => inR_big c14 (by decide) ⟨q.1, by have := q.2; omega⟩⟩) rfl dX0_has_22
set_option maxHeartbeats 4000000 in
set_option maxRecDepth 100000 in
theorem c_X0_lastReach (l : Launch) (D : va_G) (cI cZ cO : ClassId) (cq : Nat) (ca : Nat → Nat) (cg : Nat → Nat) (cF : Nat → Nat → Nat) (sz : Nat)   (hn : cg 0 ≤ 4) (h1 : 1 ≤ cg 0) : Met l yX0_lastReach wsX0_lastReach ({ frames := 0, cells := 0, slots := 0, locals := 0 }) (va_Pc [.ref cq] (st_W D (ty3 cI cZ cO) (wC cI cZ cq ca cg cF) sz)) (va_Qi (fun (rr : Int32) (u : Unit) => rr = nI (cg 0 - 1)) (fun u t => at_W D (ty3 cI cZ cO) (va_A (wC cI cZ cq ca cg cF) sz) (wC cI cZ cq ca cg cF) t) (va_A (wC cI cZ cq ca cg cF) sz)) 0 0 (va_A (wC cI cZ cq ca cg cF) sz) := by
  refine Met.goi (cc := cX0_lastReach) (maxL := 1) (ret := (some .int)) (by decide) rfl (Nat.le_of_ble_eq_true rfl) (fun p e s m below meth c A ls X hW hl => ?_)
  have hi0 : ∀ w ∈ wsX00, w ∈ wsX0_lastReach := fun w h => List.mem_cons_of_mem _ (List.mem_append_right _ h)
  have hl : lv_has ls 1 [(0, .ref cq)] := hl
  refine x_aload_n X dX0_lastReach_0 rfl (lv_at hl 0 rfl) ?_
  refine x_get X hW (v := .int (nI (cg 0))) hi0 0 rfl rfl 0 (by decide) (List.mem_of_getElem? (i := 1) rfl) rfl rfl dX0_lastReach_1 ?_
  refine x_iconst (v := nI 1) X dX0_lastReach_4 (by decide) ?_
  refine n_isub X dX0_lastReach_5 (by omega) ?_
  exact x_iret X hW rfl () (rfl) rfl dX0_lastReach_6
set_option maxHeartbeats 4000000 in
set_option maxRecDepth 100000 in
theorem c_X0_hasGate (l : Launch) (D : va_G) (cI cZ cO : ClassId) (cq : Nat) (ca : Nat → Nat) (cg : Nat → Nat) (cF : Nat → Nat → Nat) (sz : Nat) (r : Int32)  (hn : cg 0 ≤ 4) : Met l yX0_hasGate wsX0_hasGate ({ frames := 1, cells := 0, slots := 0, locals := 21 }) (va_Pc [.ref cq, .int r] (st_W D (ty3 cI cZ cO) (wC cI cZ cq ca cg cF) sz)) (va_Qi (fun (rr : Int32) (u : Unit) => (rr = nI 1 ∧ (inR r (cg 0 - 1)) ∨ rr = nI 0 ∧ ¬ (inR r (cg 0 - 1)))) (fun u t => at_W D (ty3 cI cZ cO) (va_A (wC cI cZ cq ca cg cF) sz) (wC cI cZ cq ca cg cF) t) (va_A (wC cI cZ cq ca cg cF) sz)) 0 0 (va_A (wC cI cZ cq ca cg cF) sz) := by
  refine Met.goi (cc := cX0_hasGate) (maxL := 2) (ret := (some .boolean)) (by decide) rfl (Nat.le_of_ble_eq_true rfl) (fun p e s m below meth c A ls X hW hl => ?_)
  have hi0 : ∀ w ∈ wsX00, w ∈ wsX0_hasGate := fun w h => List.mem_cons_of_mem _ (List.mem_append_right _ h)
  have hl : lv_has ls 2 [(0, .ref cq), (1, .int r)] := hl
  refine x_aload_n X dX0_hasGate_0 rfl (lv_at hl 0 rfl) ?_
  refine x_iload_n X dX0_hasGate_1 rfl (lv_at hl 1 rfl) ?_
  refine x_callVi0 X hW (As := [.int r]) (rest := []) (c_X0_has l D cI cZ cO cq ca cg cF _ r (show (cg 0) ≤ 4 from (by first | assumption | omega))) (cwV 1 X.2.2.2.2.2.1 gX0_hasGate_X0_has rfl rfl rfl (by decide +kernel) ⟨Nat.le_of_ble_eq_true rfl, Nat.le_of_ble_eq_true rfl⟩) 0 0 rfl rfl rfl rfl hl.1 rfl (Nat.le_of_ble_eq_true rfl) ⟨Nat.le_of_ble_eq_true rfl, Nat.le_of_ble_eq_true rfl⟩ dX0_hasGate_2 (fun r1 u2 H locs w2 hW => ?_)
  have hW : Wd D A s.heap H locs (wC cI cZ cq ca cg cF) := hW
  replace w2 : (r1 = nI 1 ∧ (inR r ((cg 0))) ∨ r1 = nI 0 ∧ ¬ (inR r ((cg 0)))) := w2
  rcases w2 with ⟨w2, h2⟩ | ⟨w2, h2⟩
  · subst w2
    obtain ⟨j, hj, rfl⟩ := inR_ex h2 (by omega)
    refine n_if_eq X 20 dX0_hasGate_5 (by decide) (by decide) (fun c5 => by exact absurd c5 (by decide)) (fun c5 => ?_)
    refine x_iload_n X dX0_hasGate_8 rfl (lv_at hl 1 rfl) ?_
    refine x_aload_n X dX0_hasGate_9 rfl (lv_at hl 0 rfl) ?_
    refine x_callVi0 X hW (As := []) (rest := [.int (nI j)]) (c_X0_lastReach l D cI cZ cO cq ca cg cF _ (show (cg 0) ≤ 4 from (by first | assumption | omega)) (show 1 ≤ (cg 0) from (by first | assumption | omega))) (cwV 0 X.2.2.2.2.2.1 gX0_hasGate_X0_lastReach rfl rfl rfl (by decide +kernel) ⟨Nat.le_of_ble_eq_true rfl, Nat.le_of_ble_eq_true rfl⟩) 0 0 rfl rfl rfl rfl hl.1 rfl (Nat.le_of_ble_eq_true rfl) ⟨Nat.le_of_ble_eq_true rfl, Nat.le_of_ble_eq_true rfl⟩ dX0_hasGate_10 (fun r3 u4 H locs w10 hW => ?_)
    have hW : Wd D A s.heap H locs (wC cI cZ cq ca cg cF) := hW
    replace w10 : r3 = nI ((cg 0) - 1) := w10
    subst w10
    refine n_icmp_ge X 20 dX0_hasGate_13 (by decide) (by omega) (by omega) (fun c13 => ?_) (fun c13 => ?_)
    · refine x_iconst (v := nI 0) X dX0_hasGate_20 (by decide) ?_
      exact x_zret X hW rfl (Or.inl (by decide)) () (Or.inr ⟨rfl, by first | exact g2 | (rw [inR_nI (by omega)]; omega)⟩) rfl dX0_hasGate_21
    · refine x_iconst (v := nI 1) X dX0_hasGate_16 (by decide) ?_
      refine x_goto X 21 dX0_hasGate_17 (by decide) ?_
      exact x_zret X hW rfl (Or.inr (by decide)) () (Or.inl ⟨rfl, by first | exact g2 | (rw [inR_nI (by omega)]; omega)⟩) rfl dX0_hasGate_21
  · subst w2
    have g2 := fun (q : inR r (cg 0 - 1)) => h2 ⟨q.1, by have := q.2; omega⟩
    refine n_if_eq X 20 dX0_hasGate_5 (by decide) (by decide) (fun c5 => ?_) (fun c5 => by exact absurd c5 (by decide))
    refine x_iconst (v := nI 0) X dX0_hasGate_20 (by decide) ?_
    exact x_zret X hW rfl (Or.inl (by decide)) () (Or.inr ⟨rfl, by first | exact g2 | (rw [inR_nI (by omega)]; omega)⟩) rfl dX0_hasGate_21
set_option maxHeartbeats 4000000 in
set_option maxRecDepth 100000 in
theorem c_X0_kindOf (l : Launch) (D : va_G) (cI cZ cO : ClassId) (cq : Nat) (ca : Nat → Nat) (cg : Nat → Nat) (cF : Nat → Nat → Nat) (sz : Nat) (j : Nat)  (hj : j < cg 0) (hn : cg 0 ≤ 4) : Met l yX0_kindOf wsX0_kindOf ({ frames := 1, cells := 0, slots := 0, locals := 21 }) (va_Pc [.ref cq, .int (nI j)] (st_W D (ty3 cI cZ cO) (wC cI cZ cq ca cg cF) sz)) (va_Qi (fun (rr : Int32) (u : Unit) => rr = nI (cF 2 j)) (fun u t => at_W D (ty3 cI cZ cO) (va_A (wC cI cZ cq ca cg cF) sz) (wC cI cZ cq ca cg cF) t) (va_A (wC cI cZ cq ca cg cF) sz)) 0 0 (va_A (wC cI cZ cq ca cg cF) sz) := by
  refine Met.goi (cc := cX0_kindOf) (maxL := 2) (ret := (some .int)) (by decide) rfl (Nat.le_of_ble_eq_true rfl) (fun p e s m below meth c A ls X hW hl => ?_)
  have hi0 : ∀ w ∈ wsX00, w ∈ wsX0_kindOf := fun w h => List.mem_cons_of_mem _ (List.mem_append_right _ h)
  have hl : lv_has ls 2 [(0, .ref cq), (1, .int (nI j))] := hl
  refine x_aload_n X dX0_kindOf_0 rfl (lv_at hl 0 rfl) ?_
  refine x_iload_n X dX0_kindOf_1 rfl (lv_at hl 1 rfl) ?_
  refine x_callVi0 X hW (As := [.int (nI j)]) (rest := []) (c_X0_has l D cI cZ cO cq ca cg cF _ (nI j) (show (cg 0) ≤ 4 from (by first | assumption | omega))) (cwV 1 X.2.2.2.2.2.1 gX0_kindOf_X0_has rfl rfl rfl (by decide +kernel) ⟨Nat.le_of_ble_eq_true rfl, Nat.le_of_ble_eq_true rfl⟩) 0 0 rfl rfl rfl rfl hl.1 rfl (Nat.le_of_ble_eq_true rfl) ⟨Nat.le_of_ble_eq_true rfl, Nat.le_of_ble_eq_true rfl⟩ dX0_kindOf_2 (fun r1 u2 H locs w2 hW => ?_)
  have hW : Wd D A s.heap H locs (wC cI cZ cq ca cg cF) := hW
  replace w2 : (r1 = nI 1 ∧ (inR (nI j) ((cg 0))) ∨ r1 = nI 0 ∧ ¬ (inR (nI j) ((cg 0)))) := w2
  rcases w2 with ⟨w2, h2⟩ | ⟨w2, h2⟩
  · subst w2
    refine n_if_eq X 26 dX0_kindOf_5 (by decide) (by decide) (fun c5 => by exact absurd c5 (by decide)) (fun c5 => ?_)
    refine x_iload_n X dX0_kindOf_8 rfl (lv_at hl 1 rfl) ?_
    refine x_aload_n X dX0_kindOf_9 rfl (lv_at hl 0 rfl) ?_
    refine x_get X hW (v := .ref (ca 2)) hi0 0 rfl rfl 2 (by decide) (List.mem_of_getElem? (i := 1) rfl) rfl rfl dX0_kindOf_10 ?_
    refine n_alen X hW (f := fun i => nI (cF 2 i)) 1 0 rfl rfl dX0_kindOf_13 ?_
    refine n_icmp_ge X 26 dX0_kindOf_14 (by decide) (by omega) (by decide) (fun c14 => by omega) (fun c14 => ?_)
    refine x_aload_n X dX0_kindOf_17 rfl (lv_at hl 0 rfl) ?_
    refine x_get X hW (v := .ref (ca 2)) hi0 0 rfl rfl 2 (by decide) (List.mem_of_getElem? (i := 1) rfl) rfl rfl dX0_kindOf_18 ?_
    refine x_iload_n X dX0_kindOf_21 rfl (lv_at hl 1 rfl) ?_
    refine n_iald X hW (f := cF 2) 1 0 rfl rfl (by omega) (by decide) dX0_kindOf_22 ?_
    refine x_goto X 27 dX0_kindOf_23 (by decide) ?_
    exact x_iret X hW rfl () (rfl) rfl dX0_kindOf_27
  · subst w2
    exact absurd ((inR_nI (by omega)).mpr (by omega)) h2
set_option maxHeartbeats 4000000 in
set_option maxRecDepth 100000 in
theorem c_X0_levelOf (l : Launch) (D : va_G) (cI cZ cO : ClassId) (cq : Nat) (ca : Nat → Nat) (cg : Nat → Nat) (cF : Nat → Nat → Nat) (sz : Nat) (j : Nat)  (hj : j < cg 0) (hn : cg 0 ≤ 4) : Met l yX0_levelOf wsX0_levelOf ({ frames := 1, cells := 0, slots := 0, locals := 21 }) (va_Pc [.ref cq, .int (nI j)] (st_W D (ty3 cI cZ cO) (wC cI cZ cq ca cg cF) sz)) (va_Qi (fun (rr : Int32) (u : Unit) => rr = nI (cF 3 j)) (fun u t => at_W D (ty3 cI cZ cO) (va_A (wC cI cZ cq ca cg cF) sz) (wC cI cZ cq ca cg cF) t) (va_A (wC cI cZ cq ca cg cF) sz)) 0 0 (va_A (wC cI cZ cq ca cg cF) sz) := by
  refine Met.goi (cc := cX0_levelOf) (maxL := 2) (ret := (some .int)) (by decide) rfl (Nat.le_of_ble_eq_true rfl) (fun p e s m below meth c A ls X hW hl => ?_)
  have hi0 : ∀ w ∈ wsX00, w ∈ wsX0_levelOf := fun w h => List.mem_cons_of_mem _ (List.mem_append_right _ h)
  have hl : lv_has ls 2 [(0, .ref cq), (1, .int (nI j))] := hl
  refine x_aload_n X dX0_levelOf_0 rfl (lv_at hl 0 rfl) ?_
  refine x_iload_n X dX0_levelOf_1 rfl (lv_at hl 1 rfl) ?_
  refine x_callVi0 X hW (As := [.int (nI j)]) (rest := []) (c_X0_has l D cI cZ cO cq ca cg cF _ (nI j) (show (cg 0) ≤ 4 from (by first | assumption | omega))) (cwV 1 X.2.2.2.2.2.1 gX0_levelOf_X0_has rfl rfl rfl (by decide +kernel) ⟨Nat.le_of_ble_eq_true rfl, Nat.le_of_ble_eq_true rfl⟩) 0 0 rfl rfl rfl rfl hl.1 rfl (Nat.le_of_ble_eq_true rfl) ⟨Nat.le_of_ble_eq_true rfl, Nat.le_of_ble_eq_true rfl⟩ dX0_levelOf_2 (fun r1 u2 H locs w2 hW => ?_)
  have hW : Wd D A s.heap H locs (wC cI cZ cq ca cg cF) := hW
  replace w2 : (r1 = nI 1 ∧ (inR (nI j) ((cg 0))) ∨ r1 = nI 0 ∧ ¬ (inR (nI j) ((cg 0)))) := w2
  rcases w2 with ⟨w2, h2⟩ | ⟨w2, h2⟩
  · subst w2
    refine n_if_eq X 26 dX0_levelOf_5 (by decide) (by decide) (fun c5 => by exact absurd c5 (by decide)) (fun c5 => ?_)
    refine x_iload_n X dX0_levelOf_8 rfl (lv_at hl 1 rfl) ?_
    refine x_aload_n X dX0_levelOf_9 rfl (lv_at hl 0 rfl) ?_
    refine x_get X hW (v := .ref (ca 3)) hi0 0 rfl rfl 3 (by decide) (List.mem_of_getElem? (i := 1) rfl) rfl rfl dX0_levelOf_10 ?_
    refine n_alen X hW (f := fun i => nI (cF 3 i)) 2 0 rfl rfl dX0_levelOf_13 ?_
    refine n_icmp_ge X 26 dX0_levelOf_14 (by decide) (by omega) (by decide) (fun c14 => by omega) (fun c14 => ?_)
    refine x_aload_n X dX0_levelOf_17 rfl (lv_at hl 0 rfl) ?_
    refine x_get X hW (v := .ref (ca 3)) hi0 0 rfl rfl 3 (by decide) (List.mem_of_getElem? (i := 1) rfl) rfl rfl dX0_levelOf_18 ?_
    refine x_iload_n X dX0_levelOf_21 rfl (lv_at hl 1 rfl) ?_
    refine n_iald X hW (f := cF 3) 2 0 rfl rfl (by omega) (by decide) dX0_levelOf_22 ?_
    refine x_goto X 27 dX0_levelOf_23 (by decide) ?_
    exact x_iret X hW rfl () (rfl) rfl dX0_levelOf_27
  · subst w2
    exact absurd ((inR_nI (by omega)).mpr (by omega)) h2
set_option maxHeartbeats 4000000 in
set_option maxRecDepth 100000 in
theorem c_X0_limitOf (l : Launch) (D : va_G) (cI cZ cO : ClassId) (cq : Nat) (ca : Nat → Nat) (cg : Nat → Nat) (cF : Nat → Nat → Nat) (sz : Nat) (j : Nat)  (hj : j < cg 0) (hn : cg 0 ≤ 4) : Met l yX0_limitOf wsX0_limitOf ({ frames := 1, cells := 0, slots := 0, locals := 21 }) (va_Pc [.ref cq, .int (nI j)] (st_W D (ty3 cI cZ cO) (wC cI cZ cq ca cg cF) sz)) (va_Qi (fun (rr : Int32) (u : Unit) => rr = nI (cF 4 j)) (fun u t => at_W D (ty3 cI cZ cO) (va_A (wC cI cZ cq ca cg cF) sz) (wC cI cZ cq ca cg cF) t) (va_A (wC cI cZ cq ca cg cF) sz)) 0 0 (va_A (wC cI cZ cq ca cg cF) sz) := by
  refine Met.goi (cc := cX0_limitOf) (maxL := 2) (ret := (some .int)) (by decide) rfl (Nat.le_of_ble_eq_true rfl) (fun p e s m below meth c A ls X hW hl => ?_)
  have hi0 : ∀ w ∈ wsX00, w ∈ wsX0_limitOf := fun w h => List.mem_cons_of_mem _ (List.mem_append_right _ h)
  have hl : lv_has ls 2 [(0, .ref cq), (1, .int (nI j))] := hl
  refine x_aload_n X dX0_limitOf_0 rfl (lv_at hl 0 rfl) ?_
  refine x_iload_n X dX0_limitOf_1 rfl (lv_at hl 1 rfl) ?_
  refine x_callVi0 X hW (As := [.int (nI j)]) (rest := []) (c_X0_has l D cI cZ cO cq ca cg cF _ (nI j) (show (cg 0) ≤ 4 from (by first | assumption | omega))) (cwV 1 X.2.2.2.2.2.1 gX0_limitOf_X0_has rfl rfl rfl (by decide +kernel) ⟨Nat.le_of_ble_eq_true rfl, Nat.le_of_ble_eq_true rfl⟩) 0 0 rfl rfl rfl rfl hl.1 rfl (Nat.le_of_ble_eq_true rfl) ⟨Nat.le_of_ble_eq_true rfl, Nat.le_of_ble_eq_true rfl⟩ dX0_limitOf_2 (fun r1 u2 H locs w2 hW => ?_)
  have hW : Wd D A s.heap H locs (wC cI cZ cq ca cg cF) := hW
  replace w2 : (r1 = nI 1 ∧ (inR (nI j) ((cg 0))) ∨ r1 = nI 0 ∧ ¬ (inR (nI j) ((cg 0)))) := w2
  rcases w2 with ⟨w2, h2⟩ | ⟨w2, h2⟩
  · subst w2
    refine n_if_eq X 26 dX0_limitOf_5 (by decide) (by decide) (fun c5 => by exact absurd c5 (by decide)) (fun c5 => ?_)
    refine x_iload_n X dX0_limitOf_8 rfl (lv_at hl 1 rfl) ?_
    refine x_aload_n X dX0_limitOf_9 rfl (lv_at hl 0 rfl) ?_
    refine x_get X hW (v := .ref (ca 4)) hi0 0 rfl rfl 4 (by decide) (List.mem_of_getElem? (i := 1) rfl) rfl rfl dX0_limitOf_10 ?_
    refine n_alen X hW (f := fun i => nI (cF 4 i)) 3 0 rfl rfl dX0_limitOf_13 ?_
    refine n_icmp_ge X 26 dX0_limitOf_14 (by decide) (by omega) (by decide) (fun c14 => by omega) (fun c14 => ?_)
    refine x_aload_n X dX0_limitOf_17 rfl (lv_at hl 0 rfl) ?_
    refine x_get X hW (v := .ref (ca 4)) hi0 0 rfl rfl 4 (by decide) (List.mem_of_getElem? (i := 1) rfl) rfl rfl dX0_limitOf_18 ?_
    refine x_iload_n X dX0_limitOf_21 rfl (lv_at hl 1 rfl) ?_
    refine n_iald X hW (f := cF 4) 3 0 rfl rfl (by omega) (by decide) dX0_limitOf_22 ?_
    refine x_goto X 27 dX0_limitOf_23 (by decide) ?_
    exact x_iret X hW rfl () (rfl) rfl dX0_limitOf_27
  · subst w2
    exact absurd ((inR_nI (by omega)).mpr (by omega)) h2
set_option maxHeartbeats 4000000 in
set_option maxRecDepth 100000 in
theorem c_X0_wantOf (l : Launch) (D : va_G) (cI cZ cO : ClassId) (cq : Nat) (ca : Nat → Nat) (cg : Nat → Nat) (cF : Nat → Nat → Nat) (sz : Nat) (j : Nat)  (hj : j < cg 0) (hn : cg 0 ≤ 4) (hk : ∀ z0, cF 2 z0 ≤ 2) (hm : ∀ z0, cF 4 z0 ≤ 9) : Met l yX0_wantOf wsX0_wantOf ({ frames := 2, cells := 0, slots := 0, locals := 42 }) (va_Pc [.ref cq, .int (nI j)] (st_W D (ty3 cI cZ cO) (wC cI cZ cq ca cg cF) sz)) (va_Qi (fun (rr : Int32) (u : Unit) => rr = nI (want (cF 2 j) (cF 4 j))) (fun u t => at_W D (ty3 cI cZ cO) (va_A (wC cI cZ cq ca cg cF) sz) (wC cI cZ cq ca cg cF) t) (va_A (wC cI cZ cq ca cg cF) sz)) 0 0 (va_A (wC cI cZ cq ca cg cF) sz) := by
  refine Met.goi (cc := cX0_wantOf) (maxL := 3) (ret := (some .int)) (by decide) rfl (Nat.le_of_ble_eq_true rfl) (fun p e s m below meth c A ls X hW hl => ?_)
  have hi0 : ∀ w ∈ wsX00, w ∈ wsX0_wantOf := fun w h => List.mem_cons_of_mem _ (List.mem_append_right _ h)
  have hl : lv_has ls 3 [(0, .ref cq), (1, .int (nI j))] := hl
  have b2 := hm j
  refine x_iconst (v := nI 0) X dX0_wantOf_0 (by decide) ?_
  refine x_aload_n X dX0_wantOf_1 rfl (lv_at hl 0 rfl) ?_
  refine x_iload_n X dX0_wantOf_2 rfl (lv_at hl 1 rfl) ?_
  refine x_callVi0 X hW (As := [.int (nI j)]) (rest := [.int (nI 0)]) (c_X0_limitOf l D cI cZ cO cq ca cg cF _ j (show j < (cg 0) from (by first | assumption | omega)) (show (cg 0) ≤ 4 from (by first | assumption | omega))) (cwV 1 X.2.2.2.2.2.1 gX0_wantOf_X0_limitOf rfl rfl rfl (by decide +kernel) ⟨Nat.le_of_ble_eq_true rfl, Nat.le_of_ble_eq_true rfl⟩) 0 0 rfl rfl rfl rfl hl.1 rfl (Nat.le_of_ble_eq_true rfl) ⟨Nat.le_of_ble_eq_true rfl, Nat.le_of_ble_eq_true rfl⟩ dX0_wantOf_3 (fun r1 u2 H locs w3 hW => ?_)
  have hW : Wd D A s.heap H locs (wC cI cZ cq ca cg cF) := hW
  replace w3 : r1 = nI ((cF 4) j) := w3
  subst w3
  refine x_iconst (v := nI 1) X dX0_wantOf_6 (by decide) ?_
  refine x_isub (v := (nI ((cF 4) j)) - (nI 1)) X dX0_wantOf_7 rfl ?_
  refine x_mmax (v := nI (cF 4 j - 1)) X hl.1 (List.mem_of_getElem? (i := 1) rfl) (List.mem_of_getElem? (i := 2) rfl) (List.mem_of_getElem? (i := 3) rfl) (List.mem_of_getElem? (i := 4) rfl) ⟨Nat.le_of_ble_eq_true rfl, Nat.le_of_ble_eq_true rfl⟩ ⟨Nat.le_of_ble_eq_true rfl, Nat.le_of_ble_eq_true rfl⟩ (ie_mx (by omega)) dX0_wantOf_8 ?_
  refine x_istore_n X [(2, .int (nI (cF 4 j - 1))), (0, .ref cq), (1, .int (nI j))] dX0_wantOf_11 rfl hl (by decide) rfl (fun ls hl => ?_)
  refine x_aload_n X dX0_wantOf_12 rfl (lv_at hl 1 rfl) ?_
  refine x_iload_n X dX0_wantOf_13 rfl (lv_at hl 2 rfl) ?_
  refine x_callVi0 X hW (As := [.int (nI j)]) (rest := []) (c_X0_kindOf l D cI cZ cO cq ca cg cF _ j (show j < (cg 0) from (by first | assumption | omega)) (show (cg 0) ≤ 4 from (by first | assumption | omega))) (cwV 1 X.2.2.2.2.2.1 gX0_wantOf_X0_kindOf rfl rfl rfl (by decide +kernel) ⟨Nat.le_of_ble_eq_true rfl, Nat.le_of_ble_eq_true rfl⟩) 0 0 rfl rfl rfl rfl hl.1 rfl (Nat.le_of_ble_eq_true rfl) ⟨Nat.le_of_ble_eq_true rfl, Nat.le_of_ble_eq_true rfl⟩ dX0_wantOf_14 (fun r3 u4 H locs w14 hW => ?_)
  have hW : Wd D A s.heap H locs (wC cI cZ cq ca cg cF) := hW
  replace w14 : r3 = nI ((cF 2) j) := w14
  subst w14
  rcases (show cF 2 j = 0 ∨ cF 2 j = 1 ∨ cF 2 j = 2 by have := hk j; omega) with ek | ek | ek
  · refine n_as0 (b := 0) ek ?_
    refine lv_lookup (off := 33) (tgt := 50) X.1 X.2.1 dX0_wantOf_17 (by decide) (by decide) (by decide) ?_
    refine x_aload_n X dX0_wantOf_50 rfl (lv_at hl 1 rfl) ?_
    refine x_iload_n X dX0_wantOf_51 rfl (lv_at hl 2 rfl) ?_
    refine x_callVi0 X hW (As := [.int (nI j)]) (rest := []) (c_X0_limitOf l D cI cZ cO cq ca cg cF _ j (show j < (cg 0) from (by first | assumption | omega)) (show (cg 0) ≤ 4 from (by first | assumption | omega))) (cwV 1 X.2.2.2.2.2.1 gX0_wantOf_X0_limitOf rfl rfl rfl (by decide +kernel) ⟨Nat.le_of_ble_eq_true rfl, Nat.le_of_ble_eq_true rfl⟩) 0 0 rfl rfl rfl rfl hl.1 rfl (Nat.le_of_ble_eq_true rfl) ⟨Nat.le_of_ble_eq_true rfl, Nat.le_of_ble_eq_true rfl⟩ dX0_wantOf_52 (fun r5 u6 H locs w52 hW => ?_)
    have hW : Wd D A s.heap H locs (wC cI cZ cq ca cg cF) := hW
    replace w52 : r5 = nI ((cF 4) j) := w52
    subst w52
    exact x_iret X hW rfl () ((congrArg nI (show (cF 4) j = want (cF 2 j) (cF 4 j) from by unfold want; rw [ek]; first | rfl | (simp; done)))) rfl dX0_wantOf_55
  · refine n_as0 (b := 1) ek ?_
    refine lv_lookup (off := 31) (tgt := 48) X.1 X.2.1 dX0_wantOf_17 (by decide) (by decide) (by decide) ?_
    refine x_iload_n X dX0_wantOf_48 rfl (lv_at hl 0 rfl) ?_
    exact x_iret X hW rfl () ((congrArg nI (show cF 4 j - 1 = want (cF 2 j) (cF 4 j) from by unfold want; rw [ek]; first | rfl | (simp; done)))) rfl dX0_wantOf_49
  · refine n_as0 (b := 2) ek ?_
    refine lv_lookup (off := 27) (tgt := 44) X.1 X.2.1 dX0_wantOf_17 (by decide) (by decide) (by decide) ?_
    refine x_iload_n X dX0_wantOf_44 rfl (lv_at hl 0 rfl) ?_
    refine x_iconst (v := nI 2) X dX0_wantOf_45 (by decide) ?_
    refine n_idiv X dX0_wantOf_46 (by omega) (by omega) (by decide) ?_
    exact x_iret X hW rfl () ((congrArg nI (show (cF 4 j - 1) / 2 = want (cF 2 j) (cF 4 j) from by unfold want; rw [ek]; first | rfl | (simp; done)))) rfl dX0_wantOf_47
set_option maxHeartbeats 4000000 in
set_option maxRecDepth 100000 in
theorem c_X0_become0 (l : Launch) (D : va_G) (cI cZ cO : ClassId) (cq : Nat) (ca : Nat → Nat) (cg : Nat → Nat) (cF : Nat → Nat → Nat) (sz : Nat) (j : Nat) (v : Nat)  (hj : j < cg 0) (hn : cg 0 ≤ 4) : Met l yX0_become wsX0_become ({ frames := 1, cells := 0, slots := 0, locals := 21 }) (va_Pc [.ref cq, .int (nI j), .int (nI 0), .int (nI v)] (st_W D (ty3 cI cZ cO) (wC cI cZ cq ca cg cF) sz)) (va_Qv (fun (u : Unit) => True) (fun u t => at_W D (ty3 cI cZ cO) (va_A (wC cI cZ cq ca cg cF) sz) (wC cI cZ cq ca cg (sF cF 2 (sF (cF 2) j v))) t) (va_A (wC cI cZ cq ca cg cF) sz)) 0 0 (va_A (wC cI cZ cq ca cg cF) sz) := by
  refine Met.gov (cc := cX0_become) (maxL := 4) (ret := none) (by decide) rfl (Nat.le_of_ble_eq_true rfl) (fun p e s m below meth c A ls X hW hl => ?_)
  have hi0 : ∀ w ∈ wsX00, w ∈ wsX0_become := fun w h => List.mem_cons_of_mem _ (List.mem_append_right _ h)
  have hl : lv_has ls 4 [(0, .ref cq), (1, .int (nI j)), (2, .int (nI 0)), (3, .int (nI v))] := hl
  refine x_aload_n X dX0_become_0 rfl (lv_at hl 0 rfl) ?_
  refine x_iload_n X dX0_become_1 rfl (lv_at hl 1 rfl) ?_
  refine x_callVi0 X hW (As := [.int (nI j)]) (rest := []) (c_X0_has l D cI cZ cO cq ca cg cF _ (nI j) (show (cg 0) ≤ 4 from (by first | assumption | omega))) (cwV 1 X.2.2.2.2.2.1 gX0_become_X0_has rfl rfl rfl (by decide +kernel) ⟨Nat.le_of_ble_eq_true rfl, Nat.le_of_ble_eq_true rfl⟩) 0 0 rfl rfl rfl rfl hl.1 rfl (Nat.le_of_ble_eq_true rfl) ⟨Nat.le_of_ble_eq_true rfl, Nat.le_of_ble_eq_true rfl⟩ dX0_become_2 (fun r1 u2 H locs w2 hW => ?_)
  have hW : Wd D A s.heap H locs (wC cI cZ cq ca cg cF) := hW
  replace w2 : (r1 = nI 1 ∧ (inR (nI j) ((cg 0))) ∨ r1 = nI 0 ∧ ¬ (inR (nI j) ((cg 0)))) := w2
  rcases w2 with ⟨w2, h2⟩ | ⟨w2, h2⟩
  · subst w2
    refine n_if_ne X 9 dX0_become_5 (by decide) (by decide) (fun c5 => ?_) (fun c5 => by exact absurd c5 (by decide))
    refine x_iload_n X dX0_become_9 rfl (lv_at hl 2 rfl) ?_
    refine n_if_ne X 32 dX0_become_10 (by decide) (by decide) (fun c10 => by exact absurd c10 (by decide)) (fun c10 => ?_)
    refine x_iload_n X dX0_become_13 rfl (lv_at hl 1 rfl) ?_
    refine x_aload_n X dX0_become_14 rfl (lv_at hl 0 rfl) ?_
    refine x_get X hW (v := .ref (ca 2)) hi0 0 rfl rfl 2 (by decide) (List.mem_of_getElem? (i := 1) rfl) rfl rfl dX0_become_15 ?_
    refine n_alen X hW (f := fun i => nI (cF 2 i)) 1 0 rfl rfl dX0_become_18 ?_
    refine n_icmp_ge X 32 dX0_become_19 (by decide) (by omega) (by decide) (fun c19 => by omega) (fun c19 => ?_)
    refine x_aload_n X dX0_become_22 rfl (lv_at hl 0 rfl) ?_
    refine x_get X hW (v := .ref (ca 2)) hi0 0 rfl rfl 2 (by decide) (List.mem_of_getElem? (i := 1) rfl) rfl rfl dX0_become_23 ?_
    refine x_iload_n X dX0_become_26 rfl (lv_at hl 1 rfl) ?_
    refine x_iload_n X dX0_become_27 rfl (lv_at hl 3 rfl) ?_
    refine n_iast X hW (f := cF 2) 1 0 rfl rfl (by omega) (by decide) dX0_become_28 (wC cI cZ cq ca cg (sF cF 2 (sF (cF 2) j v))) rfl (fun H locs hW => ?_)
    refine x_goto X 77 dX0_become_29 (by decide) ?_
    exact x_vret X hW rfl () (trivial) rfl dX0_become_77
  · subst w2
    exact absurd ((inR_nI (by omega)).mpr (by omega)) h2
set_option maxHeartbeats 4000000 in
set_option maxRecDepth 100000 in
theorem c_X0_become1 (l : Launch) (D : va_G) (cI cZ cO : ClassId) (cq : Nat) (ca : Nat → Nat) (cg : Nat → Nat) (cF : Nat → Nat → Nat) (sz : Nat) (j : Nat) (v : Nat)  (hj : j < cg 0) (hn : cg 0 ≤ 4) : Met l yX0_become wsX0_become ({ frames := 1, cells := 0, slots := 0, locals := 21 }) (va_Pc [.ref cq, .int (nI j), .int (nI 1), .int (nI v)] (st_W D (ty3 cI cZ cO) (wC cI cZ cq ca cg cF) sz)) (va_Qv (fun (u : Unit) => True) (fun u t => at_W D (ty3 cI cZ cO) (va_A (wC cI cZ cq ca cg cF) sz) (wC cI cZ cq ca cg (sF cF 3 (sF (cF 3) j v))) t) (va_A (wC cI cZ cq ca cg cF) sz)) 0 0 (va_A (wC cI cZ cq ca cg cF) sz) := by
  refine Met.gov (cc := cX0_become) (maxL := 4) (ret := none) (by decide) rfl (Nat.le_of_ble_eq_true rfl) (fun p e s m below meth c A ls X hW hl => ?_)
  have hi0 : ∀ w ∈ wsX00, w ∈ wsX0_become := fun w h => List.mem_cons_of_mem _ (List.mem_append_right _ h)
  have hl : lv_has ls 4 [(0, .ref cq), (1, .int (nI j)), (2, .int (nI 1)), (3, .int (nI v))] := hl
  refine x_aload_n X dX0_become_0 rfl (lv_at hl 0 rfl) ?_
  refine x_iload_n X dX0_become_1 rfl (lv_at hl 1 rfl) ?_
  refine x_callVi0 X hW (As := [.int (nI j)]) (rest := []) (c_X0_has l D cI cZ cO cq ca cg cF _ (nI j) (show (cg 0) ≤ 4 from (by first | assumption | omega))) (cwV 1 X.2.2.2.2.2.1 gX0_become_X0_has rfl rfl rfl (by decide +kernel) ⟨Nat.le_of_ble_eq_true rfl, Nat.le_of_ble_eq_true rfl⟩) 0 0 rfl rfl rfl rfl hl.1 rfl (Nat.le_of_ble_eq_true rfl) ⟨Nat.le_of_ble_eq_true rfl, Nat.le_of_ble_eq_true rfl⟩ dX0_become_2 (fun r1 u2 H locs w2 hW => ?_)
  have hW : Wd D A s.heap H locs (wC cI cZ cq ca cg cF) := hW
  replace w2 : (r1 = nI 1 ∧ (inR (nI j) ((cg 0))) ∨ r1 = nI 0 ∧ ¬ (inR (nI j) ((cg 0)))) := w2
  rcases w2 with ⟨w2, h2⟩ | ⟨w2, h2⟩
  · subst w2
    refine n_if_ne X 9 dX0_become_5 (by decide) (by decide) (fun c5 => ?_) (fun c5 => by exact absurd c5 (by decide))
    refine x_iload_n X dX0_become_9 rfl (lv_at hl 2 rfl) ?_
    refine n_if_ne X 32 dX0_become_10 (by decide) (by decide) (fun c10 => ?_) (fun c10 => by exact absurd c10 (by decide))
    refine x_iload_n X dX0_become_32 rfl (lv_at hl 2 rfl) ?_
    refine x_iconst (v := nI 1) X dX0_become_33 (by decide) ?_
    refine n_icmp_ne X 56 dX0_become_34 (by decide) (by decide) (by decide) (fun c34 => by exact absurd c34 (by decide)) (fun c34 => ?_)
    refine x_iload_n X dX0_become_37 rfl (lv_at hl 1 rfl) ?_
    refine x_aload_n X dX0_become_38 rfl (lv_at hl 0 rfl) ?_
    refine x_get X hW (v := .ref (ca 3)) hi0 0 rfl rfl 3 (by decide) (List.mem_of_getElem? (i := 2) rfl) rfl rfl dX0_become_39 ?_
    refine n_alen X hW (f := fun i => nI (cF 3 i)) 2 0 rfl rfl dX0_become_42 ?_
    refine n_icmp_ge X 56 dX0_become_43 (by decide) (by omega) (by decide) (fun c43 => by omega) (fun c43 => ?_)
    refine x_aload_n X dX0_become_46 rfl (lv_at hl 0 rfl) ?_
    refine x_get X hW (v := .ref (ca 3)) hi0 0 rfl rfl 3 (by decide) (List.mem_of_getElem? (i := 2) rfl) rfl rfl dX0_become_47 ?_
    refine x_iload_n X dX0_become_50 rfl (lv_at hl 1 rfl) ?_
    refine x_iload_n X dX0_become_51 rfl (lv_at hl 3 rfl) ?_
    refine n_iast X hW (f := cF 3) 2 0 rfl rfl (by omega) (by decide) dX0_become_52 (wC cI cZ cq ca cg (sF cF 3 (sF (cF 3) j v))) rfl (fun H locs hW => ?_)
    refine x_goto X 77 dX0_become_53 (by decide) ?_
    exact x_vret X hW rfl () (trivial) rfl dX0_become_77
  · subst w2
    exact absurd ((inR_nI (by omega)).mpr (by omega)) h2
set_option maxHeartbeats 4000000 in
set_option maxRecDepth 100000 in
theorem c_X0_become2 (l : Launch) (D : va_G) (cI cZ cO : ClassId) (cq : Nat) (ca : Nat → Nat) (cg : Nat → Nat) (cF : Nat → Nat → Nat) (sz : Nat) (j : Nat) (v : Nat)  (hj : j < cg 0) (hn : cg 0 ≤ 4) : Met l yX0_become wsX0_become ({ frames := 1, cells := 0, slots := 0, locals := 21 }) (va_Pc [.ref cq, .int (nI j), .int (nI 2), .int (nI v)] (st_W D (ty3 cI cZ cO) (wC cI cZ cq ca cg cF) sz)) (va_Qv (fun (u : Unit) => True) (fun u t => at_W D (ty3 cI cZ cO) (va_A (wC cI cZ cq ca cg cF) sz) (wC cI cZ cq ca cg (sF cF 4 (sF (cF 4) j v))) t) (va_A (wC cI cZ cq ca cg cF) sz)) 0 0 (va_A (wC cI cZ cq ca cg cF) sz) := by
  refine Met.gov (cc := cX0_become) (maxL := 4) (ret := none) (by decide) rfl (Nat.le_of_ble_eq_true rfl) (fun p e s m below meth c A ls X hW hl => ?_)
  have hi0 : ∀ w ∈ wsX00, w ∈ wsX0_become := fun w h => List.mem_cons_of_mem _ (List.mem_append_right _ h)
  have hl : lv_has ls 4 [(0, .ref cq), (1, .int (nI j)), (2, .int (nI 2)), (3, .int (nI v))] := hl
  refine x_aload_n X dX0_become_0 rfl (lv_at hl 0 rfl) ?_
  refine x_iload_n X dX0_become_1 rfl (lv_at hl 1 rfl) ?_
  refine x_callVi0 X hW (As := [.int (nI j)]) (rest := []) (c_X0_has l D cI cZ cO cq ca cg cF _ (nI j) (show (cg 0) ≤ 4 from (by first | assumption | omega))) (cwV 1 X.2.2.2.2.2.1 gX0_become_X0_has rfl rfl rfl (by decide +kernel) ⟨Nat.le_of_ble_eq_true rfl, Nat.le_of_ble_eq_true rfl⟩) 0 0 rfl rfl rfl rfl hl.1 rfl (Nat.le_of_ble_eq_true rfl) ⟨Nat.le_of_ble_eq_true rfl, Nat.le_of_ble_eq_true rfl⟩ dX0_become_2 (fun r1 u2 H locs w2 hW => ?_)
  have hW : Wd D A s.heap H locs (wC cI cZ cq ca cg cF) := hW
  replace w2 : (r1 = nI 1 ∧ (inR (nI j) ((cg 0))) ∨ r1 = nI 0 ∧ ¬ (inR (nI j) ((cg 0)))) := w2
  rcases w2 with ⟨w2, h2⟩ | ⟨w2, h2⟩
  · subst w2
    refine n_if_ne X 9 dX0_become_5 (by decide) (by decide) (fun c5 => ?_) (fun c5 => by exact absurd c5 (by decide))
    refine x_iload_n X dX0_become_9 rfl (lv_at hl 2 rfl) ?_
    refine n_if_ne X 32 dX0_become_10 (by decide) (by decide) (fun c10 => ?_) (fun c10 => by exact absurd c10 (by decide))
    refine x_iload_n X dX0_become_32 rfl (lv_at hl 2 rfl) ?_
    refine x_iconst (v := nI 1) X dX0_become_33 (by decide) ?_
    refine n_icmp_ne X 56 dX0_become_34 (by decide) (by decide) (by decide) (fun c34 => ?_) (fun c34 => by exact absurd c34 (by decide))
    refine x_iload_n X dX0_become_56 rfl (lv_at hl 2 rfl) ?_
    refine x_iconst (v := nI 2) X dX0_become_57 (by decide) ?_
    refine n_icmp_ne X 77 dX0_become_58 (by decide) (by decide) (by decide) (fun c58 => by exact absurd c58 (by decide)) (fun c58 => ?_)
    refine x_iload_n X dX0_become_61 rfl (lv_at hl 1 rfl) ?_
    refine x_aload_n X dX0_become_62 rfl (lv_at hl 0 rfl) ?_
    refine x_get X hW (v := .ref (ca 4)) hi0 0 rfl rfl 4 (by decide) (List.mem_of_getElem? (i := 3) rfl) rfl rfl dX0_become_63 ?_
    refine n_alen X hW (f := fun i => nI (cF 4 i)) 3 0 rfl rfl dX0_become_66 ?_
    refine n_icmp_ge X 77 dX0_become_67 (by decide) (by omega) (by decide) (fun c67 => by omega) (fun c67 => ?_)
    refine x_aload_n X dX0_become_70 rfl (lv_at hl 0 rfl) ?_
    refine x_get X hW (v := .ref (ca 4)) hi0 0 rfl rfl 4 (by decide) (List.mem_of_getElem? (i := 3) rfl) rfl rfl dX0_become_71 ?_
    refine x_iload_n X dX0_become_74 rfl (lv_at hl 1 rfl) ?_
    refine x_iload_n X dX0_become_75 rfl (lv_at hl 3 rfl) ?_
    refine n_iast X hW (f := cF 4) 3 0 rfl rfl (by omega) (by decide) dX0_become_76 (wC cI cZ cq ca cg (sF cF 4 (sF (cF 4) j v))) rfl (fun H locs hW => ?_)
    exact x_vret X hW rfl () (trivial) rfl dX0_become_77
  · subst w2
    exact absurd ((inR_nI (by omega)).mpr (by omega)) h2
set_option maxHeartbeats 4000000 in
set_option maxRecDepth 100000 in
theorem c_X0_takeOver (l : Launch) (D : va_G) (cI cZ cO : ClassId) (cq : Nat) (ca : Nat → Nat) (cg : Nat → Nat) (cF : Nat → Nat → Nat) (oq : Nat) (oa : Nat → Nat) (og : Nat → Nat) (oF : Nat → Nat → Nat) (sz : Nat)   (hn : og 0 ≤ 4) : Met l yX0_takeOver wsX0_takeOver ({ frames := 2, cells := 0, slots := 0, locals := 44 }) (va_Pc [.ref cq, .ref oq] (st_W D (ty3 cI cZ cO) (wC cI cZ cq ca cg cF ++ (wC cI cZ oq oa og oF)) sz)) (va_Qv (fun (u : Unit) => True) (fun u t => at_W D (ty3 cI cZ cO) (va_A (wC cI cZ cq ca cg cF ++ (wC cI cZ oq oa og oF)) sz) (wC cI cZ cq ca (sF (sF cg 0 (og 0)) 1 (og 1)) (sF (sF (sF cF 2 (cpN (og 0) (oF 2) (cF 2))) 3 (cpN (og 0) (oF 3) (cF 3))) 4 (cpN (og 0) (oF 4) (cF 4))) ++ (wC cI cZ oq oa og oF)) t) (va_A (wC cI cZ cq ca cg cF ++ (wC cI cZ oq oa og oF)) sz)) 0 0 (va_A (wC cI cZ cq ca cg cF ++ (wC cI cZ oq oa og oF)) sz) := by
  refine Met.gov (cc := cX0_takeOver) (maxL := 3) (ret := none) (by decide) rfl (Nat.le_of_ble_eq_true rfl) (fun p e s m below meth c A ls X hW hl => ?_)
  have hi0 : ∀ w ∈ wsX00, w ∈ wsX0_takeOver := fun w h => List.mem_cons_of_mem _ (List.mem_append_right _ h)
  have hl : lv_has ls 3 [(0, .ref cq), (1, .ref oq)] := hl
  refine x_aload_n X dX0_takeOver_0 rfl (lv_at hl 0 rfl) ?_
  refine x_aload_n X dX0_takeOver_1 rfl (lv_at hl 1 rfl) ?_
  refine x_get X hW (v := .int (nI (og 0))) hi0 4 rfl rfl 0 (by decide) (List.mem_of_getElem? (i := 1) rfl) rfl rfl dX0_takeOver_2 ?_
  refine x_put X hW (v := .int (nI (og 0))) hi0 tyX0 tyX0_ok nmX0 0 rfl rfl 0 (by decide) (List.mem_of_getElem? (i := 1) rfl) rfl rfl rfl rfl (Nat.le_of_ble_eq_true rfl) dX0_takeOver_5 (wC cI cZ cq ca (sF cg 0 (og 0)) cF ++ (wC cI cZ oq oa og oF)) rfl (fun H locs hW => ?_)
  refine x_aload_n X dX0_takeOver_8 rfl (lv_at hl 0 rfl) ?_
  refine x_aload_n X dX0_takeOver_9 rfl (lv_at hl 1 rfl) ?_
  refine x_get X hW (v := .int (nI (og 1))) hi0 4 rfl rfl 1 (by decide) (List.mem_of_getElem? (i := 2) rfl) rfl rfl dX0_takeOver_10 ?_
  refine x_put X hW (v := .int (nI (og 1))) hi0 tyX0 tyX0_ok nmX0 0 rfl rfl 1 (by decide) (List.mem_of_getElem? (i := 2) rfl) rfl rfl rfl rfl (Nat.le_of_ble_eq_true rfl) dX0_takeOver_13 (wC cI cZ cq ca (sF (sF cg 0 (og 0)) 1 (og 1)) cF ++ (wC cI cZ oq oa og oF)) rfl (fun H locs hW => ?_)
  refine x_iconst (v := nI 0) X dX0_takeOver_16 (by decide) ?_
  refine x_istore_n X [(2, .int (nI 0)), (0, .ref cq), (1, .ref oq)] dX0_takeOver_17 rfl hl (by decide) rfl (fun ls hl => ?_)
  refine W.loop (σ := (Nat)) (fun u H locs ls => (u ≤ og 0) ∧ Wd D A s.heap H locs (wC cI cZ cq ca (sF (sF cg 0 (og 0)) 1 (og 1)) (sF (sF (sF cF 2 (cpN u (oF 2) (cF 2))) 3 (cpN u (oF 3) (cF 3))) 4 (cpN u (oF 4) (cF 4))) ++ (wC cI cZ oq oa og oF)) ∧ lv_has ls 3 [(2, .int (nI u)), (0, .ref cq), (1, .ref oq)]) (fun u => og 0 - u) (fun u H locs ls hI ih => ?_) 0 ⟨(show 0 ≤ og 0 from (by omega)), (hW.eq (Eq.trans (Eq.trans (congrArg (fun z => (wC cI cZ cq ca (sF (sF cg 0 (og 0)) 1 (og 1)) (sF cF 2 z) ++ (wC cI cZ oq oa og oF))) (show (cF 2) = (cpN 0 (oF 2) (cF 2)) from by first | rw [cpN_s] | rw [cpN_0])) (congrArg (fun z => (wC cI cZ cq ca (sF (sF cg 0 (og 0)) 1 (og 1)) (sF (sF cF 2 (cpN 0 (oF 2) (cF 2))) 3 z) ++ (wC cI cZ oq oa og oF))) (show (cF 3) = (cpN 0 (oF 3) (cF 3)) from by first | rw [cpN_s] | rw [cpN_0]))) (congrArg (fun z => (wC cI cZ cq ca (sF (sF cg 0 (og 0)) 1 (og 1)) (sF (sF (sF cF 2 (cpN 0 (oF 2) (cF 2))) 3 (cpN 0 (oF 3) (cF 3))) 4 z) ++ (wC cI cZ oq oa og oF))) (show (cF 4) = (cpN 0 (oF 4) (cF 4)) from by first | rw [cpN_s] | rw [cpN_0])))), hl⟩
  obtain ⟨i, ie⟩ : ∃ z, z = u := ⟨_, rfl⟩
  subst ie
  obtain ⟨hv, hW, hl⟩ := hI
  have hv : i ≤ og 0 := hv
  have hW : Wd D A s.heap H locs (wC cI cZ cq ca (sF (sF cg 0 (og 0)) 1 (og 1)) (sF (sF (sF cF 2 (cpN i (oF 2) (cF 2))) 3 (cpN i (oF 3) (cF 3))) 4 (cpN i (oF 4) (cF 4))) ++ (wC cI cZ oq oa og oF)) := hW
  have hl : lv_has ls 3 [(2, .int (nI i)), (0, .ref cq), (1, .ref oq)] := hl
  have ih18 := ih
  refine x_iload_n X dX0_takeOver_18 rfl (lv_at hl 0 rfl) ?_
  refine x_aload_n X dX0_takeOver_19 rfl (lv_at hl 1 rfl) ?_
  refine x_get X hW (v := .int (nI (og 0))) hi0 0 rfl rfl 0 (by decide) (List.mem_of_getElem? (i := 1) rfl) rfl rfl dX0_takeOver_20 ?_
  refine n_icmp_ge X 65 dX0_takeOver_23 (by decide) (by omega) (by omega) (fun c23 => ?_) (fun c23 => ?_)
  · exact x_vret X hW rfl () (trivial) (Eq.trans (Eq.trans (congrArg (fun z => (wC cI cZ cq ca (sF (sF cg 0 (og 0)) 1 (og 1)) (sF (sF (sF cF 2 z) 3 (cpN i (oF 3) (cF 3))) 4 (cpN i (oF 4) (cF 4))) ++ (wC cI cZ oq oa og oF))) (show (cpN i (oF 2) (cF 2)) = (cpN (og 0) (oF 2) (cF 2)) from by rw [show i = og 0 by omega])) (congrArg (fun z => (wC cI cZ cq ca (sF (sF cg 0 (og 0)) 1 (og 1)) (sF (sF (sF cF 2 (cpN (og 0) (oF 2) (cF 2))) 3 z) 4 (cpN i (oF 4) (cF 4))) ++ (wC cI cZ oq oa og oF))) (show (cpN i (oF 3) (cF 3)) = (cpN (og 0) (oF 3) (cF 3)) from by rw [show i = og 0 by omega]))) (congrArg (fun z => (wC cI cZ cq ca (sF (sF cg 0 (og 0)) 1 (og 1)) (sF (sF (sF cF 2 (cpN (og 0) (oF 2) (cF 2))) 3 (cpN (og 0) (oF 3) (cF 3))) 4 z) ++ (wC cI cZ oq oa og oF))) (show (cpN i (oF 4) (cF 4)) = (cpN (og 0) (oF 4) (cF 4)) from by rw [show i = og 0 by omega]))) dX0_takeOver_65
  · refine x_aload_n X dX0_takeOver_26 rfl (lv_at hl 1 rfl) ?_
    refine x_iload_n X dX0_takeOver_27 rfl (lv_at hl 0 rfl) ?_
    refine x_iconst (v := nI 0) X dX0_takeOver_28 (by decide) ?_
    refine x_aload_n X dX0_takeOver_29 rfl (lv_at hl 2 rfl) ?_
    refine x_iload_n X dX0_takeOver_30 rfl (lv_at hl 0 rfl) ?_
    refine x_callVi X hW (As := [.int (nI i)]) (rest := [.int (nI 0), .int (nI i), .ref cq]) (wz := fun u => (wC cI cZ cq ca (sF (sF cg 0 (og 0)) 1 (og 1)) (sF (sF (sF cF 2 (cpN i (oF 2) (cF 2))) 3 (cpN i (oF 3) (cF 3))) 4 (cpN i (oF 4) (cF 4))) ++ (wC cI cZ oq oa og oF))) (c_X0_kindOf l D cI cZ cO oq oa og oF _ i (show i < (og 0) from (by first | assumption | omega)) (show (og 0) ≤ 4 from (by first | assumption | omega))) (cwV 1 X.2.2.2.2.2.1 gX0_takeOver_X0_kindOf rfl rfl rfl (by decide +kernel) ⟨Nat.le_of_ble_eq_true rfl, Nat.le_of_ble_eq_true rfl⟩) 4 0 rfl rfl rfl [4, 5, 6, 7] [0, 1, 2, 3] [0, 1, 2, 3, 4, 5, 6, 7] rfl rfl (by decide) (fun _ => rfl) rfl hl.1 rfl (Nat.le_of_ble_eq_true rfl) ⟨Nat.le_of_ble_eq_true rfl, Nat.le_of_ble_eq_true rfl⟩ dX0_takeOver_31 (fun r1 u2 H locs w31 hW => ?_)
    have hW : Wd D A s.heap H locs (wC cI cZ cq ca (sF (sF cg 0 (og 0)) 1 (og 1)) (sF (sF (sF cF 2 (cpN i (oF 2) (cF 2))) 3 (cpN i (oF 3) (cF 3))) 4 (cpN i (oF 4) (cF 4))) ++ (wC cI cZ oq oa og oF)) := hW
    replace w31 : r1 = nI ((oF 2) i) := w31
    subst w31
    refine x_callVv X hW (As := [.int (nI i), .int (nI 0), .int (nI ((oF 2) i))]) (rest := []) (wz := fun u => (wC cI cZ cq ca (sF (sF cg 0 (og 0)) 1 (og 1)) (sF (sF (sF cF 2 (sF ((cpN i (oF 2) (cF 2))) i ((oF 2) i))) 3 (cpN i (oF 3) (cF 3))) 4 (cpN i (oF 4) (cF 4))) ++ (wC cI cZ oq oa og oF))) (c_X0_become0 l D cI cZ cO cq ca (sF (sF cg 0 (og 0)) 1 (og 1)) (sF (sF (sF cF 2 (cpN i (oF 2) (cF 2))) 3 (cpN i (oF 3) (cF 3))) 4 (cpN i (oF 4) (cF 4))) _ i ((oF 2) i) (show i < (og 0) from (by first | assumption | omega)) (show (og 0) ≤ 4 from (by first | assumption | omega))) (cwV 3 X.2.2.2.2.2.1 gX0_takeOver_X0_become rfl rfl rfl (by decide +kernel) ⟨Nat.le_of_ble_eq_true rfl, Nat.le_of_ble_eq_true rfl⟩) 0 0 rfl rfl rfl [0, 1, 2, 3] [4, 5, 6, 7] [4, 5, 6, 7, 0, 1, 2, 3] rfl rfl (by decide) (fun _ => rfl) rfl hl.1 rfl (Nat.le_of_ble_eq_true rfl) ⟨Nat.le_of_ble_eq_true rfl, Nat.le_of_ble_eq_true rfl⟩ dX0_takeOver_34 (fun u4 H locs w34 hW => ?_)
    have hW : Wd D A s.heap H locs (wC cI cZ cq ca (sF (sF cg 0 (og 0)) 1 (og 1)) (sF (sF (sF cF 2 (sF ((cpN i (oF 2) (cF 2))) i ((oF 2) i))) 3 (cpN i (oF 3) (cF 3))) 4 (cpN i (oF 4) (cF 4))) ++ (wC cI cZ oq oa og oF)) := hW
    replace w34 : True := w34
    refine x_aload_n X dX0_takeOver_37 rfl (lv_at hl 1 rfl) ?_
    refine x_iload_n X dX0_takeOver_38 rfl (lv_at hl 0 rfl) ?_
    refine x_iconst (v := nI 1) X dX0_takeOver_39 (by decide) ?_
    refine x_aload_n X dX0_takeOver_40 rfl (lv_at hl 2 rfl) ?_
    refine x_iload_n X dX0_takeOver_41 rfl (lv_at hl 0 rfl) ?_
    refine x_callVi X hW (As := [.int (nI i)]) (rest := [.int (nI 1), .int (nI i), .ref cq]) (wz := fun u => (wC cI cZ cq ca (sF (sF cg 0 (og 0)) 1 (og 1)) (sF (sF (sF cF 2 (sF ((cpN i (oF 2) (cF 2))) i ((oF 2) i))) 3 (cpN i (oF 3) (cF 3))) 4 (cpN i (oF 4) (cF 4))) ++ (wC cI cZ oq oa og oF))) (c_X0_levelOf l D cI cZ cO oq oa og oF _ i (show i < (og 0) from (by first | assumption | omega)) (show (og 0) ≤ 4 from (by first | assumption | omega))) (cwV 1 X.2.2.2.2.2.1 gX0_takeOver_X0_levelOf rfl rfl rfl (by decide +kernel) ⟨Nat.le_of_ble_eq_true rfl, Nat.le_of_ble_eq_true rfl⟩) 4 0 rfl rfl rfl [4, 5, 6, 7] [0, 1, 2, 3] [0, 1, 2, 3, 4, 5, 6, 7] rfl rfl (by decide) (fun _ => rfl) rfl hl.1 rfl (Nat.le_of_ble_eq_true rfl) ⟨Nat.le_of_ble_eq_true rfl, Nat.le_of_ble_eq_true rfl⟩ dX0_takeOver_42 (fun r5 u6 H locs w42 hW => ?_)
    have hW : Wd D A s.heap H locs (wC cI cZ cq ca (sF (sF cg 0 (og 0)) 1 (og 1)) (sF (sF (sF cF 2 (sF ((cpN i (oF 2) (cF 2))) i ((oF 2) i))) 3 (cpN i (oF 3) (cF 3))) 4 (cpN i (oF 4) (cF 4))) ++ (wC cI cZ oq oa og oF)) := hW
    replace w42 : r5 = nI ((oF 3) i) := w42
    subst w42
    refine x_callVv X hW (As := [.int (nI i), .int (nI 1), .int (nI ((oF 3) i))]) (rest := []) (wz := fun u => (wC cI cZ cq ca (sF (sF cg 0 (og 0)) 1 (og 1)) (sF (sF (sF cF 2 (sF ((cpN i (oF 2) (cF 2))) i ((oF 2) i))) 3 (sF ((cpN i (oF 3) (cF 3))) i ((oF 3) i))) 4 (cpN i (oF 4) (cF 4))) ++ (wC cI cZ oq oa og oF))) (c_X0_become1 l D cI cZ cO cq ca (sF (sF cg 0 (og 0)) 1 (og 1)) (sF (sF (sF cF 2 (sF ((cpN i (oF 2) (cF 2))) i ((oF 2) i))) 3 (cpN i (oF 3) (cF 3))) 4 (cpN i (oF 4) (cF 4))) _ i ((oF 3) i) (show i < (og 0) from (by first | assumption | omega)) (show (og 0) ≤ 4 from (by first | assumption | omega))) (cwV 3 X.2.2.2.2.2.1 gX0_takeOver_X0_become rfl rfl rfl (by decide +kernel) ⟨Nat.le_of_ble_eq_true rfl, Nat.le_of_ble_eq_true rfl⟩) 0 0 rfl rfl rfl [0, 1, 2, 3] [4, 5, 6, 7] [4, 5, 6, 7, 0, 1, 2, 3] rfl rfl (by decide) (fun _ => rfl) rfl hl.1 rfl (Nat.le_of_ble_eq_true rfl) ⟨Nat.le_of_ble_eq_true rfl, Nat.le_of_ble_eq_true rfl⟩ dX0_takeOver_45 (fun u8 H locs w45 hW => ?_)
    have hW : Wd D A s.heap H locs (wC cI cZ cq ca (sF (sF cg 0 (og 0)) 1 (og 1)) (sF (sF (sF cF 2 (sF ((cpN i (oF 2) (cF 2))) i ((oF 2) i))) 3 (sF ((cpN i (oF 3) (cF 3))) i ((oF 3) i))) 4 (cpN i (oF 4) (cF 4))) ++ (wC cI cZ oq oa og oF)) := hW
    replace w45 : True := w45
    refine x_aload_n X dX0_takeOver_48 rfl (lv_at hl 1 rfl) ?_
    refine x_iload_n X dX0_takeOver_49 rfl (lv_at hl 0 rfl) ?_
    refine x_iconst (v := nI 2) X dX0_takeOver_50 (by decide) ?_
    refine x_aload_n X dX0_takeOver_51 rfl (lv_at hl 2 rfl) ?_
    refine x_iload_n X dX0_takeOver_52 rfl (lv_at hl 0 rfl) ?_
    refine x_callVi X hW (As := [.int (nI i)]) (rest := [.int (nI 2), .int (nI i), .ref cq]) (wz := fun u => (wC cI cZ cq ca (sF (sF cg 0 (og 0)) 1 (og 1)) (sF (sF (sF cF 2 (sF ((cpN i (oF 2) (cF 2))) i ((oF 2) i))) 3 (sF ((cpN i (oF 3) (cF 3))) i ((oF 3) i))) 4 (cpN i (oF 4) (cF 4))) ++ (wC cI cZ oq oa og oF))) (c_X0_limitOf l D cI cZ cO oq oa og oF _ i (show i < (og 0) from (by first | assumption | omega)) (show (og 0) ≤ 4 from (by first | assumption | omega))) (cwV 1 X.2.2.2.2.2.1 gX0_takeOver_X0_limitOf rfl rfl rfl (by decide +kernel) ⟨Nat.le_of_ble_eq_true rfl, Nat.le_of_ble_eq_true rfl⟩) 4 0 rfl rfl rfl [4, 5, 6, 7] [0, 1, 2, 3] [0, 1, 2, 3, 4, 5, 6, 7] rfl rfl (by decide) (fun _ => rfl) rfl hl.1 rfl (Nat.le_of_ble_eq_true rfl) ⟨Nat.le_of_ble_eq_true rfl, Nat.le_of_ble_eq_true rfl⟩ dX0_takeOver_53 (fun r9 u10 H locs w53 hW => ?_)
    have hW : Wd D A s.heap H locs (wC cI cZ cq ca (sF (sF cg 0 (og 0)) 1 (og 1)) (sF (sF (sF cF 2 (sF ((cpN i (oF 2) (cF 2))) i ((oF 2) i))) 3 (sF ((cpN i (oF 3) (cF 3))) i ((oF 3) i))) 4 (cpN i (oF 4) (cF 4))) ++ (wC cI cZ oq oa og oF)) := hW
    replace w53 : r9 = nI ((oF 4) i) := w53
    subst w53
    refine x_callVv X hW (As := [.int (nI i), .int (nI 2), .int (nI ((oF 4) i))]) (rest := []) (wz := fun u => (wC cI cZ cq ca (sF (sF cg 0 (og 0)) 1 (og 1)) (sF (sF (sF cF 2 (sF ((cpN i (oF 2) (cF 2))) i ((oF 2) i))) 3 (sF ((cpN i (oF 3) (cF 3))) i ((oF 3) i))) 4 (sF ((cpN i (oF 4) (cF 4))) i ((oF 4) i))) ++ (wC cI cZ oq oa og oF))) (c_X0_become2 l D cI cZ cO cq ca (sF (sF cg 0 (og 0)) 1 (og 1)) (sF (sF (sF cF 2 (sF ((cpN i (oF 2) (cF 2))) i ((oF 2) i))) 3 (sF ((cpN i (oF 3) (cF 3))) i ((oF 3) i))) 4 (cpN i (oF 4) (cF 4))) _ i ((oF 4) i) (show i < (og 0) from (by first | assumption | omega)) (show (og 0) ≤ 4 from (by first | assumption | omega))) (cwV 3 X.2.2.2.2.2.1 gX0_takeOver_X0_become rfl rfl rfl (by decide +kernel) ⟨Nat.le_of_ble_eq_true rfl, Nat.le_of_ble_eq_true rfl⟩) 0 0 rfl rfl rfl [0, 1, 2, 3] [4, 5, 6, 7] [4, 5, 6, 7, 0, 1, 2, 3] rfl rfl (by decide) (fun _ => rfl) rfl hl.1 rfl (Nat.le_of_ble_eq_true rfl) ⟨Nat.le_of_ble_eq_true rfl, Nat.le_of_ble_eq_true rfl⟩ dX0_takeOver_56 (fun u12 H locs w56 hW => ?_)
    have hW : Wd D A s.heap H locs (wC cI cZ cq ca (sF (sF cg 0 (og 0)) 1 (og 1)) (sF (sF (sF cF 2 (sF ((cpN i (oF 2) (cF 2))) i ((oF 2) i))) 3 (sF ((cpN i (oF 3) (cF 3))) i ((oF 3) i))) 4 (sF ((cpN i (oF 4) (cF 4))) i ((oF 4) i))) ++ (wC cI cZ oq oa og oF)) := hW
    replace w56 : True := w56
    refine x_iinc X [(2, .int (nI (i + 1))), (0, .ref cq), (1, .ref oq)] (k := 0) dX0_takeOver_59 hl rfl (nI_inc1 i) (by decide) rfl (fun ls hl => ?_)
    refine x_goto X 18 dX0_takeOver_62 (by decide) ?_
    exact ih18 (i + 1) _ _ _ ⟨(show (i + 1) ≤ og 0 from (by omega)), (hW.eq (Eq.trans (Eq.trans (congrArg (fun z => (wC cI cZ cq ca (sF (sF cg 0 (og 0)) 1 (og 1)) (sF (sF (sF cF 2 z) 3 (sF ((cpN i (oF 3) (cF 3))) i ((oF 3) i))) 4 (sF ((cpN i (oF 4) (cF 4))) i ((oF 4) i))) ++ (wC cI cZ oq oa og oF))) (show (sF ((cpN i (oF 2) (cF 2))) i ((oF 2) i)) = (cpN (i + 1) (oF 2) (cF 2)) from by first | rw [cpN_s] | rw [cpN_0])) (congrArg (fun z => (wC cI cZ cq ca (sF (sF cg 0 (og 0)) 1 (og 1)) (sF (sF (sF cF 2 (cpN (i + 1) (oF 2) (cF 2))) 3 z) 4 (sF ((cpN i (oF 4) (cF 4))) i ((oF 4) i))) ++ (wC cI cZ oq oa og oF))) (show (sF ((cpN i (oF 3) (cF 3))) i ((oF 3) i)) = (cpN (i + 1) (oF 3) (cF 3)) from by first | rw [cpN_s] | rw [cpN_0]))) (congrArg (fun z => (wC cI cZ cq ca (sF (sF cg 0 (og 0)) 1 (og 1)) (sF (sF (sF cF 2 (cpN (i + 1) (oF 2) (cF 2))) 3 (cpN (i + 1) (oF 3) (cF 3))) 4 z) ++ (wC cI cZ oq oa og oF))) (show (sF ((cpN i (oF 4) (cF 4))) i ((oF 4) i)) = (cpN (i + 1) (oF 4) (cF 4)) from by first | rw [cpN_s] | rw [cpN_0])))), lv_sub hl [0, 1, 2] rfl⟩ (by omega)
set_option maxHeartbeats 4000000 in
set_option maxRecDepth 100000 in
theorem c_X0_mayBeOpened (l : Launch) (D : va_G) (cI cZ cO : ClassId) (cq : Nat) (ca : Nat → Nat) (cg : Nat → Nat) (cF : Nat → Nat → Nat) (sz : Nat) (j : Nat)  (hj : j + 1 < cg 0) (hn : cg 0 ≤ 4) (hk : ∀ z0, cF 2 z0 ≤ 2) (hlv : ∀ z0, cF 3 z0 ≤ 9) (hm : ∀ z0, cF 4 z0 ≤ 9) : Met l yX0_mayBeOpened wsX0_mayBeOpened ({ frames := 3, cells := 0, slots := 0, locals := 64 }) (va_Pc [.ref cq, .int (nI j)] (st_W D (ty3 cI cZ cO) (wC cI cZ cq ca cg cF) sz)) (va_Qi (fun (rr : Int32) (u : Unit) => (rr = nI 1 ∧ (mayN (cF 2) (cF 3) (cF 4) j) ∨ rr = nI 0 ∧ ¬ (mayN (cF 2) (cF 3) (cF 4) j))) (fun u t => at_W D (ty3 cI cZ cO) (va_A (wC cI cZ cq ca cg cF) sz) (wC cI cZ cq ca cg cF) t) (va_A (wC cI cZ cq ca cg cF) sz)) 0 0 (va_A (wC cI cZ cq ca cg cF) sz) := by
  refine Met.goi (cc := cX0_mayBeOpened) (maxL := 2) (ret := (some .boolean)) (by decide) rfl (Nat.le_of_ble_eq_true rfl) (fun p e s m below meth c A ls X hW hl => ?_)
  have hi0 : ∀ w ∈ wsX00, w ∈ wsX0_mayBeOpened := fun w h => List.mem_cons_of_mem _ (List.mem_append_right _ h)
  have hl : lv_has ls 2 [(0, .ref cq), (1, .int (nI j))] := hl
  have b1 := hlv j
  have b2 := hlv (j + 1)
  have b3 := want_le (cF 2 (j + 1)) (cF 4 (j + 1))
  have b4 := hm (j + 1)
  refine x_aload_n X dX0_mayBeOpened_0 rfl (lv_at hl 0 rfl) ?_
  refine x_iload_n X dX0_mayBeOpened_1 rfl (lv_at hl 1 rfl) ?_
  refine x_callVi0 X hW (As := [.int (nI j)]) (rest := []) (c_X0_hasGate l D cI cZ cO cq ca cg cF _ (nI j) (show (cg 0) ≤ 4 from (by first | assumption | omega))) (cwV 1 X.2.2.2.2.2.1 gX0_mayBeOpened_X0_hasGate rfl rfl rfl (by decide +kernel) ⟨Nat.le_of_ble_eq_true rfl, Nat.le_of_ble_eq_true rfl⟩) 0 0 rfl rfl rfl rfl hl.1 rfl (Nat.le_of_ble_eq_true rfl) ⟨Nat.le_of_ble_eq_true rfl, Nat.le_of_ble_eq_true rfl⟩ dX0_mayBeOpened_2 (fun r1 u2 H locs w2 hW => ?_)
  have hW : Wd D A s.heap H locs (wC cI cZ cq ca cg cF) := hW
  replace w2 : (r1 = nI 1 ∧ (inR (nI j) ((cg 0) - 1)) ∨ r1 = nI 0 ∧ ¬ (inR (nI j) ((cg 0) - 1))) := w2
  rcases w2 with ⟨w2, h2⟩ | ⟨w2, h2⟩
  · subst w2
    refine n_if_eq X 38 dX0_mayBeOpened_5 (by decide) (by decide) (fun c5 => by exact absurd c5 (by decide)) (fun c5 => ?_)
    refine x_aload_n X dX0_mayBeOpened_8 rfl (lv_at hl 0 rfl) ?_
    refine x_iload_n X dX0_mayBeOpened_9 rfl (lv_at hl 1 rfl) ?_
    refine x_callVi0 X hW (As := [.int (nI j)]) (rest := []) (c_X0_levelOf l D cI cZ cO cq ca cg cF _ j (show j < (cg 0) from (by first | assumption | omega)) (show (cg 0) ≤ 4 from (by first | assumption | omega))) (cwV 1 X.2.2.2.2.2.1 gX0_mayBeOpened_X0_levelOf rfl rfl rfl (by decide +kernel) ⟨Nat.le_of_ble_eq_true rfl, Nat.le_of_ble_eq_true rfl⟩) 0 0 rfl rfl rfl rfl hl.1 rfl (Nat.le_of_ble_eq_true rfl) ⟨Nat.le_of_ble_eq_true rfl, Nat.le_of_ble_eq_true rfl⟩ dX0_mayBeOpened_10 (fun r3 u4 H locs w10 hW => ?_)
    have hW : Wd D A s.heap H locs (wC cI cZ cq ca cg cF) := hW
    replace w10 : r3 = nI ((cF 3) j) := w10
    subst w10
    refine x_iconst (v := nI 1) X dX0_mayBeOpened_13 (by decide) ?_
    refine n_icmp_lt X 38 dX0_mayBeOpened_14 (by decide) (by omega) (by decide) (fun c14 => ?_) (fun c14 => ?_)
    · refine x_iconst (v := nI 0) X dX0_mayBeOpened_38 (by decide) ?_
      exact x_zret X hW rfl (Or.inl (by decide)) () (Or.inr ⟨rfl, by unfold mayN; omega⟩) rfl dX0_mayBeOpened_39
    · refine x_aload_n X dX0_mayBeOpened_17 rfl (lv_at hl 0 rfl) ?_
      refine x_iload_n X dX0_mayBeOpened_18 rfl (lv_at hl 1 rfl) ?_
      refine x_iconst (v := nI 1) X dX0_mayBeOpened_19 (by decide) ?_
      refine n_iadd X dX0_mayBeOpened_20 ?_
      refine x_callVi0 X hW (As := [.int (nI (j + 1))]) (rest := []) (c_X0_levelOf l D cI cZ cO cq ca cg cF _ (j + 1) (show (j + 1) < (cg 0) from (by first | assumption | omega)) (show (cg 0) ≤ 4 from (by first | assumption | omega))) (cwV 1 X.2.2.2.2.2.1 gX0_mayBeOpened_X0_levelOf rfl rfl rfl (by decide +kernel) ⟨Nat.le_of_ble_eq_true rfl, Nat.le_of_ble_eq_true rfl⟩) 0 0 rfl rfl rfl rfl hl.1 rfl (Nat.le_of_ble_eq_true rfl) ⟨Nat.le_of_ble_eq_true rfl, Nat.le_of_ble_eq_true rfl⟩ dX0_mayBeOpened_21 (fun r5 u6 H locs w21 hW => ?_)
      have hW : Wd D A s.heap H locs (wC cI cZ cq ca cg cF) := hW
      replace w21 : r5 = nI ((cF 3) (j + 1)) := w21
      subst w21
      refine x_aload_n X dX0_mayBeOpened_24 rfl (lv_at hl 0 rfl) ?_
      refine x_iload_n X dX0_mayBeOpened_25 rfl (lv_at hl 1 rfl) ?_
      refine x_iconst (v := nI 1) X dX0_mayBeOpened_26 (by decide) ?_
      refine n_iadd X dX0_mayBeOpened_27 ?_
      refine x_callVi0 X hW (As := [.int (nI (j + 1))]) (rest := [.int (nI ((cF 3) (j + 1)))]) (c_X0_wantOf l D cI cZ cO cq ca cg cF _ (j + 1) (show (j + 1) < (cg 0) from (by first | assumption | omega)) (show (cg 0) ≤ 4 from (by first | assumption | omega)) (show ∀ z0, (cF 2) z0 ≤ 2 from (by first | assumption | omega)) (show ∀ z0, (cF 4) z0 ≤ 9 from (by first | assumption | omega))) (cwV 1 X.2.2.2.2.2.1 gX0_mayBeOpened_X0_wantOf rfl rfl rfl (by decide +kernel) ⟨Nat.le_of_ble_eq_true rfl, Nat.le_of_ble_eq_true rfl⟩) 0 0 rfl rfl rfl rfl hl.1 rfl (Nat.le_of_ble_eq_true rfl) ⟨Nat.le_of_ble_eq_true rfl, Nat.le_of_ble_eq_true rfl⟩ dX0_mayBeOpened_28 (fun r7 u8 H locs w28 hW => ?_)
      have hW : Wd D A s.heap H locs (wC cI cZ cq ca cg cF) := hW
      replace w28 : r7 = nI (want ((cF 2) (j + 1)) ((cF 4) (j + 1))) := w28
      subst w28
      refine n_icmp_ge X 38 dX0_mayBeOpened_31 (by decide) (by omega) (by omega) (fun c31 => ?_) (fun c31 => ?_)
      · refine x_iconst (v := nI 0) X dX0_mayBeOpened_38 (by decide) ?_
        exact x_zret X hW rfl (Or.inl (by decide)) () (Or.inr ⟨rfl, by unfold mayN; omega⟩) rfl dX0_mayBeOpened_39
      · refine x_iconst (v := nI 1) X dX0_mayBeOpened_34 (by decide) ?_
        refine x_goto X 39 dX0_mayBeOpened_35 (by decide) ?_
        exact x_zret X hW rfl (Or.inr (by decide)) () (Or.inl ⟨rfl, by unfold mayN; omega⟩) rfl dX0_mayBeOpened_39
  · subst w2
    exact absurd ((inR_nI (by omega)).mpr (by omega)) h2
set_option maxHeartbeats 4000000 in
set_option maxRecDepth 100000 in
theorem c_X0_gatesThatMayBeOpened (l : Launch) (D : va_G) (cI cZ cO : ClassId) (cq : Nat) (ca : Nat → Nat) (cg : Nat → Nat) (cF : Nat → Nat → Nat) (sz : Nat)   (h1 : 1 ≤ cg 0) (hn : cg 0 ≤ 4) (hk : ∀ z0, cF 2 z0 ≤ 2) (hlv : ∀ z0, cF 3 z0 ≤ 9) (hm : ∀ z0, cF 4 z0 ≤ 9) : Met l yX0_gatesThatMayBeOpened wsX0_gatesThatMayBeOpened ({ frames := 4, cells := 0, slots := 0, locals := 85 }) (va_Pc [.ref cq] (st_W D (ty3 cI cZ cO) (wC cI cZ cq ca cg cF) sz)) (va_Qi (fun (rr : Int32) (u : Unit) => rr = setI (mayN (cF 2) (cF 3) (cF 4)) (cg 0 - 1)) (fun u t => at_W D (ty3 cI cZ cO) (va_A (wC cI cZ cq ca cg cF) sz) (wC cI cZ cq ca cg cF) t) (va_A (wC cI cZ cq ca cg cF) sz)) 0 0 (va_A (wC cI cZ cq ca cg cF) sz) := by
  refine Met.goi (cc := cX0_gatesThatMayBeOpened) (maxL := 3) (ret := (some .int)) (by decide) rfl (Nat.le_of_ble_eq_true rfl) (fun p e s m below meth c A ls X hW hl => ?_)
  have hi0 : ∀ w ∈ wsX00, w ∈ wsX0_gatesThatMayBeOpened := fun w h => List.mem_cons_of_mem _ (List.mem_append_right _ h)
  have hl : lv_has ls 3 [(0, .ref cq)] := hl
  refine x_iconst (v := nI 0) X dX0_gatesThatMayBeOpened_0 (by decide) ?_
  refine x_istore_n X [(1, .int (nI 0)), (0, .ref cq)] dX0_gatesThatMayBeOpened_1 rfl hl (by decide) rfl (fun ls hl => ?_)
  refine x_iconst (v := nI 0) X dX0_gatesThatMayBeOpened_2 (by decide) ?_
  refine x_istore_n X [(2, .int (nI 0)), (1, .int (nI 0)), (0, .ref cq)] dX0_gatesThatMayBeOpened_3 rfl hl (by decide) rfl (fun ls hl => ?_)
  refine W.loop (σ := (Nat)) (fun u H locs ls => (u ≤ cg 0 - 1) ∧ Wd D A s.heap H locs (wC cI cZ cq ca cg cF) ∧ lv_has ls 3 [(2, .int (nI u)), (1, .int (setI (mayN (cF 2) (cF 3) (cF 4)) u)), (0, .ref cq)]) (fun u => cg 0 - u) (fun u H locs ls hI ih => ?_) 0 ⟨(show 0 ≤ cg 0 - 1 from (by omega)), hW, hl⟩
  obtain ⟨i, ie⟩ : ∃ z, z = u := ⟨_, rfl⟩
  subst ie
  obtain ⟨hv, hW, hl⟩ := hI
  have hv : i ≤ cg 0 - 1 := hv
  have hW : Wd D A s.heap H locs (wC cI cZ cq ca cg cF) := hW
  have hl : lv_has ls 3 [(2, .int (nI i)), (1, .int (setI (mayN (cF 2) (cF 3) (cF 4)) i)), (0, .ref cq)] := hl
  have ih4 := ih
  refine x_iload_n X dX0_gatesThatMayBeOpened_4 rfl (lv_at hl 0 rfl) ?_
  refine x_aload_n X dX0_gatesThatMayBeOpened_5 rfl (lv_at hl 2 rfl) ?_
  refine x_callVi0 X hW (As := []) (rest := [.int (nI i)]) (c_X0_lastReach l D cI cZ cO cq ca cg cF _ (show (cg 0) ≤ 4 from (by first | assumption | omega)) (show 1 ≤ (cg 0) from (by first | assumption | omega))) (cwV 0 X.2.2.2.2.2.1 gX0_gatesThatMayBeOpened_X0_lastReach rfl rfl rfl (by decide +kernel) ⟨Nat.le_of_ble_eq_true rfl, Nat.le_of_ble_eq_true rfl⟩) 0 0 rfl rfl rfl rfl hl.1 rfl (Nat.le_of_ble_eq_true rfl) ⟨Nat.le_of_ble_eq_true rfl, Nat.le_of_ble_eq_true rfl⟩ dX0_gatesThatMayBeOpened_6 (fun r1 u2 H locs w6 hW => ?_)
  have hW : Wd D A s.heap H locs (wC cI cZ cq ca cg cF) := hW
  replace w6 : r1 = nI ((cg 0) - 1) := w6
  subst w6
  refine n_icmp_ge X 32 dX0_gatesThatMayBeOpened_9 (by decide) (by omega) (by omega) (fun c9 => ?_) (fun c9 => ?_)
  · refine x_iload_n X dX0_gatesThatMayBeOpened_32 rfl (lv_at hl 1 rfl) ?_
    exact x_iret X hW rfl () ((by rw [show i = cg 0 - 1 by omega])) rfl dX0_gatesThatMayBeOpened_33
  · refine x_aload_n X dX0_gatesThatMayBeOpened_12 rfl (lv_at hl 2 rfl) ?_
    refine x_iload_n X dX0_gatesThatMayBeOpened_13 rfl (lv_at hl 0 rfl) ?_
    refine x_callVi0 X hW (As := [.int (nI i)]) (rest := []) (c_X0_mayBeOpened l D cI cZ cO cq ca cg cF _ i (show i + 1 < (cg 0) from (by first | assumption | omega)) (show (cg 0) ≤ 4 from (by first | assumption | omega)) (show ∀ z0, (cF 2) z0 ≤ 2 from (by first | assumption | omega)) (show ∀ z0, (cF 3) z0 ≤ 9 from (by first | assumption | omega)) (show ∀ z0, (cF 4) z0 ≤ 9 from (by first | assumption | omega))) (cwV 1 X.2.2.2.2.2.1 gX0_gatesThatMayBeOpened_X0_mayBeOpened rfl rfl rfl (by decide +kernel) ⟨Nat.le_of_ble_eq_true rfl, Nat.le_of_ble_eq_true rfl⟩) 0 0 rfl rfl rfl rfl hl.1 rfl (Nat.le_of_ble_eq_true rfl) ⟨Nat.le_of_ble_eq_true rfl, Nat.le_of_ble_eq_true rfl⟩ dX0_gatesThatMayBeOpened_14 (fun r3 u4 H locs w14 hW => ?_)
    have hW : Wd D A s.heap H locs (wC cI cZ cq ca cg cF) := hW
    replace w14 : (r3 = nI 1 ∧ (mayN ((cF 2)) ((cF 3)) ((cF 4)) i) ∨ r3 = nI 0 ∧ ¬ (mayN ((cF 2)) ((cF 3)) ((cF 4)) i)) := w14
    rcases w14 with ⟨w14, h14⟩ | ⟨w14, h14⟩
    · subst w14
      refine n_if_eq X 26 dX0_gatesThatMayBeOpened_17 (by decide) (by decide) (fun c17 => by exact absurd c17 (by decide)) (fun c17 => ?_)
      refine x_iload_n X dX0_gatesThatMayBeOpened_20 rfl (lv_at hl 1 rfl) ?_
      refine x_iconst (v := nI 1) X dX0_gatesThatMayBeOpened_21 (by decide) ?_
      refine x_iload_n X dX0_gatesThatMayBeOpened_22 rfl (lv_at hl 0 rfl) ?_
      refine x_ishl (v := (nI 1) <<< ((nI i) &&& 31)) X dX0_gatesThatMayBeOpened_23 rfl ?_
      refine x_ior (v := (setI (mayN (cF 2) (cF 3) (cF 4)) i) ||| ((nI 1) <<< ((nI i) &&& 31))) X dX0_gatesThatMayBeOpened_24 rfl ?_
      refine i_as0 (b := setI (mayN (cF 2) (cF 3) (cF 4)) (i + 1)) (setI_y h14).symm ?_
      refine x_istore_n X [(1, .int (setI (mayN (cF 2) (cF 3) (cF 4)) (i + 1))), (2, .int (nI i)), (0, .ref cq)] dX0_gatesThatMayBeOpened_25 rfl hl (by decide) rfl (fun ls hl => ?_)
      refine x_iinc X [(2, .int (nI (i + 1))), (1, .int (setI (mayN (cF 2) (cF 3) (cF 4)) (i + 1))), (0, .ref cq)] (k := 1) dX0_gatesThatMayBeOpened_26 hl rfl (nI_inc1 i) (by decide) rfl (fun ls hl => ?_)
      refine x_goto X 4 dX0_gatesThatMayBeOpened_29 (by decide) ?_
      exact ih4 (i + 1) _ _ _ ⟨(show (i + 1) ≤ cg 0 - 1 from (by omega)), hW, lv_sub hl [0, 1, 2] rfl⟩ (by omega)
    · subst w14
      refine n_if_eq X 26 dX0_gatesThatMayBeOpened_17 (by decide) (by decide) (fun c17 => ?_) (fun c17 => by exact absurd c17 (by decide))
      have hl : lv_has ls 3 [(2, .int (nI i)), (1, .int (setI (mayN (cF 2) (cF 3) (cF 4)) (i + 1))), (0, .ref cq)] := by rw [setI_n h14]; exact hl
      refine x_iinc X [(2, .int (nI (i + 1))), (1, .int (setI (mayN (cF 2) (cF 3) (cF 4)) (i + 1))), (0, .ref cq)] (k := 0) dX0_gatesThatMayBeOpened_26 hl rfl (nI_inc1 i) (by decide) rfl (fun ls hl => ?_)
      refine x_goto X 4 dX0_gatesThatMayBeOpened_29 (by decide) ?_
      exact ih4 (i + 1) _ _ _ ⟨(show (i + 1) ≤ cg 0 - 1 from (by omega)), hW, lv_sub hl [0, 1, 2] rfl⟩ (by omega)
set_option maxHeartbeats 4000000 in
set_option maxRecDepth 100000 in
theorem c_X0_letThrough (l : Launch) (D : va_G) (cI cZ cO : ClassId) (cq : Nat) (ca : Nat → Nat) (cg : Nat → Nat) (cF : Nat → Nat → Nat) (sz : Nat) (j : Nat)  (hj : j + 1 < cg 0) (hn : cg 0 ≤ 4) (h1 : 1 ≤ cF 3 j) : Met l yX0_letThrough wsX0_letThrough ({ frames := 2, cells := 0, slots := 0, locals := 44 }) (va_Pc [.ref cq, .int (nI j)] (st_W D (ty3 cI cZ cO) (wC cI cZ cq ca cg cF) sz)) (va_Qv (fun (u : Unit) => True) (fun u t => at_W D (ty3 cI cZ cO) (va_A (wC cI cZ cq ca cg cF) sz) (wC cI cZ cq ca cg (sF cF 3 (thru (cF 3) j))) t) (va_A (wC cI cZ cq ca cg cF) sz)) 0 0 (va_A (wC cI cZ cq ca cg cF) sz) := by
  refine Met.gov (cc := cX0_letThrough) (maxL := 2) (ret := none) (by decide) rfl (Nat.le_of_ble_eq_true rfl) (fun p e s m below meth c A ls X hW hl => ?_)
  have hi0 : ∀ w ∈ wsX00, w ∈ wsX0_letThrough := fun w h => List.mem_cons_of_mem _ (List.mem_append_right _ h)
  have hl : lv_has ls 2 [(0, .ref cq), (1, .int (nI j))] := hl
  refine x_aload_n X dX0_letThrough_0 rfl (lv_at hl 0 rfl) ?_
  refine x_iload_n X dX0_letThrough_1 rfl (lv_at hl 1 rfl) ?_
  refine x_iconst (v := nI 1) X dX0_letThrough_2 (by decide) ?_
  refine x_aload_n X dX0_letThrough_3 rfl (lv_at hl 0 rfl) ?_
  refine x_iload_n X dX0_letThrough_4 rfl (lv_at hl 1 rfl) ?_
  refine x_callVi0 X hW (As := [.int (nI j)]) (rest := [.int (nI 1), .int (nI j), .ref cq]) (c_X0_levelOf l D cI cZ cO cq ca cg cF _ j (show j < (cg 0) from (by first | assumption | omega)) (show (cg 0) ≤ 4 from (by first | assumption | omega))) (cwV 1 X.2.2.2.2.2.1 gX0_letThrough_X0_levelOf rfl rfl rfl (by decide +kernel) ⟨Nat.le_of_ble_eq_true rfl, Nat.le_of_ble_eq_true rfl⟩) 0 0 rfl rfl rfl rfl hl.1 rfl (Nat.le_of_ble_eq_true rfl) ⟨Nat.le_of_ble_eq_true rfl, Nat.le_of_ble_eq_true rfl⟩ dX0_letThrough_5 (fun r1 u2 H locs w5 hW => ?_)
  have hW : Wd D A s.heap H locs (wC cI cZ cq ca cg cF) := hW
  replace w5 : r1 = nI ((cF 3) j) := w5
  subst w5
  refine x_iconst (v := nI 1) X dX0_letThrough_8 (by decide) ?_
  refine n_isub X dX0_letThrough_9 (by omega) ?_
  refine x_callVv0 X hW (As := [.int (nI j), .int (nI 1), .int (nI (((cF 3) j) - 1))]) (rest := []) (c_X0_become1 l D cI cZ cO cq ca cg cF _ j (((cF 3) j) - 1) (show j < (cg 0) from (by first | assumption | omega)) (show (cg 0) ≤ 4 from (by first | assumption | omega))) (cwV 3 X.2.2.2.2.2.1 gX0_letThrough_X0_become rfl rfl rfl (by decide +kernel) ⟨Nat.le_of_ble_eq_true rfl, Nat.le_of_ble_eq_true rfl⟩) 0 0 rfl rfl rfl rfl hl.1 rfl (Nat.le_of_ble_eq_true rfl) ⟨Nat.le_of_ble_eq_true rfl, Nat.le_of_ble_eq_true rfl⟩ dX0_letThrough_10 (fun u4 H locs w10 hW => ?_)
  have hW : Wd D A s.heap H locs (wC cI cZ cq ca cg (sF cF 3 (sF ((cF 3)) j (((cF 3) j) - 1)))) := hW
  replace w10 : True := w10
  refine x_aload_n X dX0_letThrough_13 rfl (lv_at hl 0 rfl) ?_
  refine x_iload_n X dX0_letThrough_14 rfl (lv_at hl 1 rfl) ?_
  refine x_iconst (v := nI 1) X dX0_letThrough_15 (by decide) ?_
  refine n_iadd X dX0_letThrough_16 ?_
  refine x_iconst (v := nI 1) X dX0_letThrough_17 (by decide) ?_
  refine x_aload_n X dX0_letThrough_18 rfl (lv_at hl 0 rfl) ?_
  refine x_iload_n X dX0_letThrough_19 rfl (lv_at hl 1 rfl) ?_
  refine x_iconst (v := nI 1) X dX0_letThrough_20 (by decide) ?_
  refine n_iadd X dX0_letThrough_21 ?_
  refine x_callVi0 X hW (As := [.int (nI (j + 1))]) (rest := [.int (nI 1), .int (nI (j + 1)), .ref cq]) (c_X0_levelOf l D cI cZ cO cq ca cg (sF cF 3 (sF ((cF 3)) j (((cF 3) j) - 1))) _ (j + 1) (show (j + 1) < (cg 0) from (by first | assumption | omega)) (show (cg 0) ≤ 4 from (by first | assumption | omega))) (cwV 1 X.2.2.2.2.2.1 gX0_letThrough_X0_levelOf rfl rfl rfl (by decide +kernel) ⟨Nat.le_of_ble_eq_true rfl, Nat.le_of_ble_eq_true rfl⟩) 0 0 rfl rfl rfl rfl hl.1 rfl (Nat.le_of_ble_eq_true rfl) ⟨Nat.le_of_ble_eq_true rfl, Nat.le_of_ble_eq_true rfl⟩ dX0_letThrough_22 (fun r5 u6 H locs w22 hW => ?_)
  have hW : Wd D A s.heap H locs (wC cI cZ cq ca cg (sF cF 3 (sF ((cF 3)) j (((cF 3) j) - 1)))) := hW
  replace w22 : r5 = nI ((sF ((cF 3)) j (((cF 3) j) - 1)) (j + 1)) := w22
  subst w22
  refine n_as0 (b := cF 3 (j + 1)) (sF_n _ _ (by omega)) ?_
  refine x_iconst (v := nI 1) X dX0_letThrough_25 (by decide) ?_
  refine n_iadd X dX0_letThrough_26 ?_
  refine x_callVv0 X hW (As := [.int (nI (j + 1)), .int (nI 1), .int (nI ((cF 3 (j + 1)) + 1))]) (rest := []) (c_X0_become1 l D cI cZ cO cq ca cg (sF cF 3 (sF ((cF 3)) j (((cF 3) j) - 1))) _ (j + 1) ((cF 3 (j + 1)) + 1) (show (j + 1) < (cg 0) from (by first | assumption | omega)) (show (cg 0) ≤ 4 from (by first | assumption | omega))) (cwV 3 X.2.2.2.2.2.1 gX0_letThrough_X0_become rfl rfl rfl (by decide +kernel) ⟨Nat.le_of_ble_eq_true rfl, Nat.le_of_ble_eq_true rfl⟩) 0 0 rfl rfl rfl rfl hl.1 rfl (Nat.le_of_ble_eq_true rfl) ⟨Nat.le_of_ble_eq_true rfl, Nat.le_of_ble_eq_true rfl⟩ dX0_letThrough_27 (fun u8 H locs w27 hW => ?_)
  have hW : Wd D A s.heap H locs (wC cI cZ cq ca cg (sF cF 3 (sF ((sF ((cF 3)) j (((cF 3) j) - 1))) (j + 1) ((cF 3 (j + 1)) + 1)))) := hW
  replace w27 : True := w27
  exact x_vret X hW rfl () (trivial) (congrArg (fun z => (wC cI cZ cq ca cg (sF cF 3 z))) (show (sF ((sF ((cF 3)) j (((cF 3) j) - 1))) (j + 1) ((cF 3 (j + 1)) + 1)) = (thru (cF 3) j) from by first | rfl | omega)) dX0_letThrough_30
set_option maxHeartbeats 4000000 in
set_option maxRecDepth 100000 in
theorem c_X0_passNight (l : Launch) (D : va_G) (cI cZ cO : ClassId) (cq : Nat) (ca : Nat → Nat) (cg : Nat → Nat) (cF : Nat → Nat → Nat) (sz : Nat)   (h2 : 2 ≤ cg 0) (hn : cg 0 ≤ 4) (hlv : ∀ z0, cF 3 z0 ≤ 9) (hrn : cg 1 ≤ 3) : Met l yX0_passNight wsX0_passNight ({ frames := 2, cells := 0, slots := 0, locals := 44 }) (va_Pc [.ref cq] (st_W D (ty3 cI cZ cO) (wC cI cZ cq ca cg cF) sz)) (va_Qv (fun (u : Unit) => True) (fun u t => at_W D (ty3 cI cZ cO) (va_A (wC cI cZ cq ca cg cF) sz) (wC cI cZ cq ca cg (sF cF 3 (night (cg 0) (cg 1) (cF 3)))) t) (va_A (wC cI cZ cq ca cg cF) sz)) 0 0 (va_A (wC cI cZ cq ca cg cF) sz) := by
  refine Met.gov (cc := cX0_passNight) (maxL := 1) (ret := none) (by decide) rfl (Nat.le_of_ble_eq_true rfl) (fun p e s m below meth c A ls X hW hl => ?_)
  have hi0 : ∀ w ∈ wsX00, w ∈ wsX0_passNight := fun w h => List.mem_cons_of_mem _ (List.mem_append_right _ h)
  have hl : lv_has ls 1 [(0, .ref cq)] := hl
  have b1 := hlv 0
  have b2 := hlv (cg 0 - 1)
  refine x_aload_n X dX0_passNight_0 rfl (lv_at hl 0 rfl) ?_
  refine x_iconst (v := nI 0) X dX0_passNight_1 (by decide) ?_
  refine x_iconst (v := nI 1) X dX0_passNight_2 (by decide) ?_
  refine x_bipush (v := nI 9) X dX0_passNight_3 (by decide) ?_
  refine x_aload_n X dX0_passNight_5 rfl (lv_at hl 0 rfl) ?_
  refine x_iconst (v := nI 0) X dX0_passNight_6 (by decide) ?_
  refine x_callVi0 X hW (As := [.int (nI 0)]) (rest := [.int (nI 9), .int (nI 1), .int (nI 0), .ref cq]) (c_X0_levelOf l D cI cZ cO cq ca cg cF _ 0 (show 0 < (cg 0) from (by first | assumption | omega)) (show (cg 0) ≤ 4 from (by first | assumption | omega))) (cwV 1 X.2.2.2.2.2.1 gX0_passNight_X0_levelOf rfl rfl rfl (by decide +kernel) ⟨Nat.le_of_ble_eq_true rfl, Nat.le_of_ble_eq_true rfl⟩) 0 0 rfl rfl rfl rfl hl.1 rfl (Nat.le_of_ble_eq_true rfl) ⟨Nat.le_of_ble_eq_true rfl, Nat.le_of_ble_eq_true rfl⟩ dX0_passNight_7 (fun r1 u2 H locs w7 hW => ?_)
  have hW : Wd D A s.heap H locs (wC cI cZ cq ca cg cF) := hW
  replace w7 : r1 = nI ((cF 3) 0) := w7
  subst w7
  refine x_aload_n X dX0_passNight_10 rfl (lv_at hl 0 rfl) ?_
  refine x_get X hW (v := .int (nI (cg 1))) hi0 0 rfl rfl 1 (by decide) (List.mem_of_getElem? (i := 1) rfl) rfl rfl dX0_passNight_11 ?_
  refine n_iadd X dX0_passNight_14 ?_
  refine x_mmin (v := nI (min 9 (cF 3 0 + cg 1))) X hl.1 (List.mem_of_getElem? (i := 2) rfl) (List.mem_of_getElem? (i := 3) rfl) (List.mem_of_getElem? (i := 4) rfl) (List.mem_of_getElem? (i := 5) rfl) ⟨Nat.le_of_ble_eq_true rfl, Nat.le_of_ble_eq_true rfl⟩ ⟨Nat.le_of_ble_eq_true rfl, Nat.le_of_ble_eq_true rfl⟩ (ie_mn (by decide) (by omega)) dX0_passNight_15 ?_
  refine x_callVv0 X hW (As := [.int (nI 0), .int (nI 1), .int (nI (min 9 (cF 3 0 + cg 1)))]) (rest := []) (c_X0_become1 l D cI cZ cO cq ca cg cF _ 0 (min 9 (cF 3 0 + cg 1)) (show 0 < (cg 0) from (by first | assumption | omega)) (show (cg 0) ≤ 4 from (by first | assumption | omega))) (cwV 3 X.2.2.2.2.2.1 gX0_passNight_X0_become rfl rfl rfl (by decide +kernel) ⟨Nat.le_of_ble_eq_true rfl, Nat.le_of_ble_eq_true rfl⟩) 0 0 rfl rfl rfl rfl hl.1 rfl (Nat.le_of_ble_eq_true rfl) ⟨Nat.le_of_ble_eq_true rfl, Nat.le_of_ble_eq_true rfl⟩ dX0_passNight_18 (fun u4 H locs w18 hW => ?_)
  have hW : Wd D A s.heap H locs (wC cI cZ cq ca cg (sF cF 3 (sF ((cF 3)) 0 (min 9 (cF 3 0 + cg 1))))) := hW
  replace w18 : True := w18
  refine x_aload_n X dX0_passNight_21 rfl (lv_at hl 0 rfl) ?_
  refine x_aload_n X dX0_passNight_22 rfl (lv_at hl 0 rfl) ?_
  refine x_callVi0 X hW (As := []) (rest := [.ref cq]) (c_X0_lastReach l D cI cZ cO cq ca cg (sF cF 3 (sF ((cF 3)) 0 (min 9 (cF 3 0 + cg 1)))) _ (show (cg 0) ≤ 4 from (by first | assumption | omega)) (show 1 ≤ (cg 0) from (by first | assumption | omega))) (cwV 0 X.2.2.2.2.2.1 gX0_passNight_X0_lastReach rfl rfl rfl (by decide +kernel) ⟨Nat.le_of_ble_eq_true rfl, Nat.le_of_ble_eq_true rfl⟩) 0 0 rfl rfl rfl rfl hl.1 rfl (Nat.le_of_ble_eq_true rfl) ⟨Nat.le_of_ble_eq_true rfl, Nat.le_of_ble_eq_true rfl⟩ dX0_passNight_23 (fun r5 u6 H locs w23 hW => ?_)
  have hW : Wd D A s.heap H locs (wC cI cZ cq ca cg (sF cF 3 (sF ((cF 3)) 0 (min 9 (cF 3 0 + cg 1))))) := hW
  replace w23 : r5 = nI ((cg 0) - 1) := w23
  subst w23
  refine x_iconst (v := nI 1) X dX0_passNight_26 (by decide) ?_
  refine x_iconst (v := nI 0) X dX0_passNight_27 (by decide) ?_
  refine x_aload_n X dX0_passNight_28 rfl (lv_at hl 0 rfl) ?_
  refine x_aload_n X dX0_passNight_29 rfl (lv_at hl 0 rfl) ?_
  refine x_callVi0 X hW (As := []) (rest := [.ref cq, .int (nI 0), .int (nI 1), .int (nI ((cg 0) - 1)), .ref cq]) (c_X0_lastReach l D cI cZ cO cq ca cg (sF cF 3 (sF ((cF 3)) 0 (min 9 (cF 3 0 + cg 1)))) _ (show (cg 0) ≤ 4 from (by first | assumption | omega)) (show 1 ≤ (cg 0) from (by first | assumption | omega))) (cwV 0 X.2.2.2.2.2.1 gX0_passNight_X0_lastReach rfl rfl rfl (by decide +kernel) ⟨Nat.le_of_ble_eq_true rfl, Nat.le_of_ble_eq_true rfl⟩) 0 0 rfl rfl rfl rfl hl.1 rfl (Nat.le_of_ble_eq_true rfl) ⟨Nat.le_of_ble_eq_true rfl, Nat.le_of_ble_eq_true rfl⟩ dX0_passNight_30 (fun r7 u8 H locs w30 hW => ?_)
  have hW : Wd D A s.heap H locs (wC cI cZ cq ca cg (sF cF 3 (sF ((cF 3)) 0 (min 9 (cF 3 0 + cg 1))))) := hW
  replace w30 : r7 = nI ((cg 0) - 1) := w30
  subst w30
  refine x_callVi0 X hW (As := [.int (nI ((cg 0) - 1))]) (rest := [.int (nI 0), .int (nI 1), .int (nI ((cg 0) - 1)), .ref cq]) (c_X0_levelOf l D cI cZ cO cq ca cg (sF cF 3 (sF ((cF 3)) 0 (min 9 (cF 3 0 + cg 1)))) _ ((cg 0) - 1) (show ((cg 0) - 1) < (cg 0) from (by first | assumption | omega)) (show (cg 0) ≤ 4 from (by first | assumption | omega))) (cwV 1 X.2.2.2.2.2.1 gX0_passNight_X0_levelOf rfl rfl rfl (by decide +kernel) ⟨Nat.le_of_ble_eq_true rfl, Nat.le_of_ble_eq_true rfl⟩) 0 0 rfl rfl rfl rfl hl.1 rfl (Nat.le_of_ble_eq_true rfl) ⟨Nat.le_of_ble_eq_true rfl, Nat.le_of_ble_eq_true rfl⟩ dX0_passNight_33 (fun r9 u10 H locs w33 hW => ?_)
  have hW : Wd D A s.heap H locs (wC cI cZ cq ca cg (sF cF 3 (sF ((cF 3)) 0 (min 9 (cF 3 0 + cg 1))))) := hW
  replace w33 : r9 = nI ((sF ((cF 3)) 0 (min 9 (cF 3 0 + cg 1))) ((cg 0) - 1)) := w33
  subst w33
  refine n_as0 (b := cF 3 (cg 0 - 1)) (sF_n _ _ (by omega)) ?_
  refine x_iconst (v := nI 1) X dX0_passNight_36 (by decide) ?_
  refine x_isub (v := (nI (cF 3 (cg 0 - 1))) - (nI 1)) X dX0_passNight_37 rfl ?_
  refine x_mmax (v := nI (cF 3 (cg 0 - 1) - 1)) X hl.1 (List.mem_of_getElem? (i := 6) rfl) (List.mem_of_getElem? (i := 7) rfl) (List.mem_of_getElem? (i := 4) rfl) (List.mem_of_getElem? (i := 8) rfl) ⟨Nat.le_of_ble_eq_true rfl, Nat.le_of_ble_eq_true rfl⟩ ⟨Nat.le_of_ble_eq_true rfl, Nat.le_of_ble_eq_true rfl⟩ (ie_mx (by omega)) dX0_passNight_38 ?_
  refine x_callVv0 X hW (As := [.int (nI ((cg 0) - 1)), .int (nI 1), .int (nI (cF 3 (cg 0 - 1) - 1))]) (rest := []) (c_X0_become1 l D cI cZ cO cq ca cg (sF cF 3 (sF ((cF 3)) 0 (min 9 (cF 3 0 + cg 1)))) _ ((cg 0) - 1) (cF 3 (cg 0 - 1) - 1) (show ((cg 0) - 1) < (cg 0) from (by first | assumption | omega)) (show (cg 0) ≤ 4 from (by first | assumption | omega))) (cwV 3 X.2.2.2.2.2.1 gX0_passNight_X0_become rfl rfl rfl (by decide +kernel) ⟨Nat.le_of_ble_eq_true rfl, Nat.le_of_ble_eq_true rfl⟩) 0 0 rfl rfl rfl rfl hl.1 rfl (Nat.le_of_ble_eq_true rfl) ⟨Nat.le_of_ble_eq_true rfl, Nat.le_of_ble_eq_true rfl⟩ dX0_passNight_41 (fun u12 H locs w41 hW => ?_)
  have hW : Wd D A s.heap H locs (wC cI cZ cq ca cg (sF cF 3 (sF ((sF ((cF 3)) 0 (min 9 (cF 3 0 + cg 1)))) ((cg 0) - 1) (cF 3 (cg 0 - 1) - 1)))) := hW
  replace w41 : True := w41
  exact x_vret X hW rfl () (trivial) (congrArg (fun z => (wC cI cZ cq ca cg (sF cF 3 z))) (show (sF ((sF ((cF 3)) 0 (min 9 (cF 3 0 + cg 1)))) ((cg 0) - 1) (cF 3 (cg 0 - 1) - 1)) = (night (cg 0) (cg 1) (cF 3)) from by first | rfl | omega)) dX0_passNight_44
set_option maxHeartbeats 4000000 in
set_option maxRecDepth 100000 in
theorem c_X0_levelsTogether (l : Launch) (D : va_G) (cI cZ cO : ClassId) (cq : Nat) (ca : Nat → Nat) (cg : Nat → Nat) (cF : Nat → Nat → Nat) (sz : Nat)   (hn : cg 0 ≤ 4) (hlv : ∀ z0, cF 3 z0 ≤ 9) : Met l yX0_levelsTogether wsX0_levelsTogether ({ frames := 2, cells := 0, slots := 0, locals := 42 }) (va_Pc [.ref cq] (st_W D (ty3 cI cZ cO) (wC cI cZ cq ca cg cF) sz)) (va_Qi (fun (rr : Int32) (u : Unit) => rr = nI (smN (cF 3) (cg 0))) (fun u t => at_W D (ty3 cI cZ cO) (va_A (wC cI cZ cq ca cg cF) sz) (wC cI cZ cq ca cg cF) t) (va_A (wC cI cZ cq ca cg cF) sz)) 0 0 (va_A (wC cI cZ cq ca cg cF) sz) := by
  refine Met.goi (cc := cX0_levelsTogether) (maxL := 3) (ret := (some .int)) (by decide) rfl (Nat.le_of_ble_eq_true rfl) (fun p e s m below meth c A ls X hW hl => ?_)
  have hi0 : ∀ w ∈ wsX00, w ∈ wsX0_levelsTogether := fun w h => List.mem_cons_of_mem _ (List.mem_append_right _ h)
  have hl : lv_has ls 3 [(0, .ref cq)] := hl
  refine x_iconst (v := nI 0) X dX0_levelsTogether_0 (by decide) ?_
  refine x_istore_n X [(1, .int (nI 0)), (0, .ref cq)] dX0_levelsTogether_1 rfl hl (by decide) rfl (fun ls hl => ?_)
  refine x_iconst (v := nI 0) X dX0_levelsTogether_2 (by decide) ?_
  refine x_istore_n X [(2, .int (nI 0)), (1, .int (nI 0)), (0, .ref cq)] dX0_levelsTogether_3 rfl hl (by decide) rfl (fun ls hl => ?_)
  refine W.loop (σ := (Nat)) (fun u H locs ls => (u ≤ cg 0) ∧ Wd D A s.heap H locs (wC cI cZ cq ca cg cF) ∧ lv_has ls 3 [(2, .int (nI u)), (1, .int (nI (smN (cF 3) u))), (0, .ref cq)]) (fun u => cg 0 - u) (fun u H locs ls hI ih => ?_) 0 ⟨(show 0 ≤ cg 0 from (by omega)), hW, hl⟩
  obtain ⟨i, ie⟩ : ∃ z, z = u := ⟨_, rfl⟩
  subst ie
  obtain ⟨hv, hW, hl⟩ := hI
  have hv : i ≤ cg 0 := hv
  have hW : Wd D A s.heap H locs (wC cI cZ cq ca cg cF) := hW
  have hl : lv_has ls 3 [(2, .int (nI i)), (1, .int (nI (smN (cF 3) i))), (0, .ref cq)] := hl
  have ih4 := ih
  refine x_iload_n X dX0_levelsTogether_4 rfl (lv_at hl 0 rfl) ?_
  refine x_aload_n X dX0_levelsTogether_5 rfl (lv_at hl 2 rfl) ?_
  refine x_get X hW (v := .int (nI (cg 0))) hi0 0 rfl rfl 0 (by decide) (List.mem_of_getElem? (i := 1) rfl) rfl rfl dX0_levelsTogether_6 ?_
  refine n_icmp_ge X 26 dX0_levelsTogether_9 (by decide) (by omega) (by omega) (fun c9 => ?_) (fun c9 => ?_)
  · have ei : i = cg 0 := by omega
    refine x_iload_n X dX0_levelsTogether_26 rfl (lv_at hl 1 rfl) ?_
    exact x_iret X hW rfl () ((congrArg nI (show smN (cF 3) i = smN (cF 3) (cg 0) from by rw [ei]))) rfl dX0_levelsTogether_27
  · refine x_iload_n X dX0_levelsTogether_12 rfl (lv_at hl 1 rfl) ?_
    refine x_aload_n X dX0_levelsTogether_13 rfl (lv_at hl 2 rfl) ?_
    refine x_iload_n X dX0_levelsTogether_14 rfl (lv_at hl 0 rfl) ?_
    refine x_callVi0 X hW (As := [.int (nI i)]) (rest := [.int (nI (smN (cF 3) i))]) (c_X0_levelOf l D cI cZ cO cq ca cg cF _ i (show i < (cg 0) from (by first | assumption | omega)) (show (cg 0) ≤ 4 from (by first | assumption | omega))) (cwV 1 X.2.2.2.2.2.1 gX0_levelsTogether_X0_levelOf rfl rfl rfl (by decide +kernel) ⟨Nat.le_of_ble_eq_true rfl, Nat.le_of_ble_eq_true rfl⟩) 0 0 rfl rfl rfl rfl hl.1 rfl (Nat.le_of_ble_eq_true rfl) ⟨Nat.le_of_ble_eq_true rfl, Nat.le_of_ble_eq_true rfl⟩ dX0_levelsTogether_15 (fun r1 u2 H locs w15 hW => ?_)
    have hW : Wd D A s.heap H locs (wC cI cZ cq ca cg cF) := hW
    replace w15 : r1 = nI ((cF 3) i) := w15
    subst w15
    refine n_iadd X dX0_levelsTogether_18 ?_
    refine x_istore_n X [(1, .int (nI ((smN (cF 3) i) + ((cF 3) i)))), (2, .int (nI i)), (0, .ref cq)] dX0_levelsTogether_19 rfl hl (by decide) rfl (fun ls hl => ?_)
    refine x_iinc X [(2, .int (nI (i + 1))), (1, .int (nI ((smN (cF 3) i) + ((cF 3) i)))), (0, .ref cq)] (k := 1) dX0_levelsTogether_20 hl rfl (nI_inc1 i) (by decide) rfl (fun ls hl => ?_)
    refine x_goto X 4 dX0_levelsTogether_23 (by decide) ?_
    exact ih4 (i + 1) _ _ _ ⟨(show (i + 1) ≤ cg 0 from (by omega)), hW, lv_sub hl [0, 1, 2] rfl⟩ (by omega)
