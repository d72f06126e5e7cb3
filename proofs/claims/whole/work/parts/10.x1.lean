/-! readings -/
def askI (lv : Nat → Nat) (r : Nat) (a : Int32) : Int32 := if a = -9 then nI (lv r) else a
def soP (kd lv lm : Nat → Nat) (r : Nat) (a : Int32) (d : Nat) : Prop := (askI lv r a < nI (want (kd r) (lm r))) ↔ d = 1
def fitP (rc : Nat) (ro : Nat → Nat) (ra : Nat → Int32) (rd : Nat → Nat) (kd lv lm : Nat → Nat) : Prop := ∀ x, x < rc → soP kd lv lm (ro x) (ra x) (rd x)
/-- a told level is none, or 0 .. 9 -/
def okA (a : Int32) : Prop := a = -9 ∨ inR a 10
theorem ask_none {lv : Nat → Nat} {r : Nat} {a : Int32} (h : a = -9) : askI lv r a = nI (lv r) := if_pos h
theorem ask_told {lv : Nat → Nat} {r : Nat} {a : Int32} (h : ¬ a = -9) : askI lv r a = a := if_neg h
theorem ok_neg {a : Int32} (h : okA a) (hn : a < 0) : a = -9 := by
  rcases h with h | h
  · exact h
  · exact absurd h (inR_neg hn)
theorem ok_nneg {a : Int32} (hn : ¬ a < 0) : ¬ a = -9 := fun q => hn (by rw [q]; decide)
theorem fit_s {rc : Nat} {ro : Nat → Nat} {ra : Nat → Int32} {rd : Nat → Nat} {kd lv lm : Nat → Nat} (h : fitP rc ro ra rd kd lv lm) (hs : soP kd lv lm (ro rc) (ra rc) (rd rc)) : fitP (rc + 1) ro ra rd kd lv lm := by
  intro x hx
  by_cases q : x = rc
  · rw [q]; exact hs
  · exact h x (by omega)
theorem fit_no {rc x : Nat} {ro : Nat → Nat} {ra : Nat → Int32} {rd : Nat → Nat} {kd lv lm : Nat → Nat} (hx : x < rc) (hs : ¬ soP kd lv lm (ro x) (ra x) (rd x)) : ¬ fitP rc ro ra rd kd lv lm := fun q => hs (q x hx)
def aRead (n rc : Nat) (r v : Int32) : Int32 := onR r n (-1) (fun _ => if ¬ (v = -9 ∨ inR v 10) then -2 else if rc = 8 then -4 else nI rc)
def tkRead (n rc : Nat) (r v : Int32) : Prop := inR r n ∧ (v = -9 ∨ inR v 10) ∧ rc ≠ 8
def sRead {α : Type} (n rc : Nat) (r v : Int32) (no : α) (yes : Nat → α) : α := onR r n no (fun j => if ¬ (v = -9 ∨ inR v 10) then no else if rc = 8 then no else yes j)
def aBack (rc : Nat) (k : Int32) : Int32 := onR k (rc + 1) (-2) (fun j => nI (rc - j))
def sBack (rc : Nat) (k : Int32) : Nat := onR k (rc + 1) rc (fun j => rc - j)
noncomputable def aLim (n rc : Nat) (ro : Nat → Nat) (ra : Nat → Int32) (rd kd lv lm : Nat → Nat) (r : Int32) : Int32 := onR r n (-1) (fun j => setI (fun v => fitP rc ro ra rd kd lv (sF lm j v)) 10)
noncomputable def aKin (n rc : Nat) (ro : Nat → Nat) (ra : Nat → Int32) (rd kd lv lm : Nat → Nat) (r : Int32) : Int32 := onR r n (-1) (fun j => setI (fun v => fitP rc ro ra rd (sF kd j v) lv lm) 3)
noncomputable def aLev (n rc : Nat) (ro : Nat → Nat) (ra : Nat → Int32) (rd kd lv lm : Nat → Nat) (r : Int32) : Int32 := onR r n (-1) (fun j => setI (fun v => fitP rc ro ra rd kd (sF lv j v) lm) 10)

set_option maxHeartbeats 4000000 in
set_option maxRecDepth 100000 in
theorem c_X1_note (l : Launch) (D : va_G) (cI cZ cO : ClassId) (rq : Nat) (ra : Nat → Nat) (rg : Nat → Nat) (rF : Nat → Nat → Nat) (rE : Nat → Nat → Int32) (sz : Nat) (j : Nat) (v : Int32) (d : Nat)  (hrc : rg 0 ≤ 8) (hd : d ≤ 1) : Met l yX1_note wsX1_note ({ frames := 0, cells := 0, slots := 0, locals := 0 }) (va_Pc [.ref rq, .int (nI j), .int v, .int (nI d)] (st_W D (ty3 cI cZ cO) (wR cI cZ rq ra rg rF rE) sz)) (va_Qi (fun (rr : Int32) (u : Unit) => (rr = nI 1 ∧ (rg 0 < 8) ∨ rr = nI 0 ∧ ¬ (rg 0 < 8))) (fun u t => at_W D (ty3 cI cZ cO) (va_A (wR cI cZ rq ra rg rF rE) sz) (wR cI cZ rq ra (sF rg 0 (if rg 0 < 8 then rg 0 + 1 else rg 0)) (sF (sF rF 1 (if rg 0 < 8 then sF (rF 1) (rg 0) j else rF 1)) 3 (if rg 0 < 8 then sF (rF 3) (rg 0) d else rF 3)) (sF rE 2 (if rg 0 < 8 then sF (rE 2) (rg 0) v else rE 2))) t) (va_A (wR cI cZ rq ra rg rF rE) sz)) 0 0 (va_A (wR cI cZ rq ra rg rF rE) sz) := by
  refine Met.goi (cc := cX1_note) (maxL := 4) (ret := (some .boolean)) (by decide) rfl (Nat.le_of_ble_eq_true rfl) (fun p e s m below meth c A ls X hW hl => ?_)
  have hi1 : ∀ w ∈ wsX10, w ∈ wsX1_note := fun w h => List.mem_cons_of_mem _ (List.mem_append_right _ h)
  have hl : lv_has ls 4 [(0, .ref rq), (1, .int (nI j)), (2, .int v), (3, .int (nI d))] := hl
  refine x_aload_n X dX1_note_0 rfl (lv_at hl 0 rfl) ?_
  refine x_get X hW (v := .int (nI (rg 0))) hi1 0 rfl rfl 0 (by decide) (List.mem_of_getElem? (i := 1) rfl) rfl rfl dX1_note_1 ?_
  refine n_if_lt X 16 dX1_note_4 (by decide) (by omega) ?_
  refine x_aload_n X dX1_note_7 rfl (lv_at hl 0 rfl) ?_
  refine x_get X hW (v := .int (nI (rg 0))) hi1 0 rfl rfl 0 (by decide) (List.mem_of_getElem? (i := 1) rfl) rfl rfl dX1_note_8 ?_
  refine x_bipush (v := nI 8) X dX1_note_11 (by decide) ?_
  refine n_icmp_lt X 18 dX1_note_13 (by decide) (by omega) (by decide) (fun c13 => ?_) (fun c13 => ?_)
  · refine x_aload_n X dX1_note_18 rfl (lv_at hl 0 rfl) ?_
    refine x_get X hW (v := .ref (ra 1)) hi1 0 rfl rfl 1 (by decide) (List.mem_of_getElem? (i := 2) rfl) rfl rfl dX1_note_19 ?_
    refine x_aload_n X dX1_note_22 rfl (lv_at hl 0 rfl) ?_
    refine x_get X hW (v := .int (nI (rg 0))) hi1 0 rfl rfl 0 (by decide) (List.mem_of_getElem? (i := 1) rfl) rfl rfl dX1_note_23 ?_
    refine x_iload_n X dX1_note_26 rfl (lv_at hl 1 rfl) ?_
    refine n_iast X hW (f := rF 1) 1 0 rfl rfl (by omega) (by decide) dX1_note_27 (wR cI cZ rq ra rg (sF rF 1 (sF (rF 1) (rg 0) j)) rE) rfl (fun H locs hW => ?_)
    refine x_aload_n X dX1_note_28 rfl (lv_at hl 0 rfl) ?_
    refine x_get X hW (v := .ref (ra 2)) hi1 0 rfl rfl 2 (by decide) (List.mem_of_getElem? (i := 3) rfl) rfl rfl dX1_note_29 ?_
    refine x_aload_n X dX1_note_32 rfl (lv_at hl 0 rfl) ?_
    refine x_get X hW (v := .int (nI (rg 0))) hi1 0 rfl rfl 0 (by decide) (List.mem_of_getElem? (i := 1) rfl) rfl rfl dX1_note_33 ?_
    refine x_iload_n X dX1_note_36 rfl (lv_at hl 2 rfl) ?_
    refine i_iast X hW (f := rE 2) 2 0 rfl rfl (by omega) (by decide) dX1_note_37 (wR cI cZ rq ra rg (sF rF 1 (sF (rF 1) (rg 0) j)) (sF rE 2 (sF (rE 2) (rg 0) v))) rfl (fun H locs hW => ?_)
    refine x_aload_n X dX1_note_38 rfl (lv_at hl 0 rfl) ?_
    refine x_get X hW (v := .ref (ra 3)) hi1 0 rfl rfl 3 (by decide) (List.mem_of_getElem? (i := 4) rfl) rfl rfl dX1_note_39 ?_
    refine x_aload_n X dX1_note_42 rfl (lv_at hl 0 rfl) ?_
    refine x_get X hW (v := .int (nI (rg 0))) hi1 0 rfl rfl 0 (by decide) (List.mem_of_getElem? (i := 1) rfl) rfl rfl dX1_note_43 ?_
    refine x_iload_n X dX1_note_46 rfl (lv_at hl 3 rfl) ?_
    refine n_zast X hW (f := rF 3) 3 1 rfl rfl (by omega) (by decide) (by omega) dX1_note_47 (wR cI cZ rq ra rg (sF (sF rF 1 (sF (rF 1) (rg 0) j)) 3 (sF (rF 3) (rg 0) d)) (sF rE 2 (sF (rE 2) (rg 0) v))) rfl (fun H locs hW => ?_)
    refine x_aload_n X dX1_note_48 rfl (lv_at hl 0 rfl) ?_
    refine x_dup X dX1_note_49 rfl ?_
    refine x_get X hW (v := .int (nI (rg 0))) hi1 0 rfl rfl 0 (by decide) (List.mem_of_getElem? (i := 1) rfl) rfl rfl dX1_note_50 ?_
    refine x_iconst (v := nI 1) X dX1_note_53 (by decide) ?_
    refine n_iadd X dX1_note_54 ?_
    refine x_put X hW (v := .int (nI (rg 0 + 1))) hi1 tyX1 tyX1_ok nmX1 0 rfl rfl 0 (by decide) (List.mem_of_getElem? (i := 1) rfl) rfl rfl rfl rfl (Nat.le_of_ble_eq_true rfl) dX1_note_55 (wR cI cZ rq ra (sF rg 0 (rg 0 + 1)) (sF (sF rF 1 (sF (rF 1) (rg 0) j)) 3 (sF (rF 3) (rg 0) d)) (sF rE 2 (sF (rE 2) (rg 0) v))) rfl (fun H locs hW => ?_)
    refine x_iconst (v := nI 1) X dX1_note_58 (by decide) ?_
    exact x_zret X hW rfl (Or.inr (by decide)) () (Or.inl ⟨rfl, by omega⟩) (Eq.trans (Eq.trans (Eq.trans (congrArg (fun z => (wR cI cZ rq ra (sF rg 0 z) (sF (sF rF 1 (sF (rF 1) (rg 0) j)) 3 (sF (rF 3) (rg 0) d)) (sF rE 2 (sF (rE 2) (rg 0) v)))) (show (rg 0 + 1) = (if rg 0 < 8 then rg 0 + 1 else rg 0) from by first | rw [if_pos (show rg 0 < 8 by omega)] | rw [if_neg (show ¬ rg 0 < 8 by omega)])) (congrArg (fun z => (wR cI cZ rq ra (sF rg 0 (if rg 0 < 8 then rg 0 + 1 else rg 0)) (sF (sF rF 1 z) 3 (sF (rF 3) (rg 0) d)) (sF rE 2 (sF (rE 2) (rg 0) v)))) (show (sF (rF 1) (rg 0) j) = (if rg 0 < 8 then sF (rF 1) (rg 0) j else rF 1) from by first | rw [if_pos (show rg 0 < 8 by omega)] | rw [if_neg (show ¬ rg 0 < 8 by omega)]))) (congrArg (fun z => (wR cI cZ rq ra (sF rg 0 (if rg 0 < 8 then rg 0 + 1 else rg 0)) (sF (sF rF 1 (if rg 0 < 8 then sF (rF 1) (rg 0) j else rF 1)) 3 (sF (rF 3) (rg 0) d)) (sF rE 2 z))) (show (sF (rE 2) (rg 0) v) = (if rg 0 < 8 then sF (rE 2) (rg 0) v else rE 2) from by first | rw [if_pos (show rg 0 < 8 by omega)] | rw [if_neg (show ¬ rg 0 < 8 by omega)]))) (congrArg (fun z => (wR cI cZ rq ra (sF rg 0 (if rg 0 < 8 then rg 0 + 1 else rg 0)) (sF (sF rF 1 (if rg 0 < 8 then sF (rF 1) (rg 0) j else rF 1)) 3 z) (sF rE 2 (if rg 0 < 8 then sF (rE 2) (rg 0) v else rE 2)))) (show (sF (rF 3) (rg 0) d) = (if rg 0 < 8 then sF (rF 3) (rg 0) d else rF 3) from by first | rw [if_pos (show rg 0 < 8 by omega)] | rw [if_neg (show ¬ rg 0 < 8 by omega)]))) dX1_note_59
  · refine x_iconst (v := nI 0) X dX1_note_16 (by decide) ?_
    exact x_zret X hW rfl (Or.inl (by decide)) () (Or.inr ⟨rfl, by omega⟩) (Eq.trans (Eq.trans (Eq.trans (congrArg (fun z => (wR cI cZ rq ra (sF rg 0 z) rF rE)) (show (rg 0) = (if rg 0 < 8 then rg 0 + 1 else rg 0) from by first | rw [if_pos (show rg 0 < 8 by omega)] | rw [if_neg (show ¬ rg 0 < 8 by omega)])) (congrArg (fun z => (wR cI cZ rq ra (sF rg 0 (if rg 0 < 8 then rg 0 + 1 else rg 0)) (sF rF 1 z) rE)) (show (rF 1) = (if rg 0 < 8 then sF (rF 1) (rg 0) j else rF 1) from by first | rw [if_pos (show rg 0 < 8 by omega)] | rw [if_neg (show ¬ rg 0 < 8 by omega)]))) (congrArg (fun z => (wR cI cZ rq ra (sF rg 0 (if rg 0 < 8 then rg 0 + 1 else rg 0)) (sF rF 1 (if rg 0 < 8 then sF (rF 1) (rg 0) j else rF 1)) (sF rE 2 z))) (show (rE 2) = (if rg 0 < 8 then sF (rE 2) (rg 0) v else rE 2) from by first | rw [if_pos (show rg 0 < 8 by omega)] | rw [if_neg (show ¬ rg 0 < 8 by omega)]))) (congrArg (fun z => (wR cI cZ rq ra (sF rg 0 (if rg 0 < 8 then rg 0 + 1 else rg 0)) (sF (sF rF 1 (if rg 0 < 8 then sF (rF 1) (rg 0) j else rF 1)) 3 z) (sF rE 2 (if rg 0 < 8 then sF (rE 2) (rg 0) v else rE 2)))) (show (rF 3) = (if rg 0 < 8 then sF (rF 3) (rg 0) d else rF 3) from by first | rw [if_pos (show rg 0 < 8 by omega)] | rw [if_neg (show ¬ rg 0 < 8 by omega)]))) dX1_note_17
set_option maxHeartbeats 4000000 in
set_option maxRecDepth 100000 in
theorem c_X1_areSoIn (l : Launch) (D : va_G) (cI cZ cO : ClassId) (rq : Nat) (ra : Nat → Nat) (rg : Nat → Nat) (rF : Nat → Nat → Nat) (rE : Nat → Nat → Int32) (cq : Nat) (ca : Nat → Nat) (cg : Nat → Nat) (cF : Nat → Nat → Nat) (sz : Nat)   (hrc : rg 0 ≤ 8) (hn : cg 0 ≤ 4) (hro : ∀ z0, z0 < rg 0 → rF 1 z0 < cg 0) (hrd : ∀ z0, rF 3 z0 ≤ 1) (hk : ∀ z0, cF 2 z0 ≤ 2) (hlv : ∀ z0, cF 3 z0 ≤ 9) (hm : ∀ z0, cF 4 z0 ≤ 9) : Met l yX1_areSoIn wsX1_areSoIn ({ frames := 3, cells := 0, slots := 0, locals := 64 }) (va_Pc [.ref rq, .ref cq] (st_W D (ty3 cI cZ cO) (wR cI cZ rq ra rg rF rE ++ (wC cI cZ cq ca cg cF)) sz)) (va_Qi (fun (rr : Int32) (u : Unit) => (rr = nI 1 ∧ (fitP (rg 0) (rF 1) (rE 2) (rF 3) (cF 2) (cF 3) (cF 4)) ∨ rr = nI 0 ∧ ¬ (fitP (rg 0) (rF 1) (rE 2) (rF 3) (cF 2) (cF 3) (cF 4)))) (fun u t => at_W D (ty3 cI cZ cO) (va_A (wR cI cZ rq ra rg rF rE ++ (wC cI cZ cq ca cg cF)) sz) (wR cI cZ rq ra rg rF rE ++ (wC cI cZ cq ca cg cF)) t) (va_A (wR cI cZ rq ra rg rF rE ++ (wC cI cZ cq ca cg cF)) sz)) 0 0 (va_A (wR cI cZ rq ra rg rF rE ++ (wC cI cZ cq ca cg cF)) sz) := by
  refine Met.goi (cc := cX1_areSoIn) (maxL := 4) (ret := (some .boolean)) (by decide) rfl (Nat.le_of_ble_eq_true rfl) (fun p e s m below meth c A ls X hW hl => ?_)
  have hi1 : ∀ w ∈ wsX10, w ∈ wsX1_areSoIn := fun w h => List.mem_cons_of_mem _ (List.mem_append_left _ (List.mem_append_right _ h))
  have hi0 : ∀ w ∈ wsX00, w ∈ wsX1_areSoIn := fun w h => List.mem_cons_of_mem _ (List.mem_append_right _ h)
  have hl : lv_has ls 4 [(0, .ref rq), (1, .ref cq)] := hl
  refine x_iconst (v := nI 0) X dX1_areSoIn_0 (by decide) ?_
  refine x_istore_n X [(2, .int (nI 0)), (0, .ref rq), (1, .ref cq)] dX1_areSoIn_1 rfl hl (by decide) rfl (fun ls hl => ?_)
  refine W.loop (σ := (Nat)) (fun u H locs ls => (u ≤ rg 0 ∧ fitP u (rF 1) (rE 2) (rF 3) (cF 2) (cF 3) (cF 4)) ∧ Wd D A s.heap H locs (wR cI cZ rq ra rg rF rE ++ (wC cI cZ cq ca cg cF)) ∧ lv_has ls 4 [(2, .int (nI u)), (0, .ref rq), (1, .ref cq)]) (fun u => rg 0 - u) (fun u H locs ls hI ih => ?_) 0 ⟨(show 0 ≤ rg 0 ∧ fitP 0 (rF 1) (rE 2) (rF 3) (cF 2) (cF 3) (cF 4) from (by first | exact ⟨Nat.zero_le _, fun x h => absurd h (Nat.not_lt_zero x)⟩ | exact ⟨by omega, fit_s hv.2 hso⟩)), hW, hl⟩
  obtain ⟨i, ie⟩ : ∃ z, z = u := ⟨_, rfl⟩
  subst ie
  obtain ⟨hv, hW, hl⟩ := hI
  have hv : i ≤ rg 0 ∧ fitP i (rF 1) (rE 2) (rF 3) (cF 2) (cF 3) (cF 4) := hv
  have hW : Wd D A s.heap H locs (wR cI cZ rq ra rg rF rE ++ (wC cI cZ cq ca cg cF)) := hW
  have hl : lv_has ls 4 [(2, .int (nI i)), (0, .ref rq), (1, .ref cq)] := hl
  have ih2 := ih
  refine x_iload_n X dX1_areSoIn_2 rfl (lv_at hl 0 rfl) ?_
  refine x_aload_n X dX1_areSoIn_3 rfl (lv_at hl 1 rfl) ?_
  refine x_get X hW (v := .int (nI (rg 0))) hi1 0 rfl rfl 0 (by decide) (List.mem_of_getElem? (i := 1) rfl) rfl rfl dX1_areSoIn_4 ?_
  refine n_icmp_ge X 83 dX1_areSoIn_7 (by decide) (by omega) (by omega) (fun c7 => ?_) (fun c7 => ?_)
  · refine x_iconst (v := nI 1) X dX1_areSoIn_83 (by decide) ?_
    exact x_zret X hW rfl (Or.inr (by decide)) () (Or.inl ⟨rfl, by rw [show rg 0 = i by omega]; exact hv.2⟩) rfl dX1_areSoIn_84
  · have b1 := hro i (by omega)
    have b2 := hrd i
    have b3 := want_le (cF 2 (rF 1 i)) (cF 4 (rF 1 i))
    have b4 := hm (rF 1 i)
    refine x_iload_n X dX1_areSoIn_10 rfl (lv_at hl 0 rfl) ?_
    refine x_bipush (v := nI 8) X dX1_areSoIn_11 (by decide) ?_
    refine n_icmp_ge X 83 dX1_areSoIn_13 (by decide) (by omega) (by decide) (fun c13 => by omega) (fun c13 => ?_)
    refine W.cut (σ := (Int32)) (fun u H locs ls => (u = askI (cF 3) (rF 1 i) (rE 2 i)) ∧ Wd D A s.heap H locs (wR cI cZ rq ra rg rF rE ++ (wC cI cZ cq ca cg cF)) ∧ lv_has ls 4 [(2, .int (nI i)), (0, .ref rq), (1, .ref cq)]) (fun u => [.int u]) 46 (fun u H locs ls hI => ?_) (fun kj46 => ?_)
    · obtain ⟨a, ae⟩ : ∃ z, z = u := ⟨_, rfl⟩
      subst ae
      obtain ⟨hj, hW, hl⟩ := hI
      have hj : a = askI (cF 3) (rF 1 i) (rE 2 i) := hj
      have hW : Wd D A s.heap H locs (wR cI cZ rq ra rg rF rE ++ (wC cI cZ cq ca cg cF)) := hW
      have hl : lv_has ls 4 [(2, .int (nI i)), (0, .ref rq), (1, .ref cq)] := hl
      refine x_istore_n X [(3, .int a), (2, .int (nI i)), (0, .ref rq), (1, .ref cq)] dX1_areSoIn_46 rfl hl (by decide) rfl (fun ls hl => ?_)
      refine x_iload_n X dX1_areSoIn_47 rfl (lv_at hl 0 rfl) ?_
      refine x_aload_n X dX1_areSoIn_48 rfl (lv_at hl 3 rfl) ?_
      refine x_aload_n X dX1_areSoIn_49 rfl (lv_at hl 2 rfl) ?_
      refine x_get X hW (v := .ref (ra 1)) hi1 0 rfl rfl 1 (by decide) (List.mem_of_getElem? (i := 3) rfl) rfl rfl dX1_areSoIn_50 ?_
      refine x_iload_n X dX1_areSoIn_53 rfl (lv_at hl 1 rfl) ?_
      refine n_iald X hW (f := rF 1) 1 0 rfl rfl (by omega) (by decide) dX1_areSoIn_54 ?_
      refine x_callVi X hW (As := [.int (nI (rF 1 i))]) (rest := [.int a]) (wz := fun u => (wR cI cZ rq ra rg rF rE ++ (wC cI cZ cq ca cg cF))) (c_X0_wantOf l D cI cZ cO cq ca cg cF _ (rF 1 i) (show (rF 1 i) < (cg 0) from (by first | assumption | omega)) (show (cg 0) ≤ 4 from (by first | assumption | omega)) (show ∀ z0, (cF 2) z0 ≤ 2 from (by first | assumption | omega)) (show ∀ z0, (cF 4) z0 ≤ 9 from (by first | assumption | omega))) (cwV 1 X.2.2.2.2.2.1 gX1_areSoIn_X0_wantOf rfl rfl rfl (by decide +kernel) ⟨Nat.le_of_ble_eq_true rfl, Nat.le_of_ble_eq_true rfl⟩) 4 0 rfl rfl rfl [4, 5, 6, 7] [0, 1, 2, 3] [0, 1, 2, 3, 4, 5, 6, 7] rfl rfl (by decide) (fun _ => rfl) rfl hl.1 rfl (Nat.le_of_ble_eq_true rfl) ⟨Nat.le_of_ble_eq_true rfl, Nat.le_of_ble_eq_true rfl⟩ dX1_areSoIn_55 (fun r1 u2 H locs w55 hW => ?_)
      have hW : Wd D A s.heap H locs (wR cI cZ rq ra rg rF rE ++ (wC cI cZ cq ca cg cF)) := hW
      replace w55 : r1 = nI (want ((cF 2) (rF 1 i)) ((cF 4) (rF 1 i))) := w55
      subst w55
      refine x_icmp_ge X 65 dX1_areSoIn_58 (by decide) (fun c58 => ?_) (fun c58 => ?_)
      · have hb := Int32.not_lt.mpr c58
        refine x_iconst (v := nI 0) X dX1_areSoIn_65 (by decide) ?_
        refine x_aload_n X dX1_areSoIn_66 rfl (lv_at hl 2 rfl) ?_
        refine x_get X hW (v := .ref (ra 3)) hi1 0 rfl rfl 3 (by decide) (List.mem_of_getElem? (i := 4) rfl) rfl rfl dX1_areSoIn_67 ?_
        refine x_iload_n X dX1_areSoIn_70 rfl (lv_at hl 1 rfl) ?_
        refine n_zald X hW (f := rF 3) 3 1 rfl rfl (by omega) (by decide) dX1_areSoIn_71 ?_
        refine n_icmp_eq X 77 dX1_areSoIn_72 (by decide) (by decide) (by omega) (fun c72 => ?_) (fun c72 => ?_)
        · have hso : soP (cF 2) (cF 3) (cF 4) (rF 1 i) (rE 2 i) (rF 3 i) := by unfold soP; rw [← hj]; first | exact ⟨fun _ => by omega, fun _ => hb⟩ | exact ⟨fun q => absurd q hb, fun q => by omega⟩
          refine x_iinc X [(2, .int (nI (i + 1))), (3, .int a), (0, .ref rq), (1, .ref cq)] (k := 1) dX1_areSoIn_77 hl rfl (nI_inc1 i) (by decide) rfl (fun ls hl => ?_)
          refine x_goto X 2 dX1_areSoIn_80 (by decide) ?_
          exact ih2 (i + 1) _ _ _ ⟨(show (i + 1) ≤ rg 0 ∧ fitP (i + 1) (rF 1) (rE 2) (rF 3) (cF 2) (cF 3) (cF 4) from (by first | exact ⟨Nat.zero_le _, fun x h => absurd h (Nat.not_lt_zero x)⟩ | exact ⟨by omega, fit_s hv.2 hso⟩)), hW, lv_sub hl [0, 2, 3] rfl⟩ (by omega)
        · refine x_iconst (v := nI 0) X dX1_areSoIn_75 (by decide) ?_
          exact x_zret X hW rfl (Or.inl (by decide)) () (Or.inr ⟨rfl, fit_no (x := i) (by omega) (by unfold soP; rw [← hj]; first | exact fun q => by (have := q.mp hb; omega) | exact fun q => hb (q.mpr (by omega)))⟩) rfl dX1_areSoIn_76
      · have hb := Int32.not_le.mp c58
        refine x_iconst (v := nI 1) X dX1_areSoIn_61 (by decide) ?_
        refine x_goto X 66 dX1_areSoIn_62 (by decide) ?_
        refine x_aload_n X dX1_areSoIn_66 rfl (lv_at hl 2 rfl) ?_
        refine x_get X hW (v := .ref (ra 3)) hi1 0 rfl rfl 3 (by decide) (List.mem_of_getElem? (i := 4) rfl) rfl rfl dX1_areSoIn_67 ?_
        refine x_iload_n X dX1_areSoIn_70 rfl (lv_at hl 1 rfl) ?_
        refine n_zald X hW (f := rF 3) 3 1 rfl rfl (by omega) (by decide) dX1_areSoIn_71 ?_
        refine n_icmp_eq X 77 dX1_areSoIn_72 (by decide) (by decide) (by omega) (fun c72 => ?_) (fun c72 => ?_)
        · have hso : soP (cF 2) (cF 3) (cF 4) (rF 1 i) (rE 2 i) (rF 3 i) := by unfold soP; rw [← hj]; first | exact ⟨fun _ => by omega, fun _ => hb⟩ | exact ⟨fun q => absurd q hb, fun q => by omega⟩
          refine x_iinc X [(2, .int (nI (i + 1))), (3, .int a), (0, .ref rq), (1, .ref cq)] (k := 1) dX1_areSoIn_77 hl rfl (nI_inc1 i) (by decide) rfl (fun ls hl => ?_)
          refine x_goto X 2 dX1_areSoIn_80 (by decide) ?_
          exact ih2 (i + 1) _ _ _ ⟨(show (i + 1) ≤ rg 0 ∧ fitP (i + 1) (rF 1) (rE 2) (rF 3) (cF 2) (cF 3) (cF 4) from (by first | exact ⟨Nat.zero_le _, fun x h => absurd h (Nat.not_lt_zero x)⟩ | exact ⟨by omega, fit_s hv.2 hso⟩)), hW, lv_sub hl [0, 2, 3] rfl⟩ (by omega)
        · refine x_iconst (v := nI 0) X dX1_areSoIn_75 (by decide) ?_
          exact x_zret X hW rfl (Or.inl (by decide)) () (Or.inr ⟨rfl, fit_no (x := i) (by omega) (by unfold soP; rw [← hj]; first | exact fun q => by (have := q.mp hb; omega) | exact fun q => hb (q.mpr (by omega)))⟩) rfl dX1_areSoIn_76
    · refine x_aload_n X dX1_areSoIn_16 rfl (lv_at hl 1 rfl) ?_
      refine x_get X hW (v := .ref (ra 2)) hi1 0 rfl rfl 2 (by decide) (List.mem_of_getElem? (i := 2) rfl) rfl rfl dX1_areSoIn_17 ?_
      refine x_iload_n X dX1_areSoIn_20 rfl (lv_at hl 0 rfl) ?_
      refine i_iald X hW (f := rE 2) 2 0 rfl rfl (by omega) (by decide) dX1_areSoIn_21 ?_
      refine x_bipush (v := (-9 : Int32)) X dX1_areSoIn_22 (by decide) ?_
      refine x_icmp_ne X 40 dX1_areSoIn_24 (by decide) (fun c24 => ?_) (fun c24 => ?_)
      · refine x_aload_n X dX1_areSoIn_40 rfl (lv_at hl 1 rfl) ?_
        refine x_get X hW (v := .ref (ra 2)) hi1 0 rfl rfl 2 (by decide) (List.mem_of_getElem? (i := 2) rfl) rfl rfl dX1_areSoIn_41 ?_
        refine x_iload_n X dX1_areSoIn_44 rfl (lv_at hl 0 rfl) ?_
        refine i_iald X hW (f := rE 2) 2 0 rfl rfl (by omega) (by decide) dX1_areSoIn_45 ?_
        exact kj46 (rE 2 i) _ _ _ ⟨(show (rE 2 i) = askI (cF 3) (rF 1 i) (rE 2 i) from by first | exact (ask_none c24).symm | exact (ask_told c24).symm | exact (ask_none (by simpa using c24)).symm), hW, lv_sub hl [0, 1, 2] rfl⟩
      · refine x_aload_n X dX1_areSoIn_27 rfl (lv_at hl 2 rfl) ?_
        refine x_aload_n X dX1_areSoIn_28 rfl (lv_at hl 1 rfl) ?_
        refine x_get X hW (v := .ref (ra 1)) hi1 0 rfl rfl 1 (by decide) (List.mem_of_getElem? (i := 3) rfl) rfl rfl dX1_areSoIn_29 ?_
        refine x_iload_n X dX1_areSoIn_32 rfl (lv_at hl 0 rfl) ?_
        refine n_iald X hW (f := rF 1) 1 0 rfl rfl (by omega) (by decide) dX1_areSoIn_33 ?_
        refine x_callVi X hW (As := [.int (nI (rF 1 i))]) (rest := []) (wz := fun u => (wR cI cZ rq ra rg rF rE ++ (wC cI cZ cq ca cg cF))) (c_X0_levelOf l D cI cZ cO cq ca cg cF _ (rF 1 i) (show (rF 1 i) < (cg 0) from (by first | assumption | omega)) (show (cg 0) ≤ 4 from (by first | assumption | omega))) (cwV 1 X.2.2.2.2.2.1 gX1_areSoIn_X0_levelOf rfl rfl rfl (by decide +kernel) ⟨Nat.le_of_ble_eq_true rfl, Nat.le_of_ble_eq_true rfl⟩) 4 0 rfl rfl rfl [4, 5, 6, 7] [0, 1, 2, 3] [0, 1, 2, 3, 4, 5, 6, 7] rfl rfl (by decide) (fun _ => rfl) rfl hl.1 rfl (Nat.le_of_ble_eq_true rfl) ⟨Nat.le_of_ble_eq_true rfl, Nat.le_of_ble_eq_true rfl⟩ dX1_areSoIn_34 (fun r3 u4 H locs w34 hW => ?_)
        have hW : Wd D A s.heap H locs (wR cI cZ rq ra rg rF rE ++ (wC cI cZ cq ca cg cF)) := hW
        replace w34 : r3 = nI ((cF 3) (rF 1 i)) := w34
        subst w34
        refine x_goto X 46 dX1_areSoIn_37 (by decide) ?_
        exact kj46 (nI ((cF 3) (rF 1 i))) _ _ _ ⟨(show (nI ((cF 3) (rF 1 i))) = askI (cF 3) (rF 1 i) (rE 2 i) from by first | exact (ask_none c24).symm | exact (ask_told c24).symm | exact (ask_none (by simpa using c24)).symm), hW, lv_sub hl [0, 1, 2] rfl⟩
