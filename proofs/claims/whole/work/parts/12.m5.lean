theorem sF_id {α : Type} (f : Nat → α) (k : Nat) : sF f k (f k) = f := by
  funext j; rw [sF_ap]; split
  next h => rw [h]
  next => rfl
theorem sF_sF {α : Type} (f : Nat → α) (k : Nat) (a b : α) : sF (sF f k a) k b = sF f k b := by
  funext j
  by_cases h : j = k
  · subst h; rw [sF_s, sF_s]
  · rw [sF_n _ _ h, sF_n _ _ h, sF_n _ _ h]
theorem cellF_0 {th ct : Nat} {i : Int32} (h : cellF th ct i = 0) : th ≠ 0 ∧ inR i ct := by
  unfold cellF at h
  by_cases h1 : th = 0
  · rw [if_pos h1] at h; omega
  · rw [if_neg h1] at h
    by_cases h2 : inR i ct
    · exact ⟨h1, h2⟩
    · rw [if_neg h2] at h; omega
theorem cellF_le (th ct : Nat) (i : Int32) : cellF th ct i ≤ 4 := by unfold cellF; (repeat' split) <;> omega
theorem bar1 {th ln ct : Nat} {lane i : Int32} (h1 : nI ln = lane) : barF th ln ct lane i (nI 1) = cellF th ct i := by
  unfold barF cellF
  by_cases h2 : th = 0
  · rw [if_pos h2, if_pos h2]
  · rw [if_neg h2, if_neg h2, if_neg (not_not_intro h1)]
    have e : (nI 1).toInt = 1 := by decide
    rw [e, if_neg (by omega)]
    by_cases h3 : inR i ct
    · rw [if_pos h3, if_neg (by intro q; have z1 := h3.1; have z2 := h3.2; omega)]
    · rw [if_neg h3, if_pos]
      apply Classical.byContradiction
      intro q
      exact h3 ⟨by omega, by omega⟩
theorem barC {th ln ct : Nat} {lane i n : Int32} (h : th ≠ 0) (h1 : ¬ nI ln = lane) : barF th ln ct lane i n = 2 := by
  unfold barF; rw [if_neg h, if_pos h1]
theorem bar0 {th ln ct : Nat} {lane i n : Int32} (h : th = 0) : barF th ln ct lane i n = 1 := by
  unfold barF; rw [if_pos h]
def sPut (th ct ln : Nat → Nat) (k i v : Int32) (f : Nat → Int32) (b : Nat) : Nat → Int32 := onR k 4 f (fun j => if cellF (th j) (ct j) i = 0 then sF f (b * j + i.toNatClampNeg) (cutI (ln j) v) else f)
def sCopy (th ln ct : Nat → Nat) (k i o j n : Int32) (f : Nat → Int32) : Nat → Int32 := onR k 4 f (fun a => onR o 4 f (fun b => if copF th ln ct a b i j n = 0 then mv f f (60 * b + j.toNatClampNeg) (60 * a + i.toNatClampNeg) n.toNatClampNeg else f))
theorem mv0_s {g f : Nat → Int32} {s n : Nat} {v : Int32} (hv : v = f (s + n)) : sF (mv g f 0 s n) n v = mv g f 0 s (n + 1) := by
  have := mv_s (g := g) (d := 0) (s := s) (n := n) hv
  rw [Nat.zero_add] at this; exact this
theorem mv_in0 {g f : Nat → Int32} {s n x : Nat} (h : x < n) : mv g f 0 s n x = f (s + x) := by
  unfold mv; rw [if_pos (by omega), Nat.sub_zero]
theorem cop_0 {th ln ct : Nat → Nat} {a b : Nat} {i j n : Int32} (h : copF th ln ct a b i j n = 0) : th a ≠ 0 ∧ th b ≠ 0 ∧ ln a = ln b ∧ 0 ≤ i.toInt ∧ 0 ≤ j.toInt ∧ 0 ≤ n.toInt ∧ i.toInt + n.toInt ≤ ct a ∧ j.toInt + n.toInt ≤ ct b := by
  unfold copF at h
  by_cases h1 : th a = 0 ∨ th b = 0
  · rw [if_pos h1] at h; omega
  · rw [if_neg h1] at h
    by_cases h2 : ln a = ln b
    · rw [if_neg (not_not_intro h2)] at h
      by_cases h3 : i.toInt < 0 ∨ j.toInt < 0 ∨ n.toInt < 0 ∨ (ct a : Int) < i.toInt + n.toInt ∨ (ct b : Int) < j.toInt + n.toInt
      · rw [if_pos h3] at h; omega
      · exact ⟨by omega, by omega, h2, by omega, by omega, by omega, by omega, by omega⟩
    · rw [if_pos h2] at h; omega

set_option maxHeartbeats 4000000 in
set_option maxRecDepth 100000 in
theorem c_X6_reading (l : Launch) (D : va_G) (cI cZ cO : ClassId) (mq : Nat) (ma : Nat → Nat) (mg : Nat → Nat) (mh : Nat → Int32) (mF : Nat → Nat → Nat) (mE : Nat → Nat → Int32) (sz : Nat) (r : Int32) (v : Int32) (d : Nat)  (hn : mg 2 ≤ 4) (hrc : mg 21 ≤ 8) (hd : d ≤ 1) : Met l yX6_reading wsX6_reading ({ frames := 2, cells := 0, slots := 0, locals := 46 }) (va_Pc [.ref mq, .int r, .int v, .int (nI d)] (st_W D (ty3 cI cZ cO) (wM cI cZ mq ma mg mh mF mE) sz)) (va_Qi (fun (rr : Int32) (u : Unit) => rr = aRead (mg 2) (mg 21) r v) (fun u t => at_W D (ty3 cI cZ cO) (va_A (wM cI cZ mq ma mg mh mF mE) sz) (wM cI cZ mq ma (sF mg 21 (sRead (mg 2) (mg 21) r v (mg 21) (fun _ => mg 21 + 1))) mh (sF (sF mF 22 (sRead (mg 2) (mg 21) r v (mF 22) (fun j => sF (mF 22) (mg 21) j))) 24 (sRead (mg 2) (mg 21) r v (mF 24) (fun _ => sF (mF 24) (mg 21) d))) (sF mE 23 (sRead (mg 2) (mg 21) r v (mE 23) (fun _ => sF (mE 23) (mg 21) v)))) t) (va_A (wM cI cZ mq ma mg mh mF mE) sz)) 0 0 (va_A (wM cI cZ mq ma mg mh mF mE) sz) := by
  refine Met.goi (cc := cX6_reading) (maxL := 4) (ret := (some .int)) (by decide) rfl (Nat.le_of_ble_eq_true rfl) (fun p e s m below meth c A ls X hW hl => ?_)
  have hi6 : ∀ w ∈ wsX60, w ∈ wsX6_reading := fun w h => List.mem_cons_of_mem _ (List.mem_append_right _ h)
  have hl : lv_has ls 4 [(0, .ref mq), (1, .int r), (2, .int v), (3, .int (nI d))] := hl
  refine x_aload_n X dX6_reading_0 rfl (lv_at hl 0 rfl) ?_
  refine x_iload_n X dX6_reading_1 rfl (lv_at hl 1 rfl) ?_
  refine x_callVi0 X hW (As := [.int r]) (rest := []) (c_X6_noReach l D cI cZ cO mq ma mg mh mF mE _ r (show (mg 2) ≤ 4 from (by first | assumption | omega))) (cwV 1 X.2.2.2.2.2.1 gX6_reading_X6_noReach rfl rfl rfl (by decide +kernel) ⟨Nat.le_of_ble_eq_true rfl, Nat.le_of_ble_eq_true rfl⟩) 0 5 rfl rfl rfl rfl hl.1 rfl (Nat.le_of_ble_eq_true rfl) ⟨Nat.le_of_ble_eq_true rfl, Nat.le_of_ble_eq_true rfl⟩ dX6_reading_2 (fun r1 u2 H locs w2 hW => ?_)
  have hW : Wd D A s.heap H locs (wM cI cZ mq ma mg mh mF mE) := hW
  replace w2 : (r1 = nI 1 ∧ (¬ inR r ((mg 2))) ∨ r1 = nI 0 ∧ ¬ (¬ inR r ((mg 2)))) := w2
  rcases w2 with ⟨w2, h2⟩ | ⟨w2, h2⟩
  · subst w2
    have gr := h2
    refine n_if_eq X 10 dX6_reading_5 (by decide) (by decide) (fun c5 => by exact absurd c5 (by decide)) (fun c5 => ?_)
    refine x_iconst (v := (-1 : Int32)) X dX6_reading_8 (by decide) ?_
    exact x_iret X hW rfl () ((by unfold aRead; (try rw [onR_out gr]); (try rfl))) (Eq.trans (Eq.trans (Eq.trans (congrArg (fun z => (wM cI cZ mq ma (sF mg 21 z) mh mF mE)) (show (mg 21) = (sRead (mg 2) (mg 21) r v (mg 21) (fun _ => mg 21 + 1)) from by unfold sRead; (try rw [onR_out gr]); (try rfl))) (congrArg (fun z => (wM cI cZ mq ma (sF mg 21 (sRead (mg 2) (mg 21) r v (mg 21) (fun _ => mg 21 + 1))) mh (sF mF 22 z) mE)) (show (mF 22) = (sRead (mg 2) (mg 21) r v (mF 22) (fun j => sF (mF 22) (mg 21) j)) from by unfold sRead; (try rw [onR_out gr]); (try rfl)))) (congrArg (fun z => (wM cI cZ mq ma (sF mg 21 (sRead (mg 2) (mg 21) r v (mg 21) (fun _ => mg 21 + 1))) mh (sF mF 22 (sRead (mg 2) (mg 21) r v (mF 22) (fun j => sF (mF 22) (mg 21) j))) (sF mE 23 z))) (show (mE 23) = (sRead (mg 2) (mg 21) r v (mE 23) (fun _ => sF (mE 23) (mg 21) v)) from by unfold sRead; (try rw [onR_out gr]); (try rfl)))) (congrArg (fun z => (wM cI cZ mq ma (sF mg 21 (sRead (mg 2) (mg 21) r v (mg 21) (fun _ => mg 21 + 1))) mh (sF (sF mF 22 (sRead (mg 2) (mg 21) r v (mF 22) (fun j => sF (mF 22) (mg 21) j))) 24 z) (sF mE 23 (sRead (mg 2) (mg 21) r v (mE 23) (fun _ => sF (mE 23) (mg 21) v))))) (show (mF 24) = (sRead (mg 2) (mg 21) r v (mF 24) (fun _ => sF (mF 24) (mg 21) d)) from by unfold sRead; (try rw [onR_out gr]); (try rfl)))) dX6_reading_9
  · subst w2
    obtain ⟨j, hj, rfl⟩ := inR_ex (Classical.not_not.mp h2) (by omega)
    refine n_if_eq X 10 dX6_reading_5 (by decide) (by decide) (fun c5 => ?_) (fun c5 => by exact absurd c5 (by decide))
    refine x_iload_n X dX6_reading_10 rfl (lv_at hl 2 rfl) ?_
    refine x_bipush (v := (-9 : Int32)) X dX6_reading_11 (by decide) ?_
    refine x_icmp_eq X 31 dX6_reading_13 (by decide) (fun c13 => ?_) (fun c13 => ?_)
    · have gok : v = -9 ∨ inR v 10 := by first | exact Or.inl c13 | exact Or.inr gv
      refine x_aload_n X dX6_reading_31 rfl (lv_at hl 0 rfl) ?_
      refine x_get X hW (v := .int (nI (mg 21))) hi6 0 rfl rfl 21 (by decide) (List.mem_of_getElem? (i := 2) rfl) rfl rfl dX6_reading_32 ?_
      refine x_bipush (v := nI 8) X dX6_reading_35 (by decide) ?_
      refine n_icmp_ne X 43 dX6_reading_37 (by decide) (by omega) (by decide) (fun c37 => ?_) (fun c37 => ?_)
      · refine x_aload_n X dX6_reading_43 rfl (lv_at hl 0 rfl) ?_
        refine x_get X hW (v := .ref (ma 22)) hi6 0 rfl rfl 22 (by decide) (List.mem_of_getElem? (i := 3) rfl) rfl rfl dX6_reading_44 ?_
        refine x_aload_n X dX6_reading_47 rfl (lv_at hl 0 rfl) ?_
        refine x_get X hW (v := .int (nI (mg 21))) hi6 0 rfl rfl 21 (by decide) (List.mem_of_getElem? (i := 2) rfl) rfl rfl dX6_reading_48 ?_
        refine x_iload_n X dX6_reading_51 rfl (lv_at hl 1 rfl) ?_
        refine n_iast X hW (f := mF 22) 11 0 rfl rfl (by omega) (by decide) dX6_reading_52 (wM cI cZ mq ma mg mh (sF mF 22 (sF (mF 22) (mg 21) j)) mE) rfl (fun H locs hW => ?_)
        refine x_aload_n X dX6_reading_53 rfl (lv_at hl 0 rfl) ?_
        refine x_get X hW (v := .ref (ma 23)) hi6 0 rfl rfl 23 (by decide) (List.mem_of_getElem? (i := 4) rfl) rfl rfl dX6_reading_54 ?_
        refine x_aload_n X dX6_reading_57 rfl (lv_at hl 0 rfl) ?_
        refine x_get X hW (v := .int (nI (mg 21))) hi6 0 rfl rfl 21 (by decide) (List.mem_of_getElem? (i := 2) rfl) rfl rfl dX6_reading_58 ?_
        refine x_iload_n X dX6_reading_61 rfl (lv_at hl 2 rfl) ?_
        refine i_iast X hW (f := mE 23) 12 0 rfl rfl (by omega) (by decide) dX6_reading_62 (wM cI cZ mq ma mg mh (sF mF 22 (sF (mF 22) (mg 21) j)) (sF mE 23 (sF (mE 23) (mg 21) v))) rfl (fun H locs hW => ?_)
        refine x_aload_n X dX6_reading_63 rfl (lv_at hl 0 rfl) ?_
        refine x_get X hW (v := .ref (ma 24)) hi6 0 rfl rfl 24 (by decide) (List.mem_of_getElem? (i := 5) rfl) rfl rfl dX6_reading_64 ?_
        refine x_aload_n X dX6_reading_67 rfl (lv_at hl 0 rfl) ?_
        refine x_get X hW (v := .int (nI (mg 21))) hi6 0 rfl rfl 21 (by decide) (List.mem_of_getElem? (i := 2) rfl) rfl rfl dX6_reading_68 ?_
        refine x_iload_n X dX6_reading_71 rfl (lv_at hl 3 rfl) ?_
        refine n_zast X hW (f := mF 24) 13 1 rfl rfl (by omega) (by decide) (by omega) dX6_reading_72 (wM cI cZ mq ma mg mh (sF (sF mF 22 (sF (mF 22) (mg 21) j)) 24 (sF (mF 24) (mg 21) d)) (sF mE 23 (sF (mE 23) (mg 21) v))) rfl (fun H locs hW => ?_)
        refine x_aload_n X dX6_reading_73 rfl (lv_at hl 0 rfl) ?_
        refine x_dup X dX6_reading_74 rfl ?_
        refine x_get X hW (v := .int (nI (mg 21))) hi6 0 rfl rfl 21 (by decide) (List.mem_of_getElem? (i := 2) rfl) rfl rfl dX6_reading_75 ?_
        refine x_iconst (v := nI 1) X dX6_reading_78 (by decide) ?_
        refine n_iadd X dX6_reading_79 ?_
        refine x_put X hW (v := .int (nI (mg 21 + 1))) hi6 tyX6 tyX6_ok nmX6 0 rfl rfl 21 (by decide) (List.mem_of_getElem? (i := 2) rfl) rfl rfl rfl rfl (Nat.le_of_ble_eq_true rfl) dX6_reading_80 (wM cI cZ mq ma (sF mg 21 (mg 21 + 1)) mh (sF (sF mF 22 (sF (mF 22) (mg 21) j)) 24 (sF (mF 24) (mg 21) d)) (sF mE 23 (sF (mE 23) (mg 21) v))) rfl (fun H locs hW => ?_)
        refine x_aload_n X dX6_reading_83 rfl (lv_at hl 0 rfl) ?_
        refine x_get X hW (v := .int (nI (mg 21 + 1))) hi6 0 rfl rfl 21 (by decide) (List.mem_of_getElem? (i := 2) rfl) rfl rfl dX6_reading_84 ?_
        refine x_iconst (v := nI 1) X dX6_reading_87 (by decide) ?_
        refine n_isub X dX6_reading_88 (by omega) ?_
        refine n_as0 (b := mg 21) (by omega) ?_
        exact x_iret X hW rfl () ((by unfold aRead; (try rw [onR_in hj (by omega)]); (try rw [if_neg (not_not_intro gok)]); (try rw [if_neg (show ¬ mg 21 = 8 by omega)]); (try rfl))) (Eq.trans (Eq.trans (Eq.trans (congrArg (fun z => (wM cI cZ mq ma (sF mg 21 z) mh (sF (sF mF 22 (sF (mF 22) (mg 21) j)) 24 (sF (mF 24) (mg 21) d)) (sF mE 23 (sF (mE 23) (mg 21) v)))) (show (mg 21 + 1) = (sRead (mg 2) (mg 21) (nI j) v (mg 21) (fun _ => mg 21 + 1)) from by unfold sRead; (try rw [onR_in hj (by omega)]); (try rw [if_neg (not_not_intro gok)]); (try rw [if_neg (show ¬ mg 21 = 8 by omega)]); (try rfl))) (congrArg (fun z => (wM cI cZ mq ma (sF mg 21 (sRead (mg 2) (mg 21) (nI j) v (mg 21) (fun _ => mg 21 + 1))) mh (sF (sF mF 22 z) 24 (sF (mF 24) (mg 21) d)) (sF mE 23 (sF (mE 23) (mg 21) v)))) (show (sF (mF 22) (mg 21) j) = (sRead (mg 2) (mg 21) (nI j) v (mF 22) (fun j => sF (mF 22) (mg 21) j)) from by unfold sRead; (try rw [onR_in hj (by omega)]); (try rw [if_neg (not_not_intro gok)]); (try rw [if_neg (show ¬ mg 21 = 8 by omega)]); (try rfl)))) (congrArg (fun z => (wM cI cZ mq ma (sF mg 21 (sRead (mg 2) (mg 21) (nI j) v (mg 21) (fun _ => mg 21 + 1))) mh (sF (sF mF 22 (sRead (mg 2) (mg 21) (nI j) v (mF 22) (fun j => sF (mF 22) (mg 21) j))) 24 (sF (mF 24) (mg 21) d)) (sF mE 23 z))) (show (sF (mE 23) (mg 21) v) = (sRead (mg 2) (mg 21) (nI j) v (mE 23) (fun _ => sF (mE 23) (mg 21) v)) from by unfold sRead; (try rw [onR_in hj (by omega)]); (try rw [if_neg (not_not_intro gok)]); (try rw [if_neg (show ¬ mg 21 = 8 by omega)]); (try rfl)))) (congrArg (fun z => (wM cI cZ mq ma (sF mg 21 (sRead (mg 2) (mg 21) (nI j) v (mg 21) (fun _ => mg 21 + 1))) mh (sF (sF mF 22 (sRead (mg 2) (mg 21) (nI j) v (mF 22) (fun j => sF (mF 22) (mg 21) j))) 24 z) (sF mE 23 (sRead (mg 2) (mg 21) (nI j) v (mE 23) (fun _ => sF (mE 23) (mg 21) v))))) (show (sF (mF 24) (mg 21) d) = (sRead (mg 2) (mg 21) (nI j) v (mF 24) (fun _ => sF (mF 24) (mg 21) d)) from by unfold sRead; (try rw [onR_in hj (by omega)]); (try rw [if_neg (not_not_intro gok)]); (try rw [if_neg (show ¬ mg 21 = 8 by omega)]); (try rfl)))) dX6_reading_89
      · refine x_bipush (v := (-4 : Int32)) X dX6_reading_40 (by decide) ?_
        exact x_iret X hW rfl () ((by unfold aRead; (try rw [onR_in hj (by omega)]); (try rw [if_neg (not_not_intro gok)]); (try rw [if_pos (show mg 21 = 8 by omega)]); (try rfl))) (Eq.trans (Eq.trans (Eq.trans (congrArg (fun z => (wM cI cZ mq ma (sF mg 21 z) mh mF mE)) (show (mg 21) = (sRead (mg 2) (mg 21) (nI j) v (mg 21) (fun _ => mg 21 + 1)) from by unfold sRead; (try rw [onR_in hj (by omega)]); (try rw [if_neg (not_not_intro gok)]); (try rw [if_pos (show mg 21 = 8 by omega)]); (try rfl))) (congrArg (fun z => (wM cI cZ mq ma (sF mg 21 (sRead (mg 2) (mg 21) (nI j) v (mg 21) (fun _ => mg 21 + 1))) mh (sF mF 22 z) mE)) (show (mF 22) = (sRead (mg 2) (mg 21) (nI j) v (mF 22) (fun j => sF (mF 22) (mg 21) j)) from by unfold sRead; (try rw [onR_in hj (by omega)]); (try rw [if_neg (not_not_intro gok)]); (try rw [if_pos (show mg 21 = 8 by omega)]); (try rfl)))) (congrArg (fun z => (wM cI cZ mq ma (sF mg 21 (sRead (mg 2) (mg 21) (nI j) v (mg 21) (fun _ => mg 21 + 1))) mh (sF mF 22 (sRead (mg 2) (mg 21) (nI j) v (mF 22) (fun j => sF (mF 22) (mg 21) j))) (sF mE 23 z))) (show (mE 23) = (sRead (mg 2) (mg 21) (nI j) v (mE 23) (fun _ => sF (mE 23) (mg 21) v)) from by unfold sRead; (try rw [onR_in hj (by omega)]); (try rw [if_neg (not_not_intro gok)]); (try rw [if_pos (show mg 21 = 8 by omega)]); (try rfl)))) (congrArg (fun z => (wM cI cZ mq ma (sF mg 21 (sRead (mg 2) (mg 21) (nI j) v (mg 21) (fun _ => mg 21 + 1))) mh (sF (sF mF 22 (sRead (mg 2) (mg 21) (nI j) v (mF 22) (fun j => sF (mF 22) (mg 21) j))) 24 z) (sF mE 23 (sRead (mg 2) (mg 21) (nI j) v (mE 23) (fun _ => sF (mE 23) (mg 21) v))))) (show (mF 24) = (sRead (mg 2) (mg 21) (nI j) v (mF 24) (fun _ => sF (mF 24) (mg 21) d)) from by unfold sRead; (try rw [onR_in hj (by omega)]); (try rw [if_neg (not_not_intro gok)]); (try rw [if_pos (show mg 21 = 8 by omega)]); (try rfl)))) dX6_reading_42
    · refine x_iload_n X dX6_reading_16 rfl (lv_at hl 2 rfl) ?_
      refine x_i2l (v := v.toInt64) X dX6_reading_17 rfl ?_
      refine x_lconst (v := 0) X dX6_reading_18 (by decide) ?_
      refine x_ldc2 (v := (9)) X (List.mem_of_getElem? (i := 1) rfl) dX6_reading_19 ?_
      refine x_callSie X hW (As := [.long v.toInt64, .long (0 : Int64), .long (9 : Int64)]) (rest := []) (c_X6_in l D cI cZ cO  _ v.toInt64 (0 : Int64) (9 : Int64)) (va_cwS 3 X.2.2.2.2.2.1 gX6_reading_X6_in rfl rfl rfl (by decide +kernel) ⟨Nat.le_of_ble_eq_true rfl, Nat.le_of_ble_eq_true rfl⟩) rfl hl.1 rfl (Nat.le_of_ble_eq_true rfl) ⟨Nat.le_of_ble_eq_true rfl, Nat.le_of_ble_eq_true rfl⟩ dX6_reading_22 (fun r3 u4 H locs w22 hW => ?_)
      have hW : Wd D A s.heap H locs (wM cI cZ mq ma mg mh mF mE) := hW
      replace w22 : (r3 = nI 1 ∧ ((0 : Int64).toInt ≤ v.toInt64.toInt ∧ v.toInt64.toInt ≤ (9 : Int64).toInt) ∨ r3 = nI 0 ∧ ¬ ((0 : Int64).toInt ≤ v.toInt64.toInt ∧ v.toInt64.toInt ≤ (9 : Int64).toInt)) := w22
      rcases w22 with ⟨w22, h22⟩ | ⟨w22, h22⟩
      · subst w22
        have gv := (in_iff (r := v) (n := 10) l_0 (by decide)).mp h22
        refine n_if_ne X 31 dX6_reading_25 (by decide) (by decide) (fun c25 => ?_) (fun c25 => by exact absurd c25 (by decide))
        have gok : v = -9 ∨ inR v 10 := by first | exact Or.inl c13 | exact Or.inr gv
        refine x_aload_n X dX6_reading_31 rfl (lv_at hl 0 rfl) ?_
        refine x_get X hW (v := .int (nI (mg 21))) hi6 0 rfl rfl 21 (by decide) (List.mem_of_getElem? (i := 2) rfl) rfl rfl dX6_reading_32 ?_
        refine x_bipush (v := nI 8) X dX6_reading_35 (by decide) ?_
        refine n_icmp_ne X 43 dX6_reading_37 (by decide) (by omega) (by decide) (fun c37 => ?_) (fun c37 => ?_)
        · refine x_aload_n X dX6_reading_43 rfl (lv_at hl 0 rfl) ?_
          refine x_get X hW (v := .ref (ma 22)) hi6 0 rfl rfl 22 (by decide) (List.mem_of_getElem? (i := 3) rfl) rfl rfl dX6_reading_44 ?_
          refine x_aload_n X dX6_reading_47 rfl (lv_at hl 0 rfl) ?_
          refine x_get X hW (v := .int (nI (mg 21))) hi6 0 rfl rfl 21 (by decide) (List.mem_of_getElem? (i := 2) rfl) rfl rfl dX6_reading_48 ?_
          refine x_iload_n X dX6_reading_51 rfl (lv_at hl 1 rfl) ?_
          refine n_iast X hW (f := mF 22) 11 0 rfl rfl (by omega) (by decide) dX6_reading_52 (wM cI cZ mq ma mg mh (sF mF 22 (sF (mF 22) (mg 21) j)) mE) rfl (fun H locs hW => ?_)
          refine x_aload_n X dX6_reading_53 rfl (lv_at hl 0 rfl) ?_
          refine x_get X hW (v := .ref (ma 23)) hi6 0 rfl rfl 23 (by decide) (List.mem_of_getElem? (i := 4) rfl) rfl rfl dX6_reading_54 ?_
          refine x_aload_n X dX6_reading_57 rfl (lv_at hl 0 rfl) ?_
          refine x_get X hW (v := .int (nI (mg 21))) hi6 0 rfl rfl 21 (by decide) (List.mem_of_getElem? (i := 2) rfl) rfl rfl dX6_reading_58 ?_
          refine x_iload_n X dX6_reading_61 rfl (lv_at hl 2 rfl) ?_
          refine i_iast X hW (f := mE 23) 12 0 rfl rfl (by omega) (by decide) dX6_reading_62 (wM cI cZ mq ma mg mh (sF mF 22 (sF (mF 22) (mg 21) j)) (sF mE 23 (sF (mE 23) (mg 21) v))) rfl (fun H locs hW => ?_)
          refine x_aload_n X dX6_reading_63 rfl (lv_at hl 0 rfl) ?_
          refine x_get X hW (v := .ref (ma 24)) hi6 0 rfl rfl 24 (by decide) (List.mem_of_getElem? (i := 5) rfl) rfl rfl dX6_reading_64 ?_
          refine x_aload_n X dX6_reading_67 rfl (lv_at hl 0 rfl) ?_
          refine x_get X hW (v := .int (nI (mg 21))) hi6 0 rfl rfl 21 (by decide) (List.mem_of_getElem? (i := 2) rfl) rfl rfl dX6_reading_68 ?_
          refine x_iload_n X dX6_reading_71 rfl (lv_at hl 3 rfl) ?_
          refine n_zast X hW (f := mF 24) 13 1 rfl rfl (by omega) (by decide) (by omega) dX6_reading_72 (wM cI cZ mq ma mg mh (sF (sF mF 22 (sF (mF 22) (mg 21) j)) 24 (sF (mF 24) (mg 21) d)) (sF mE 23 (sF (mE 23) (mg 21) v))) rfl (fun H locs hW => ?_)
          refine x_aload_n X dX6_reading_73 rfl (lv_at hl 0 rfl) ?_
          refine x_dup X dX6_reading_74 rfl ?_
          refine x_get X hW (v := .int (nI (mg 21))) hi6 0 rfl rfl 21 (by decide) (List.mem_of_getElem? (i := 2) rfl) rfl rfl dX6_reading_75 ?_
          refine x_iconst (v := nI 1) X dX6_reading_78 (by decide) ?_
          refine n_iadd X dX6_reading_79 ?_
          refine x_put X hW (v := .int (nI (mg 21 + 1))) hi6 tyX6 tyX6_ok nmX6 0 rfl rfl 21 (by decide) (List.mem_of_getElem? (i := 2) rfl) rfl rfl rfl rfl (Nat.le_of_ble_eq_true rfl) dX6_reading_80 (wM cI cZ mq ma (sF mg 21 (mg 21 + 1)) mh (sF (sF mF 22 (sF (mF 22) (mg 21) j)) 24 (sF (mF 24) (mg 21) d)) (sF mE 23 (sF (mE 23) (mg 21) v))) rfl (fun H locs hW => ?_)
          refine x_aload_n X dX6_reading_83 rfl (lv_at hl 0 rfl) ?_
          refine x_get X hW (v := .int (nI (mg 21 + 1))) hi6 0 rfl rfl 21 (by decide) (List.mem_of_getElem? (i := 2) rfl) rfl rfl dX6_reading_84 ?_
          refine x_iconst (v := nI 1) X dX6_reading_87 (by decide) ?_
          refine n_isub X dX6_reading_88 (by omega) ?_
          refine n_as0 (b := mg 21) (by omega) ?_
          exact x_iret X hW rfl () ((by unfold aRead; (try rw [onR_in hj (by omega)]); (try rw [if_neg (not_not_intro gok)]); (try rw [if_neg (show ¬ mg 21 = 8 by omega)]); (try rfl))) (Eq.trans (Eq.trans (Eq.trans (congrArg (fun z => (wM cI cZ mq ma (sF mg 21 z) mh (sF (sF mF 22 (sF (mF 22) (mg 21) j)) 24 (sF (mF 24) (mg 21) d)) (sF mE 23 (sF (mE 23) (mg 21) v)))) (show (mg 21 + 1) = (sRead (mg 2) (mg 21) (nI j) v (mg 21) (fun _ => mg 21 + 1)) from by unfold sRead; (try rw [onR_in hj (by omega)]); (try rw [if_neg (not_not_intro gok)]); (try rw [if_neg (show ¬ mg 21 = 8 by omega)]); (try rfl))) (congrArg (fun z => (wM cI cZ mq ma (sF mg 21 (sRead (mg 2) (mg 21) (nI j) v (mg 21) (fun _ => mg 21 + 1))) mh (sF (sF mF 22 z) 24 (sF (mF 24) (mg 21) d)) (sF mE 23 (sF (mE 23) (mg 21) v)))) (show (sF (mF 22) (mg 21) j) = (sRead (mg 2) (mg 21) (nI j) v (mF 22) (fun j => sF (mF 22) (mg 21) j)) from by unfold sRead; (try rw [onR_in hj (by omega)]); (try rw [if_neg (not_not_intro gok)]); (try rw [if_neg (show ¬ mg 21 = 8 by omega)]); (try rfl)))) (congrArg (fun z => (wM cI cZ mq ma (sF mg 21 (sRead (mg 2) (mg 21) (nI j) v (mg 21) (fun _ => mg 21 + 1))) mh (sF (sF mF 22 (sRead (mg 2) (mg 21) (nI j) v (mF 22) (fun j => sF (mF 22) (mg 21) j))) 24 (sF (mF 24) (mg 21) d)) (sF mE 23 z))) (show (sF (mE 23) (mg 21) v) = (sRead (mg 2) (mg 21) (nI j) v (mE 23) (fun _ => sF (mE 23) (mg 21) v)) from by unfold sRead; (try rw [onR_in hj (by omega)]); (try rw [if_neg (not_not_intro gok)]); (try rw [if_neg (show ¬ mg 21 = 8 by omega)]); (try rfl)))) (congrArg (fun z => (wM cI cZ mq ma (sF mg 21 (sRead (mg 2) (mg 21) (nI j) v (mg 21) (fun _ => mg 21 + 1))) mh (sF (sF mF 22 (sRead (mg 2) (mg 21) (nI j) v (mF 22) (fun j => sF (mF 22) (mg 21) j))) 24 z) (sF mE 23 (sRead (mg 2) (mg 21) (nI j) v (mE 23) (fun _ => sF (mE 23) (mg 21) v))))) (show (sF (mF 24) (mg 21) d) = (sRead (mg 2) (mg 21) (nI j) v (mF 24) (fun _ => sF (mF 24) (mg 21) d)) from by unfold sRead; (try rw [onR_in hj (by omega)]); (try rw [if_neg (not_not_intro gok)]); (try rw [if_neg (show ¬ mg 21 = 8 by omega)]); (try rfl)))) dX6_reading_89
        · refine x_bipush (v := (-4 : Int32)) X dX6_reading_40 (by decide) ?_
          exact x_iret X hW rfl () ((by unfold aRead; (try rw [onR_in hj (by omega)]); (try rw [if_neg (not_not_intro gok)]); (try rw [if_pos (show mg 21 = 8 by omega)]); (try rfl))) (Eq.trans (Eq.trans (Eq.trans (congrArg (fun z => (wM cI cZ mq ma (sF mg 21 z) mh mF mE)) (show (mg 21) = (sRead (mg 2) (mg 21) (nI j) v (mg 21) (fun _ => mg 21 + 1)) from by unfold sRead; (try rw [onR_in hj (by omega)]); (try rw [if_neg (not_not_intro gok)]); (try rw [if_pos (show mg 21 = 8 by omega)]); (try rfl))) (congrArg (fun z => (wM cI cZ mq ma (sF mg 21 (sRead (mg 2) (mg 21) (nI j) v (mg 21) (fun _ => mg 21 + 1))) mh (sF mF 22 z) mE)) (show (mF 22) = (sRead (mg 2) (mg 21) (nI j) v (mF 22) (fun j => sF (mF 22) (mg 21) j)) from by unfold sRead; (try rw [onR_in hj (by omega)]); (try rw [if_neg (not_not_intro gok)]); (try rw [if_pos (show mg 21 = 8 by omega)]); (try rfl)))) (congrArg (fun z => (wM cI cZ mq ma (sF mg 21 (sRead (mg 2) (mg 21) (nI j) v (mg 21) (fun _ => mg 21 + 1))) mh (sF mF 22 (sRead (mg 2) (mg 21) (nI j) v (mF 22) (fun j => sF (mF 22) (mg 21) j))) (sF mE 23 z))) (show (mE 23) = (sRead (mg 2) (mg 21) (nI j) v (mE 23) (fun _ => sF (mE 23) (mg 21) v)) from by unfold sRead; (try rw [onR_in hj (by omega)]); (try rw [if_neg (not_not_intro gok)]); (try rw [if_pos (show mg 21 = 8 by omega)]); (try rfl)))) (congrArg (fun z => (wM cI cZ mq ma (sF mg 21 (sRead (mg 2) (mg 21) (nI j) v (mg 21) (fun _ => mg 21 + 1))) mh (sF (sF mF 22 (sRead (mg 2) (mg 21) (nI j) v (mF 22) (fun j => sF (mF 22) (mg 21) j))) 24 z) (sF mE 23 (sRead (mg 2) (mg 21) (nI j) v (mE 23) (fun _ => sF (mE 23) (mg 21) v))))) (show (mF 24) = (sRead (mg 2) (mg 21) (nI j) v (mF 24) (fun _ => sF (mF 24) (mg 21) d)) from by unfold sRead; (try rw [onR_in hj (by omega)]); (try rw [if_neg (not_not_intro gok)]); (try rw [if_pos (show mg 21 = 8 by omega)]); (try rfl)))) dX6_reading_42
      · subst w22
        have gv := fun q => h22 ((in_iff (r := v) (n := 10) l_0 (by decide)).mpr q)
        refine n_if_ne X 31 dX6_reading_25 (by decide) (by decide) (fun c25 => by exact absurd c25 (by decide)) (fun c25 => ?_)
        refine x_bipush (v := (-2 : Int32)) X dX6_reading_28 (by decide) ?_
        exact x_iret X hW rfl () ((by unfold aRead; (try rw [onR_in hj (by omega)]); (try rw [if_pos (fun q => q.elim c13 gv)]); (try rfl))) (Eq.trans (Eq.trans (Eq.trans (congrArg (fun z => (wM cI cZ mq ma (sF mg 21 z) mh mF mE)) (show (mg 21) = (sRead (mg 2) (mg 21) (nI j) v (mg 21) (fun _ => mg 21 + 1)) from by unfold sRead; (try rw [onR_in hj (by omega)]); (try rw [if_pos (fun q => q.elim c13 gv)]); (try rfl))) (congrArg (fun z => (wM cI cZ mq ma (sF mg 21 (sRead (mg 2) (mg 21) (nI j) v (mg 21) (fun _ => mg 21 + 1))) mh (sF mF 22 z) mE)) (show (mF 22) = (sRead (mg 2) (mg 21) (nI j) v (mF 22) (fun j => sF (mF 22) (mg 21) j)) from by unfold sRead; (try rw [onR_in hj (by omega)]); (try rw [if_pos (fun q => q.elim c13 gv)]); (try rfl)))) (congrArg (fun z => (wM cI cZ mq ma (sF mg 21 (sRead (mg 2) (mg 21) (nI j) v (mg 21) (fun _ => mg 21 + 1))) mh (sF mF 22 (sRead (mg 2) (mg 21) (nI j) v (mF 22) (fun j => sF (mF 22) (mg 21) j))) (sF mE 23 z))) (show (mE 23) = (sRead (mg 2) (mg 21) (nI j) v (mE 23) (fun _ => sF (mE 23) (mg 21) v)) from by unfold sRead; (try rw [onR_in hj (by omega)]); (try rw [if_pos (fun q => q.elim c13 gv)]); (try rfl)))) (congrArg (fun z => (wM cI cZ mq ma (sF mg 21 (sRead (mg 2) (mg 21) (nI j) v (mg 21) (fun _ => mg 21 + 1))) mh (sF (sF mF 22 (sRead (mg 2) (mg 21) (nI j) v (mF 22) (fun j => sF (mF 22) (mg 21) j))) 24 z) (sF mE 23 (sRead (mg 2) (mg 21) (nI j) v (mE 23) (fun _ => sF (mE 23) (mg 21) v))))) (show (mF 24) = (sRead (mg 2) (mg 21) (nI j) v (mF 24) (fun _ => sF (mF 24) (mg 21) d)) from by unfold sRead; (try rw [onR_in hj (by omega)]); (try rw [if_pos (fun q => q.elim c13 gv)]); (try rfl)))) dX6_reading_30
set_option maxHeartbeats 4000000 in
set_option maxRecDepth 100000 in
theorem c_X6_back (l : Launch) (D : va_G) (cI cZ cO : ClassId) (mq : Nat) (ma : Nat → Nat) (mg : Nat → Nat) (mh : Nat → Int32) (mF : Nat → Nat → Nat) (mE : Nat → Nat → Int32) (sz : Nat) (k : Int32)  (hrc : mg 21 ≤ 8) : Met l yX6_back wsX6_back ({ frames := 1, cells := 0, slots := 0, locals := 25 }) (va_Pc [.ref mq, .int k] (st_W D (ty3 cI cZ cO) (wM cI cZ mq ma mg mh mF mE) sz)) (va_Qi (fun (rr : Int32) (u : Unit) => rr = aBack (mg 21) k) (fun u t => at_W D (ty3 cI cZ cO) (va_A (wM cI cZ mq ma mg mh mF mE) sz) (wM cI cZ mq ma (sF mg 21 (sBack (mg 21) k)) mh mF mE) t) (va_A (wM cI cZ mq ma mg mh mF mE) sz)) 0 0 (va_A (wM cI cZ mq ma mg mh mF mE) sz) := by
  refine Met.goi (cc := cX6_back) (maxL := 2) (ret := (some .int)) (by decide) rfl (Nat.le_of_ble_eq_true rfl) (fun p e s m below meth c A ls X hW hl => ?_)
  have hi6 : ∀ w ∈ wsX60, w ∈ wsX6_back := fun w h => List.mem_cons_of_mem _ (List.mem_append_right _ h)
  have hl : lv_has ls 2 [(0, .ref mq), (1, .int k)] := hl
  refine x_iload_n X dX6_back_0 rfl (lv_at hl 1 rfl) ?_
  refine x_i2l (v := k.toInt64) X dX6_back_1 rfl ?_
  refine x_lconst (v := 0) X dX6_back_2 (by decide) ?_
  refine x_aload_n X dX6_back_3 rfl (lv_at hl 0 rfl) ?_
  refine x_get X hW (v := .int (nI (mg 21))) hi6 0 rfl rfl 21 (by decide) (List.mem_of_getElem? (i := 1) rfl) rfl rfl dX6_back_4 ?_
  refine x_i2l (v := (nI (mg 21)).toInt64) X dX6_back_7 rfl ?_
  refine x_callSie X hW (As := [.long k.toInt64, .long (0 : Int64), .long ((nI (mg 21)).toInt64)]) (rest := []) (c_X6_in l D cI cZ cO  _ k.toInt64 (0 : Int64) ((nI (mg 21)).toInt64)) (va_cwS 3 X.2.2.2.2.2.1 gX6_back_X6_in rfl rfl rfl (by decide +kernel) ⟨Nat.le_of_ble_eq_true rfl, Nat.le_of_ble_eq_true rfl⟩) rfl hl.1 rfl (Nat.le_of_ble_eq_true rfl) ⟨Nat.le_of_ble_eq_true rfl, Nat.le_of_ble_eq_true rfl⟩ dX6_back_8 (fun r1 u2 H locs w8 hW => ?_)
  have hW : Wd D A s.heap H locs (wM cI cZ mq ma mg mh mF mE) := hW
  replace w8 : (r1 = nI 1 ∧ ((0 : Int64).toInt ≤ k.toInt64.toInt ∧ k.toInt64.toInt ≤ ((nI (mg 21)).toInt64).toInt) ∨ r1 = nI 0 ∧ ¬ ((0 : Int64).toInt ≤ k.toInt64.toInt ∧ k.toInt64.toInt ≤ ((nI (mg 21)).toInt64).toInt)) := w8
  rcases w8 with ⟨w8, h8⟩ | ⟨w8, h8⟩
  · subst w8
    obtain ⟨kk, hkk, rfl⟩ := inR_ex ((in_iff (r := k) (n := mg 21 + 1) l_0 (by rw [wide, nI_toInt (by omega)]; omega)).mp h8) (by omega)
    refine n_if_ne X 17 dX6_back_11 (by decide) (by decide) (fun c11 => ?_) (fun c11 => by exact absurd c11 (by decide))
    refine x_aload_n X dX6_back_17 rfl (lv_at hl 0 rfl) ?_
    refine x_dup X dX6_back_18 rfl ?_
    refine x_get X hW (v := .int (nI (mg 21))) hi6 0 rfl rfl 21 (by decide) (List.mem_of_getElem? (i := 1) rfl) rfl rfl dX6_back_19 ?_
    refine x_iload_n X dX6_back_22 rfl (lv_at hl 1 rfl) ?_
    refine n_isub X dX6_back_23 (by omega) ?_
    refine x_put X hW (v := .int (nI (mg 21 - kk))) hi6 tyX6 tyX6_ok nmX6 0 rfl rfl 21 (by decide) (List.mem_of_getElem? (i := 1) rfl) rfl rfl rfl rfl (Nat.le_of_ble_eq_true rfl) dX6_back_24 (wM cI cZ mq ma (sF mg 21 (mg 21 - kk)) mh mF mE) rfl (fun H locs hW => ?_)
    refine x_aload_n X dX6_back_27 rfl (lv_at hl 0 rfl) ?_
    refine x_get X hW (v := .int (nI (mg 21 - kk))) hi6 0 rfl rfl 21 (by decide) (List.mem_of_getElem? (i := 1) rfl) rfl rfl dX6_back_28 ?_
    exact x_iret X hW rfl () ((by unfold aBack; (try rw [onR_in hkk (by omega)]); (try rfl))) (congrArg (fun z => (wM cI cZ mq ma (sF mg 21 z) mh mF mE)) (show (mg 21 - kk) = (sBack (mg 21) (nI kk)) from by unfold sBack; (try rw [onR_in hkk (by omega)]); (try rfl))) dX6_back_31
  · subst w8
    have gk := fun q => h8 ((in_iff (r := k) (n := mg 21 + 1) l_0 (by rw [wide, nI_toInt (by omega)]; omega)).mpr q)
    refine n_if_ne X 17 dX6_back_11 (by decide) (by decide) (fun c11 => by exact absurd c11 (by decide)) (fun c11 => ?_)
    refine x_bipush (v := (-2 : Int32)) X dX6_back_14 (by decide) ?_
    exact x_iret X hW rfl () ((by unfold aBack; (try rw [onR_out gk]); (try rfl))) (congrArg (fun z => (wM cI cZ mq ma (sF mg 21 z) mh mF mE)) (show (mg 21) = (sBack (mg 21) k) from by unfold sBack; (try rw [onR_out gk]); (try rfl))) dX6_back_16
set_option maxHeartbeats 4000000 in
set_option maxRecDepth 100000 in
theorem c_X6_areSo (l : Launch) (D : va_G) (cI cZ cO : ClassId) (mq : Nat) (ma : Nat → Nat) (mg : Nat → Nat) (mh : Nat → Int32) (mF : Nat → Nat → Nat) (mE : Nat → Nat → Int32) (sz : Nat)   (hn : mg 2 ≤ 4) (hrc : mg 21 ≤ 8) (hro : ∀ z0, z0 < mg 21 → mF 22 z0 < 4) (hra : ∀ z0, z0 < mg 21 → okA (mE 23 z0)) (hrd : ∀ z0, mF 24 z0 ≤ 1) (hk : ∀ z0, mF 3 z0 ≤ 2) (hlv : ∀ z0, mF 4 z0 ≤ 9) (hm : ∀ z0, mF 5 z0 ≤ 9) : Met l yX6_areSo wsX6_areSo ({ frames := 1, cells := 0, slots := 0, locals := 22 }) (va_Pc [.ref mq] (st_W D (ty3 cI cZ cO) (wM cI cZ mq ma mg mh mF mE) sz)) (va_Qi (fun (rr : Int32) (u : Unit) => (rr = nI 1 ∧ (fitP (mg 21) (mF 22) (mE 23) (mF 24) (mF 3) (mF 4) (mF 5)) ∨ rr = nI 0 ∧ ¬ (fitP (mg 21) (mF 22) (mE 23) (mF 24) (mF 3) (mF 4) (mF 5)))) (fun u t => at_W D (ty3 cI cZ cO) (va_A (wM cI cZ mq ma mg mh mF mE) sz) (wM cI cZ mq ma mg mh mF mE) t) (va_A (wM cI cZ mq ma mg mh mF mE) sz)) 0 0 (va_A (wM cI cZ mq ma mg mh mF mE) sz) := by
  refine Met.goi (cc := cX6_areSo) (maxL := 5) (ret := (some .boolean)) (by decide) rfl (Nat.le_of_ble_eq_true rfl) (fun p e s m below meth c A ls X hW hl => ?_)
  have hi6 : ∀ w ∈ wsX60, w ∈ wsX6_areSo := fun w h => List.mem_cons_of_mem _ (List.mem_append_right _ h)
  have hl : lv_has ls 5 [(0, .ref mq)] := hl
  refine x_iconst (v := nI 1) X dX6_areSo_0 (by decide) ?_
  refine x_istore_n X [(1, .int (nI 1)), (0, .ref mq)] dX6_areSo_1 rfl hl (by decide) rfl (fun ls hl => ?_)
  refine x_iconst (v := nI 0) X dX6_areSo_2 (by decide) ?_
  refine x_istore_n X [(2, .int (nI 0)), (1, .int (nI 1)), (0, .ref mq)] dX6_areSo_3 rfl hl (by decide) rfl (fun ls hl => ?_)
  refine W.loop (σ := (Nat) × (Nat)) (fun u H locs ls => (u.1 ≤ mg 21 ∧ ((u.2 = 1 ∧ fitP u.1 (mF 22) (mE 23) (mF 24) (mF 3) (mF 4) (mF 5)) ∨ (u.2 = 0 ∧ ¬ fitP u.1 (mF 22) (mE 23) (mF 24) (mF 3) (mF 4) (mF 5)))) ∧ Wd D A s.heap H locs (wM cI cZ mq ma mg mh mF mE) ∧ lv_has ls 5 [(2, .int (nI u.1)), (1, .int (nI u.2)), (0, .ref mq)]) (fun u => mg 21 - u.1) (fun u H locs ls hI ih => ?_) (0, 1) ⟨(show 0 ≤ mg 21 ∧ ((1 = 1 ∧ fitP 0 (mF 22) (mE 23) (mF 24) (mF 3) (mF 4) (mF 5)) ∨ (1 = 0 ∧ ¬ fitP 0 (mF 22) (mE 23) (mF 24) (mF 3) (mF 4) (mF 5))) from ⟨Nat.zero_le _, Or.inl ⟨rfl, fun x h => absurd h (Nat.not_lt_zero x)⟩⟩), hW, hl⟩
  obtain ⟨i, b⟩ := u
  obtain ⟨hv, hW, hl⟩ := hI
  have hv : i ≤ mg 21 ∧ ((b = 1 ∧ fitP i (mF 22) (mE 23) (mF 24) (mF 3) (mF 4) (mF 5)) ∨ (b = 0 ∧ ¬ fitP i (mF 22) (mE 23) (mF 24) (mF 3) (mF 4) (mF 5))) := hv
  have hW : Wd D A s.heap H locs (wM cI cZ mq ma mg mh mF mE) := hW
  have hl : lv_has ls 5 [(2, .int (nI i)), (1, .int (nI b)), (0, .ref mq)] := hl
  have ih4 := ih
  refine x_iload_n X dX6_areSo_4 rfl (lv_at hl 0 rfl) ?_
  refine x_aload_n X dX6_areSo_5 rfl (lv_at hl 2 rfl) ?_
  refine x_get X hW (v := .int (nI (mg 21))) hi6 0 rfl rfl 21 (by decide) (List.mem_of_getElem? (i := 1) rfl) rfl rfl dX6_areSo_6 ?_
  refine n_icmp_ge X 85 dX6_areSo_9 (by decide) (by omega) (by omega) (fun c9 => ?_) (fun c9 => ?_)
  · have ei : i = mg 21 := by omega
    rcases hv.2 with ⟨rfl, hfi⟩ | ⟨rfl, hfi⟩
    · refine x_iload_n X dX6_areSo_85 rfl (lv_at hl 1 rfl) ?_
      exact x_zret X hW rfl (Or.inr (by decide)) () (Or.inl ⟨rfl, by rw [← ei]; exact hfi⟩) rfl dX6_areSo_86
    · refine x_iload_n X dX6_areSo_85 rfl (lv_at hl 1 rfl) ?_
      exact x_zret X hW rfl (Or.inl (by decide)) () (Or.inr ⟨rfl, by rw [← ei]; exact hfi⟩) rfl dX6_areSo_86
  · have b1 := hro i (by omega)
    have b2 := hrd i
    have b3 := want_le (mF 3 (mF 22 i)) (mF 5 (mF 22 i))
    have b4 := hm (mF 22 i)
    refine x_aload_n X dX6_areSo_12 rfl (lv_at hl 2 rfl) ?_
    refine x_get X hW (v := .ref (ma 22)) hi6 0 rfl rfl 22 (by decide) (List.mem_of_getElem? (i := 2) rfl) rfl rfl dX6_areSo_13 ?_
    refine x_iload_n X dX6_areSo_16 rfl (lv_at hl 0 rfl) ?_
    refine n_iald X hW (f := mF 22) 11 0 rfl rfl (by omega) (by decide) dX6_areSo_17 ?_
    refine x_istore_n X [(3, .int (nI (mF 22 i))), (2, .int (nI i)), (1, .int (nI b)), (0, .ref mq)] dX6_areSo_18 rfl hl (by decide) rfl (fun ls hl => ?_)
    refine W.cut (σ := (Int32)) (fun u H locs ls => (u = askI (mF 4) (mF 22 i) (mE 23 i)) ∧ Wd D A s.heap H locs (wM cI cZ mq ma mg mh mF mE) ∧ lv_has ls 5 [(3, .int (nI (mF 22 i))), (2, .int (nI i)), (1, .int (nI b)), (0, .ref mq)]) (fun u => [.int u]) 43 (fun u H locs ls hI => ?_) (fun kj43 => ?_)
    · obtain ⟨a, ae⟩ : ∃ z, z = u := ⟨_, rfl⟩
      subst ae
      obtain ⟨hj, hW, hl⟩ := hI
      have hj : a = askI (mF 4) (mF 22 i) (mE 23 i) := hj
      have hW : Wd D A s.heap H locs (wM cI cZ mq ma mg mh mF mE) := hW
      have hl : lv_has ls 5 [(3, .int (nI (mF 22 i))), (2, .int (nI i)), (1, .int (nI b)), (0, .ref mq)] := hl
      refine x_istore X [(4, .int a), (3, .int (nI (mF 22 i))), (2, .int (nI i)), (1, .int (nI b)), (0, .ref mq)] dX6_areSo_43 hl (by decide) rfl (fun ls hl => ?_)
      rcases hv.2 with ⟨rfl, hfi⟩ | ⟨rfl, hfi⟩
      · refine x_iload_n X dX6_areSo_45 rfl (lv_at hl 3 rfl) ?_
        refine n_if_eq X 77 dX6_areSo_46 (by decide) (by decide) (fun c46 => by exact absurd c46 (by decide)) (fun c46 => ?_)
        refine x_iload X dX6_areSo_49 (lv_at hl 0 rfl) ?_
        refine x_aload_n X dX6_areSo_51 rfl (lv_at hl 4 rfl) ?_
        refine x_iload_n X dX6_areSo_52 rfl (lv_at hl 1 rfl) ?_
        refine x_callVi0 X hW (As := [.int (nI (mF 22 i))]) (rest := [.int a]) (c_X6_wantOf l D cI cZ cO mq ma mg mh mF mE _ (mF 22 i) (show (mF 22 i) < 4 from (by first | assumption | omega)) (show ∀ z0, (mF 3) z0 ≤ 2 from (by first | assumption | omega)) (show ∀ z0, (mF 5) z0 ≤ 9 from (by first | assumption | omega))) (cwV 1 X.2.2.2.2.2.1 gX6_areSo_X6_wantOf rfl rfl rfl (by decide +kernel) ⟨Nat.le_of_ble_eq_true rfl, Nat.le_of_ble_eq_true rfl⟩) 0 5 rfl rfl rfl rfl hl.1 rfl (Nat.le_of_ble_eq_true rfl) ⟨Nat.le_of_ble_eq_true rfl, Nat.le_of_ble_eq_true rfl⟩ dX6_areSo_53 (fun r1 u2 H locs w53 hW => ?_)
        have hW : Wd D A s.heap H locs (wM cI cZ mq ma mg mh mF mE) := hW
        replace w53 : r1 = nI (want ((mF 3) (mF 22 i)) ((mF 5) (mF 22 i))) := w53
        subst w53
        refine x_icmp_ge X 63 dX6_areSo_56 (by decide) (fun c56 => ?_) (fun c56 => ?_)
        · have hb := Int32.not_lt.mpr c56
          refine x_iconst (v := nI 0) X dX6_areSo_63 (by decide) ?_
          refine x_aload_n X dX6_areSo_64 rfl (lv_at hl 4 rfl) ?_
          refine x_get X hW (v := .ref (ma 24)) hi6 0 rfl rfl 24 (by decide) (List.mem_of_getElem? (i := 5) rfl) rfl rfl dX6_areSo_65 ?_
          refine x_iload_n X dX6_areSo_68 rfl (lv_at hl 2 rfl) ?_
          refine n_zald X hW (f := mF 24) 13 1 rfl rfl (by omega) (by decide) dX6_areSo_69 ?_
          refine n_icmp_ne X 77 dX6_areSo_70 (by decide) (by decide) (by omega) (fun c70 => ?_) (fun c70 => ?_)
          · refine x_iconst (v := nI 0) X dX6_areSo_77 (by decide) ?_
            refine x_istore_n X [(1, .int (nI 0)), (4, .int a), (3, .int (nI (mF 22 i))), (2, .int (nI i)), (0, .ref mq)] dX6_areSo_78 rfl hl (by decide) rfl (fun ls hl => ?_)
            refine x_iinc X [(2, .int (nI (i + 1))), (1, .int (nI 0)), (4, .int a), (3, .int (nI (mF 22 i))), (0, .ref mq)] (k := 3) dX6_areSo_79 hl rfl (nI_inc1 i) (by decide) rfl (fun ls hl => ?_)
            refine x_goto X 4 dX6_areSo_82 (by decide) ?_
            exact ih4 ((i + 1), 0) _ _ _ ⟨(show (i + 1) ≤ mg 21 ∧ ((0 = 1 ∧ fitP (i + 1) (mF 22) (mE 23) (mF 24) (mF 3) (mF 4) (mF 5)) ∨ (0 = 0 ∧ ¬ fitP (i + 1) (mF 22) (mE 23) (mF 24) (mF 3) (mF 4) (mF 5))) from ⟨by omega, Or.inr ⟨rfl, fit_no (x := i) (by omega) (by unfold soP; rw [← hj]; first | exact fun q => by (have := q.mp hb; omega) | exact fun q => hb (q.mpr (by omega)))⟩⟩), hW, lv_sub hl [0, 1, 4] rfl⟩ (by omega)
          · have hso : soP (mF 3) (mF 4) (mF 5) (mF 22 i) (mE 23 i) (mF 24 i) := by unfold soP; rw [← hj]; first | exact ⟨fun _ => by omega, fun _ => hb⟩ | exact ⟨fun q => absurd q hb, fun q => by omega⟩
            refine x_iconst (v := nI 1) X dX6_areSo_73 (by decide) ?_
            refine x_goto X 78 dX6_areSo_74 (by decide) ?_
            refine x_istore_n X [(1, .int (nI 1)), (4, .int a), (3, .int (nI (mF 22 i))), (2, .int (nI i)), (0, .ref mq)] dX6_areSo_78 rfl hl (by decide) rfl (fun ls hl => ?_)
            refine x_iinc X [(2, .int (nI (i + 1))), (1, .int (nI 1)), (4, .int a), (3, .int (nI (mF 22 i))), (0, .ref mq)] (k := 3) dX6_areSo_79 hl rfl (nI_inc1 i) (by decide) rfl (fun ls hl => ?_)
            refine x_goto X 4 dX6_areSo_82 (by decide) ?_
            exact ih4 ((i + 1), 1) _ _ _ ⟨(show (i + 1) ≤ mg 21 ∧ ((1 = 1 ∧ fitP (i + 1) (mF 22) (mE 23) (mF 24) (mF 3) (mF 4) (mF 5)) ∨ (1 = 0 ∧ ¬ fitP (i + 1) (mF 22) (mE 23) (mF 24) (mF 3) (mF 4) (mF 5))) from ⟨by omega, Or.inl ⟨rfl, fit_s hfi hso⟩⟩), hW, lv_sub hl [0, 1, 4] rfl⟩ (by omega)
        · have hb := Int32.not_le.mp c56
          refine x_iconst (v := nI 1) X dX6_areSo_59 (by decide) ?_
          refine x_goto X 64 dX6_areSo_60 (by decide) ?_
          refine x_aload_n X dX6_areSo_64 rfl (lv_at hl 4 rfl) ?_
          refine x_get X hW (v := .ref (ma 24)) hi6 0 rfl rfl 24 (by decide) (List.mem_of_getElem? (i := 5) rfl) rfl rfl dX6_areSo_65 ?_
          refine x_iload_n X dX6_areSo_68 rfl (lv_at hl 2 rfl) ?_
          refine n_zald X hW (f := mF 24) 13 1 rfl rfl (by omega) (by decide) dX6_areSo_69 ?_
          refine n_icmp_ne X 77 dX6_areSo_70 (by decide) (by decide) (by omega) (fun c70 => ?_) (fun c70 => ?_)
          · refine x_iconst (v := nI 0) X dX6_areSo_77 (by decide) ?_
            refine x_istore_n X [(1, .int (nI 0)), (4, .int a), (3, .int (nI (mF 22 i))), (2, .int (nI i)), (0, .ref mq)] dX6_areSo_78 rfl hl (by decide) rfl (fun ls hl => ?_)
            refine x_iinc X [(2, .int (nI (i + 1))), (1, .int (nI 0)), (4, .int a), (3, .int (nI (mF 22 i))), (0, .ref mq)] (k := 3) dX6_areSo_79 hl rfl (nI_inc1 i) (by decide) rfl (fun ls hl => ?_)
            refine x_goto X 4 dX6_areSo_82 (by decide) ?_
            exact ih4 ((i + 1), 0) _ _ _ ⟨(show (i + 1) ≤ mg 21 ∧ ((0 = 1 ∧ fitP (i + 1) (mF 22) (mE 23) (mF 24) (mF 3) (mF 4) (mF 5)) ∨ (0 = 0 ∧ ¬ fitP (i + 1) (mF 22) (mE 23) (mF 24) (mF 3) (mF 4) (mF 5))) from ⟨by omega, Or.inr ⟨rfl, fit_no (x := i) (by omega) (by unfold soP; rw [← hj]; first | exact fun q => by (have := q.mp hb; omega) | exact fun q => hb (q.mpr (by omega)))⟩⟩), hW, lv_sub hl [0, 1, 4] rfl⟩ (by omega)
          · have hso : soP (mF 3) (mF 4) (mF 5) (mF 22 i) (mE 23 i) (mF 24 i) := by unfold soP; rw [← hj]; first | exact ⟨fun _ => by omega, fun _ => hb⟩ | exact ⟨fun q => absurd q hb, fun q => by omega⟩
            refine x_iconst (v := nI 1) X dX6_areSo_73 (by decide) ?_
            refine x_goto X 78 dX6_areSo_74 (by decide) ?_
            refine x_istore_n X [(1, .int (nI 1)), (4, .int a), (3, .int (nI (mF 22 i))), (2, .int (nI i)), (0, .ref mq)] dX6_areSo_78 rfl hl (by decide) rfl (fun ls hl => ?_)
            refine x_iinc X [(2, .int (nI (i + 1))), (1, .int (nI 1)), (4, .int a), (3, .int (nI (mF 22 i))), (0, .ref mq)] (k := 3) dX6_areSo_79 hl rfl (nI_inc1 i) (by decide) rfl (fun ls hl => ?_)
            refine x_goto X 4 dX6_areSo_82 (by decide) ?_
            exact ih4 ((i + 1), 1) _ _ _ ⟨(show (i + 1) ≤ mg 21 ∧ ((1 = 1 ∧ fitP (i + 1) (mF 22) (mE 23) (mF 24) (mF 3) (mF 4) (mF 5)) ∨ (1 = 0 ∧ ¬ fitP (i + 1) (mF 22) (mE 23) (mF 24) (mF 3) (mF 4) (mF 5))) from ⟨by omega, Or.inl ⟨rfl, fit_s hfi hso⟩⟩), hW, lv_sub hl [0, 1, 4] rfl⟩ (by omega)
      · refine x_iload_n X dX6_areSo_45 rfl (lv_at hl 3 rfl) ?_
        refine n_if_eq X 77 dX6_areSo_46 (by decide) (by decide) (fun c46 => ?_) (fun c46 => by exact absurd c46 (by decide))
        refine x_iconst (v := nI 0) X dX6_areSo_77 (by decide) ?_
        refine x_istore_n X [(1, .int (nI 0)), (4, .int a), (3, .int (nI (mF 22 i))), (2, .int (nI i)), (0, .ref mq)] dX6_areSo_78 rfl hl (by decide) rfl (fun ls hl => ?_)
        refine x_iinc X [(2, .int (nI (i + 1))), (1, .int (nI 0)), (4, .int a), (3, .int (nI (mF 22 i))), (0, .ref mq)] (k := 3) dX6_areSo_79 hl rfl (nI_inc1 i) (by decide) rfl (fun ls hl => ?_)
        refine x_goto X 4 dX6_areSo_82 (by decide) ?_
        exact ih4 ((i + 1), 0) _ _ _ ⟨(show (i + 1) ≤ mg 21 ∧ ((0 = 1 ∧ fitP (i + 1) (mF 22) (mE 23) (mF 24) (mF 3) (mF 4) (mF 5)) ∨ (0 = 0 ∧ ¬ fitP (i + 1) (mF 22) (mE 23) (mF 24) (mF 3) (mF 4) (mF 5))) from ⟨by omega, Or.inr ⟨rfl, fun q => hfi (fun x hx => q x (by omega))⟩⟩), hW, lv_sub hl [0, 1, 4] rfl⟩ (by omega)
    · refine x_aload_n X dX6_areSo_19 rfl (lv_at hl 3 rfl) ?_
      refine x_get X hW (v := .ref (ma 23)) hi6 0 rfl rfl 23 (by decide) (List.mem_of_getElem? (i := 3) rfl) rfl rfl dX6_areSo_20 ?_
      refine x_iload_n X dX6_areSo_23 rfl (lv_at hl 1 rfl) ?_
      refine i_iald X hW (f := mE 23) 12 0 rfl rfl (by omega) (by decide) dX6_areSo_24 ?_
      refine x_if_ge X 37 dX6_areSo_25 (by decide) (fun c25 => ?_) (fun c25 => ?_)
      · refine x_aload_n X dX6_areSo_37 rfl (lv_at hl 3 rfl) ?_
        refine x_get X hW (v := .ref (ma 23)) hi6 0 rfl rfl 23 (by decide) (List.mem_of_getElem? (i := 3) rfl) rfl rfl dX6_areSo_38 ?_
        refine x_iload_n X dX6_areSo_41 rfl (lv_at hl 1 rfl) ?_
        refine i_iald X hW (f := mE 23) 12 0 rfl rfl (by omega) (by decide) dX6_areSo_42 ?_
        exact kj43 (mE 23 i) _ _ _ ⟨(show (mE 23 i) = askI (mF 4) (mF 22 i) (mE 23 i) from by first | exact (ask_told (ok_nneg (by rw [i_le, i_0] at c25; rw [i_lt, i_0]; omega))).symm | exact (ask_none (ok_neg (hra i (by omega)) (by rw [i_le, i_0] at c25; rw [i_lt, i_0]; omega))).symm), hW, lv_sub hl [0, 1, 2, 3] rfl⟩
      · refine x_aload_n X dX6_areSo_28 rfl (lv_at hl 3 rfl) ?_
        refine x_get X hW (v := .ref (ma 4)) hi6 0 rfl rfl 4 (by decide) (List.mem_of_getElem? (i := 4) rfl) rfl rfl dX6_areSo_29 ?_
        refine x_iload_n X dX6_areSo_32 rfl (lv_at hl 0 rfl) ?_
        refine n_iald X hW (f := mF 4) 2 0 rfl rfl (by omega) (by decide) dX6_areSo_33 ?_
        refine x_goto X 43 dX6_areSo_34 (by decide) ?_
        exact kj43 (nI (mF 4 (mF 22 i))) _ _ _ ⟨(show (nI (mF 4 (mF 22 i))) = askI (mF 4) (mF 22 i) (mE 23 i) from by first | exact (ask_told (ok_nneg (by rw [i_le, i_0] at c25; rw [i_lt, i_0]; omega))).symm | exact (ask_none (ok_neg (hra i (by omega)) (by rw [i_le, i_0] at c25; rw [i_lt, i_0]; omega))).symm), hW, lv_sub hl [0, 1, 2, 3] rfl⟩
set_option maxHeartbeats 4000000 in
set_option maxRecDepth 100000 in
theorem c_X6_limits (l : Launch) (D : va_G) (cI cZ cO : ClassId) (mq : Nat) (ma : Nat → Nat) (mg : Nat → Nat) (mh : Nat → Int32) (mF : Nat → Nat → Nat) (mE : Nat → Nat → Int32) (sz : Nat) (r : Int32)  (hn : mg 2 ≤ 4) (hrc : mg 21 ≤ 8) (hro : ∀ z0, z0 < mg 21 → mF 22 z0 < 4) (hra : ∀ z0, z0 < mg 21 → okA (mE 23 z0)) (hrd : ∀ z0, mF 24 z0 ≤ 1) (hk : ∀ z0, mF 3 z0 ≤ 2) (hlv : ∀ z0, mF 4 z0 ≤ 9) (hm : ∀ z0, mF 5 z0 ≤ 9) : Met l yX6_limits wsX6_limits ({ frames := 2, cells := 0, slots := 0, locals := 46 }) (va_Pc [.ref mq, .int r] (st_W D (ty3 cI cZ cO) (wM cI cZ mq ma mg mh mF mE) sz)) (va_Qi (fun (rr : Int32) (u : Unit) => rr = aLim (mg 2) (mg 21) (mF 22) (mE 23) (mF 24) (mF 3) (mF 4) (mF 5) r) (fun u t => at_W D (ty3 cI cZ cO) (va_A (wM cI cZ mq ma mg mh mF mE) sz) (wM cI cZ mq ma mg mh mF mE) t) (va_A (wM cI cZ mq ma mg mh mF mE) sz)) 0 0 (va_A (wM cI cZ mq ma mg mh mF mE) sz) := by
  refine Met.goi (cc := cX6_limits) (maxL := 5) (ret := (some .int)) (by decide) rfl (Nat.le_of_ble_eq_true rfl) (fun p e s m below meth c A ls X hW hl => ?_)
  have hi6 : ∀ w ∈ wsX60, w ∈ wsX6_limits := fun w h => List.mem_cons_of_mem _ (List.mem_append_right _ h)
  have hl : lv_has ls 5 [(0, .ref mq), (1, .int r)] := hl
  refine x_aload_n X dX6_limits_0 rfl (lv_at hl 0 rfl) ?_
  refine x_iload_n X dX6_limits_1 rfl (lv_at hl 1 rfl) ?_
  refine x_callVi0 X hW (As := [.int r]) (rest := []) (c_X6_noReach l D cI cZ cO mq ma mg mh mF mE _ r (show (mg 2) ≤ 4 from (by first | assumption | omega))) (cwV 1 X.2.2.2.2.2.1 gX6_limits_X6_noReach rfl rfl rfl (by decide +kernel) ⟨Nat.le_of_ble_eq_true rfl, Nat.le_of_ble_eq_true rfl⟩) 0 5 rfl rfl rfl rfl hl.1 rfl (Nat.le_of_ble_eq_true rfl) ⟨Nat.le_of_ble_eq_true rfl, Nat.le_of_ble_eq_true rfl⟩ dX6_limits_2 (fun r1 u2 H locs w2 hW => ?_)
  have hW : Wd D A s.heap H locs (wM cI cZ mq ma mg mh mF mE) := hW
  replace w2 : (r1 = nI 1 ∧ (¬ inR r ((mg 2))) ∨ r1 = nI 0 ∧ ¬ (¬ inR r ((mg 2)))) := w2
  rcases w2 with ⟨w2, h2⟩ | ⟨w2, h2⟩
  · subst w2
    have gr := h2
    refine n_if_eq X 10 dX6_limits_5 (by decide) (by decide) (fun c5 => by exact absurd c5 (by decide)) (fun c5 => ?_)
    refine x_iconst (v := (-1 : Int32)) X dX6_limits_8 (by decide) ?_
    exact x_iret X hW rfl () ((by unfold aLim; (try rw [onR_out gr]); (try rfl))) rfl dX6_limits_9
  · subst w2
    obtain ⟨j, hj, rfl⟩ := inR_ex (Classical.not_not.mp h2) (by omega)
    refine n_if_eq X 10 dX6_limits_5 (by decide) (by decide) (fun c5 => ?_) (fun c5 => by exact absurd c5 (by decide))
    refine x_aload_n X dX6_limits_10 rfl (lv_at hl 0 rfl) ?_
    refine x_get X hW (v := .ref (ma 5)) hi6 0 rfl rfl 5 (by decide) (List.mem_of_getElem? (i := 1) rfl) rfl rfl dX6_limits_11 ?_
    refine x_iload_n X dX6_limits_14 rfl (lv_at hl 1 rfl) ?_
    refine n_iald X hW (f := mF 5) 3 0 rfl rfl (by omega) (by decide) dX6_limits_15 ?_
    refine x_istore_n X [(2, .int (nI (mF 5 j))), (0, .ref mq), (1, .int (nI j))] dX6_limits_16 rfl hl (by decide) rfl (fun ls hl => ?_)
    refine x_iconst (v := nI 0) X dX6_limits_17 (by decide) ?_
    refine x_istore_n X [(3, .int (nI 0)), (2, .int (nI (mF 5 j))), (0, .ref mq), (1, .int (nI j))] dX6_limits_18 rfl hl (by decide) rfl (fun ls hl => ?_)
    refine x_iconst (v := nI 0) X dX6_limits_19 (by decide) ?_
    refine x_istore X [(4, .int (nI 0)), (3, .int (nI 0)), (2, .int (nI (mF 5 j))), (0, .ref mq), (1, .int (nI j))] dX6_limits_20 hl (by decide) rfl (fun ls hl => ?_)
    refine W.loop (σ := (Nat) × (Nat → Nat)) (fun u H locs ls => (u.1 ≤ 10 ∧ (∀ z0, sF u.2 j z0 = sF (mF 5) j z0)) ∧ Wd D A s.heap H locs (wM cI cZ mq ma mg mh (sF mF 5 u.2) mE) ∧ lv_has ls 5 [(4, .int (nI u.1)), (3, .int (setI (fun z => fitP (mg 21) (mF 22) (mE 23) (mF 24) (mF 3) (mF 4) (sF (mF 5) j z)) u.1)), (2, .int (nI (mF 5 j))), (0, .ref mq), (1, .int (nI j))]) (fun u => 10 - u.1) (fun u H locs ls hI ih => ?_) (0, (mF 5)) ⟨(show 0 ≤ 10 ∧ (∀ z0, sF (mF 5) j z0 = sF (mF 5) j z0) from (by first | exact ⟨by omega, fun _ => rfl⟩ | exact ⟨by omega, fun _ => sF_sF _ _ _ _⟩)), hW, hl⟩
    obtain ⟨v, L⟩ := u
    obtain ⟨hv, hW, hl⟩ := hI
    have hv : v ≤ 10 ∧ (∀ z0, sF L j z0 = sF (mF 5) j z0) := hv
    have hW : Wd D A s.heap H locs (wM cI cZ mq ma mg mh (sF mF 5 L) mE) := hW
    have hl : lv_has ls 5 [(4, .int (nI v)), (3, .int (setI (fun z => fitP (mg 21) (mF 22) (mE 23) (mF 24) (mF 3) (mF 4) (sF (mF 5) j z)) v)), (2, .int (nI (mF 5 j))), (0, .ref mq), (1, .int (nI j))] := hl
    have ih22 := ih
    refine x_iload X dX6_limits_22 (lv_at hl 0 rfl) ?_
    refine x_bipush (v := nI 10) X dX6_limits_24 (by decide) ?_
    refine n_icmp_ge X 61 dX6_limits_26 (by decide) (by omega) (by decide) (fun c26 => ?_) (fun c26 => ?_)
    · refine x_aload_n X dX6_limits_61 rfl (lv_at hl 3 rfl) ?_
      refine x_get X hW (v := .ref (ma 5)) hi6 0 rfl rfl 5 (by decide) (List.mem_of_getElem? (i := 1) rfl) rfl rfl dX6_limits_62 ?_
      refine x_iload_n X dX6_limits_65 rfl (lv_at hl 4 rfl) ?_
      refine x_iload_n X dX6_limits_66 rfl (lv_at hl 2 rfl) ?_
      refine n_iast X hW (f := L) 3 0 rfl rfl (by omega) (by decide) dX6_limits_67 (wM cI cZ mq ma mg mh (sF mF 5 (sF L j (mF 5 j))) mE) rfl (fun H locs hW => ?_)
      have hW : Wd D A s.heap H locs (wM cI cZ mq ma mg mh (sF mF 5 (mF 5)) mE) := hW.eq (congrArg (fun z => (wM cI cZ mq ma mg mh (sF mF 5 z) mE)) (show (sF L j (mF 5 j)) = (mF 5) from by rw [hv.2, sF_id]))
      have hW : Wd D A s.heap H locs (wM cI cZ mq ma mg mh mF mE) := hW
      refine x_iload_n X dX6_limits_68 rfl (lv_at hl 1 rfl) ?_
      exact x_iret X hW rfl () ((by rw [show v = 10 by omega]; unfold aLim; (try rw [onR_in hj (by omega)]); (try rfl))) rfl dX6_limits_69
    · refine x_aload_n X dX6_limits_29 rfl (lv_at hl 3 rfl) ?_
      refine x_get X hW (v := .ref (ma 5)) hi6 0 rfl rfl 5 (by decide) (List.mem_of_getElem? (i := 1) rfl) rfl rfl dX6_limits_30 ?_
      refine x_iload_n X dX6_limits_33 rfl (lv_at hl 4 rfl) ?_
      refine x_iload X dX6_limits_34 (lv_at hl 0 rfl) ?_
      refine n_iast X hW (f := L) 3 0 rfl rfl (by omega) (by decide) dX6_limits_36 (wM cI cZ mq ma mg mh (sF mF 5 (sF L j v)) mE) rfl (fun H locs hW => ?_)
      have hW : Wd D A s.heap H locs (wM cI cZ mq ma mg mh (sF mF 5 (sF (mF 5) j v)) mE) := hW.eq (congrArg (fun z => (wM cI cZ mq ma mg mh (sF mF 5 z) mE)) (show (sF L j v) = (sF (mF 5) j v) from by exact hv.2 v))
      refine x_iload_n X dX6_limits_37 rfl (lv_at hl 1 rfl) ?_
      refine x_aload_n X dX6_limits_38 rfl (lv_at hl 3 rfl) ?_
      refine x_callVi0 X hW (As := []) (rest := [.int (setI (fun z => fitP (mg 21) (mF 22) (mE 23) (mF 24) (mF 3) (mF 4) (sF (mF 5) j z)) v)]) (c_X6_areSo l D cI cZ cO mq ma mg mh (sF mF 5 (sF (mF 5) j v)) mE _ (show (mg 2) ≤ 4 from (by first | assumption | omega)) (show (mg 21) ≤ 8 from (by first | assumption | omega)) (show ∀ z0, z0 < (mg 21) → (mF 22) z0 < 4 from (by first | assumption | omega)) (show ∀ z0, z0 < (mg 21) → okA ((mE 23) z0) from (by first | assumption | omega)) (show ∀ z0, (mF 24) z0 ≤ 1 from (by first | assumption | omega)) (show ∀ z0, (mF 3) z0 ≤ 2 from (by first | assumption | omega)) (show ∀ z0, (mF 4) z0 ≤ 9 from (by first | assumption | omega)) (show ∀ z0, (sF (mF 5) j v) z0 ≤ 9 from (sF_le hm (by omega)))) (cwV 0 X.2.2.2.2.2.1 gX6_limits_X6_areSo rfl rfl rfl (by decide +kernel) ⟨Nat.le_of_ble_eq_true rfl, Nat.le_of_ble_eq_true rfl⟩) 0 5 rfl rfl rfl rfl hl.1 rfl (Nat.le_of_ble_eq_true rfl) ⟨Nat.le_of_ble_eq_true rfl, Nat.le_of_ble_eq_true rfl⟩ dX6_limits_39 (fun r3 u4 H locs w39 hW => ?_)
      have hW : Wd D A s.heap H locs (wM cI cZ mq ma mg mh (sF mF 5 (sF (mF 5) j v)) mE) := hW
      replace w39 : (r3 = nI 1 ∧ (fitP ((mg 21)) ((mF 22)) ((mE 23)) ((mF 24)) ((mF 3)) ((mF 4)) ((sF (mF 5) j v))) ∨ r3 = nI 0 ∧ ¬ (fitP ((mg 21)) ((mF 22)) ((mE 23)) ((mF 24)) ((mF 3)) ((mF 4)) ((sF (mF 5) j v)))) := w39
      rcases w39 with ⟨w39, h39⟩ | ⟨w39, h39⟩
      · subst w39
        refine n_if_eq X 52 dX6_limits_42 (by decide) (by decide) (fun c42 => by exact absurd c42 (by decide)) (fun c42 => ?_)
        refine x_iconst (v := nI 1) X dX6_limits_45 (by decide) ?_
        refine x_iload X dX6_limits_46 (lv_at hl 0 rfl) ?_
        refine x_ishl (v := (nI 1) <<< ((nI v) &&& 31)) X dX6_limits_48 rfl ?_
        refine x_goto X 53 dX6_limits_49 (by decide) ?_
        refine x_ior (v := (setI (fun z => fitP (mg 21) (mF 22) (mE 23) (mF 24) (mF 3) (mF 4) (sF (mF 5) j z)) v) ||| ((nI 1) <<< ((nI v) &&& 31))) X dX6_limits_53 rfl ?_
        refine i_as0 (b := setI (fun z => fitP (mg 21) (mF 22) (mE 23) (mF 24) (mF 3) (mF 4) (sF (mF 5) j z)) (v + 1)) (by first | exact (setI_y h39).symm | (rw [or0]; exact (setI_n h39).symm)) ?_
        refine x_istore_n X [(3, .int (setI (fun z => fitP (mg 21) (mF 22) (mE 23) (mF 24) (mF 3) (mF 4) (sF (mF 5) j z)) (v + 1))), (4, .int (nI v)), (2, .int (nI (mF 5 j))), (0, .ref mq), (1, .int (nI j))] dX6_limits_54 rfl hl (by decide) rfl (fun ls hl => ?_)
        refine x_iinc X [(4, .int (nI (v + 1))), (3, .int (setI (fun z => fitP (mg 21) (mF 22) (mE 23) (mF 24) (mF 3) (mF 4) (sF (mF 5) j z)) (v + 1))), (2, .int (nI (mF 5 j))), (0, .ref mq), (1, .int (nI j))] (k := 1) dX6_limits_55 hl rfl (nI_inc1 v) (by decide) rfl (fun ls hl => ?_)
        refine x_goto X 22 dX6_limits_58 (by decide) ?_
        exact ih22 ((v + 1), (sF (mF 5) j v)) _ _ _ ⟨(show (v + 1) ≤ 10 ∧ (∀ z0, sF (sF (mF 5) j v) j z0 = sF (mF 5) j z0) from (by first | exact ⟨by omega, fun _ => rfl⟩ | exact ⟨by omega, fun _ => sF_sF _ _ _ _⟩)), hW, lv_sub hl [0, 1, 2, 3, 4] rfl⟩ (by omega)
      · subst w39
        refine n_if_eq X 52 dX6_limits_42 (by decide) (by decide) (fun c42 => ?_) (fun c42 => by exact absurd c42 (by decide))
        refine x_iconst (v := nI 0) X dX6_limits_52 (by decide) ?_
        refine x_ior (v := (setI (fun z => fitP (mg 21) (mF 22) (mE 23) (mF 24) (mF 3) (mF 4) (sF (mF 5) j z)) v) ||| (nI 0)) X dX6_limits_53 rfl ?_
        refine i_as0 (b := setI (fun z => fitP (mg 21) (mF 22) (mE 23) (mF 24) (mF 3) (mF 4) (sF (mF 5) j z)) (v + 1)) (by first | exact (setI_y h39).symm | (rw [or0]; exact (setI_n h39).symm)) ?_
        refine x_istore_n X [(3, .int (setI (fun z => fitP (mg 21) (mF 22) (mE 23) (mF 24) (mF 3) (mF 4) (sF (mF 5) j z)) (v + 1))), (4, .int (nI v)), (2, .int (nI (mF 5 j))), (0, .ref mq), (1, .int (nI j))] dX6_limits_54 rfl hl (by decide) rfl (fun ls hl => ?_)
        refine x_iinc X [(4, .int (nI (v + 1))), (3, .int (setI (fun z => fitP (mg 21) (mF 22) (mE 23) (mF 24) (mF 3) (mF 4) (sF (mF 5) j z)) (v + 1))), (2, .int (nI (mF 5 j))), (0, .ref mq), (1, .int (nI j))] (k := 1) dX6_limits_55 hl rfl (nI_inc1 v) (by decide) rfl (fun ls hl => ?_)
        refine x_goto X 22 dX6_limits_58 (by decide) ?_
        exact ih22 ((v + 1), (sF (mF 5) j v)) _ _ _ ⟨(show (v + 1) ≤ 10 ∧ (∀ z0, sF (sF (mF 5) j v) j z0 = sF (mF 5) j z0) from (by first | exact ⟨by omega, fun _ => rfl⟩ | exact ⟨by omega, fun _ => sF_sF _ _ _ _⟩)), hW, lv_sub hl [0, 1, 2, 3, 4] rfl⟩ (by omega)
set_option maxHeartbeats 4000000 in
set_option maxRecDepth 100000 in
theorem c_X6_kinds (l : Launch) (D : va_G) (cI cZ cO : ClassId) (mq : Nat) (ma : Nat → Nat) (mg : Nat → Nat) (mh : Nat → Int32) (mF : Nat → Nat → Nat) (mE : Nat → Nat → Int32) (sz : Nat) (r : Int32)  (hn : mg 2 ≤ 4) (hrc : mg 21 ≤ 8) (hro : ∀ z0, z0 < mg 21 → mF 22 z0 < 4) (hra : ∀ z0, z0 < mg 21 → okA (mE 23 z0)) (hrd : ∀ z0, mF 24 z0 ≤ 1) (hk : ∀ z0, mF 3 z0 ≤ 2) (hlv : ∀ z0, mF 4 z0 ≤ 9) (hm : ∀ z0, mF 5 z0 ≤ 9) : Met l yX6_kinds wsX6_kinds ({ frames := 2, cells := 0, slots := 0, locals := 46 }) (va_Pc [.ref mq, .int r] (st_W D (ty3 cI cZ cO) (wM cI cZ mq ma mg mh mF mE) sz)) (va_Qi (fun (rr : Int32) (u : Unit) => rr = aKin (mg 2) (mg 21) (mF 22) (mE 23) (mF 24) (mF 3) (mF 4) (mF 5) r) (fun u t => at_W D (ty3 cI cZ cO) (va_A (wM cI cZ mq ma mg mh mF mE) sz) (wM cI cZ mq ma mg mh mF mE) t) (va_A (wM cI cZ mq ma mg mh mF mE) sz)) 0 0 (va_A (wM cI cZ mq ma mg mh mF mE) sz) := by
  refine Met.goi (cc := cX6_kinds) (maxL := 5) (ret := (some .int)) (by decide) rfl (Nat.le_of_ble_eq_true rfl) (fun p e s m below meth c A ls X hW hl => ?_)
  have hi6 : ∀ w ∈ wsX60, w ∈ wsX6_kinds := fun w h => List.mem_cons_of_mem _ (List.mem_append_right _ h)
  have hl : lv_has ls 5 [(0, .ref mq), (1, .int r)] := hl
  refine x_aload_n X dX6_kinds_0 rfl (lv_at hl 0 rfl) ?_
  refine x_iload_n X dX6_kinds_1 rfl (lv_at hl 1 rfl) ?_
  refine x_callVi0 X hW (As := [.int r]) (rest := []) (c_X6_noReach l D cI cZ cO mq ma mg mh mF mE _ r (show (mg 2) ≤ 4 from (by first | assumption | omega))) (cwV 1 X.2.2.2.2.2.1 gX6_kinds_X6_noReach rfl rfl rfl (by decide +kernel) ⟨Nat.le_of_ble_eq_true rfl, Nat.le_of_ble_eq_true rfl⟩) 0 5 rfl rfl rfl rfl hl.1 rfl (Nat.le_of_ble_eq_true rfl) ⟨Nat.le_of_ble_eq_true rfl, Nat.le_of_ble_eq_true rfl⟩ dX6_kinds_2 (fun r1 u2 H locs w2 hW => ?_)
  have hW : Wd D A s.heap H locs (wM cI cZ mq ma mg mh mF mE) := hW
  replace w2 : (r1 = nI 1 ∧ (¬ inR r ((mg 2))) ∨ r1 = nI 0 ∧ ¬ (¬ inR r ((mg 2)))) := w2
  rcases w2 with ⟨w2, h2⟩ | ⟨w2, h2⟩
  · subst w2
    have gr := h2
    refine n_if_eq X 10 dX6_kinds_5 (by decide) (by decide) (fun c5 => by exact absurd c5 (by decide)) (fun c5 => ?_)
    refine x_iconst (v := (-1 : Int32)) X dX6_kinds_8 (by decide) ?_
    exact x_iret X hW rfl () ((by unfold aKin; (try rw [onR_out gr]); (try rfl))) rfl dX6_kinds_9
  · subst w2
    obtain ⟨j, hj, rfl⟩ := inR_ex (Classical.not_not.mp h2) (by omega)
    refine n_if_eq X 10 dX6_kinds_5 (by decide) (by decide) (fun c5 => ?_) (fun c5 => by exact absurd c5 (by decide))
    refine x_aload_n X dX6_kinds_10 rfl (lv_at hl 0 rfl) ?_
    refine x_get X hW (v := .ref (ma 3)) hi6 0 rfl rfl 3 (by decide) (List.mem_of_getElem? (i := 1) rfl) rfl rfl dX6_kinds_11 ?_
    refine x_iload_n X dX6_kinds_14 rfl (lv_at hl 1 rfl) ?_
    refine n_iald X hW (f := mF 3) 1 0 rfl rfl (by omega) (by decide) dX6_kinds_15 ?_
    refine x_istore_n X [(2, .int (nI (mF 3 j))), (0, .ref mq), (1, .int (nI j))] dX6_kinds_16 rfl hl (by decide) rfl (fun ls hl => ?_)
    refine x_iconst (v := nI 0) X dX6_kinds_17 (by decide) ?_
    refine x_istore_n X [(3, .int (nI 0)), (2, .int (nI (mF 3 j))), (0, .ref mq), (1, .int (nI j))] dX6_kinds_18 rfl hl (by decide) rfl (fun ls hl => ?_)
    refine x_iconst (v := nI 0) X dX6_kinds_19 (by decide) ?_
    refine x_istore X [(4, .int (nI 0)), (3, .int (nI 0)), (2, .int (nI (mF 3 j))), (0, .ref mq), (1, .int (nI j))] dX6_kinds_20 hl (by decide) rfl (fun ls hl => ?_)
    refine W.loop (σ := (Nat) × (Nat → Nat)) (fun u H locs ls => (u.1 ≤ 3 ∧ (∀ z0, sF u.2 j z0 = sF (mF 3) j z0)) ∧ Wd D A s.heap H locs (wM cI cZ mq ma mg mh (sF mF 3 u.2) mE) ∧ lv_has ls 5 [(4, .int (nI u.1)), (3, .int (setI (fun z => fitP (mg 21) (mF 22) (mE 23) (mF 24) (sF (mF 3) j z) (mF 4) (mF 5)) u.1)), (2, .int (nI (mF 3 j))), (0, .ref mq), (1, .int (nI j))]) (fun u => 3 - u.1) (fun u H locs ls hI ih => ?_) (0, (mF 3)) ⟨(show 0 ≤ 3 ∧ (∀ z0, sF (mF 3) j z0 = sF (mF 3) j z0) from (by first | exact ⟨by omega, fun _ => rfl⟩ | exact ⟨by omega, fun _ => sF_sF _ _ _ _⟩)), hW, hl⟩
    obtain ⟨v, L⟩ := u
    obtain ⟨hv, hW, hl⟩ := hI
    have hv : v ≤ 3 ∧ (∀ z0, sF L j z0 = sF (mF 3) j z0) := hv
    have hW : Wd D A s.heap H locs (wM cI cZ mq ma mg mh (sF mF 3 L) mE) := hW
    have hl : lv_has ls 5 [(4, .int (nI v)), (3, .int (setI (fun z => fitP (mg 21) (mF 22) (mE 23) (mF 24) (sF (mF 3) j z) (mF 4) (mF 5)) v)), (2, .int (nI (mF 3 j))), (0, .ref mq), (1, .int (nI j))] := hl
    have ih22 := ih
    refine x_iload X dX6_kinds_22 (lv_at hl 0 rfl) ?_
    refine x_iconst (v := nI 3) X dX6_kinds_24 (by decide) ?_
    refine n_icmp_ge X 60 dX6_kinds_25 (by decide) (by omega) (by decide) (fun c25 => ?_) (fun c25 => ?_)
    · refine x_aload_n X dX6_kinds_60 rfl (lv_at hl 3 rfl) ?_
      refine x_get X hW (v := .ref (ma 3)) hi6 0 rfl rfl 3 (by decide) (List.mem_of_getElem? (i := 1) rfl) rfl rfl dX6_kinds_61 ?_
      refine x_iload_n X dX6_kinds_64 rfl (lv_at hl 4 rfl) ?_
      refine x_iload_n X dX6_kinds_65 rfl (lv_at hl 2 rfl) ?_
      refine n_iast X hW (f := L) 1 0 rfl rfl (by omega) (by decide) dX6_kinds_66 (wM cI cZ mq ma mg mh (sF mF 3 (sF L j (mF 3 j))) mE) rfl (fun H locs hW => ?_)
      have hW : Wd D A s.heap H locs (wM cI cZ mq ma mg mh (sF mF 3 (mF 3)) mE) := hW.eq (congrArg (fun z => (wM cI cZ mq ma mg mh (sF mF 3 z) mE)) (show (sF L j (mF 3 j)) = (mF 3) from by rw [hv.2, sF_id]))
      have hW : Wd D A s.heap H locs (wM cI cZ mq ma mg mh mF mE) := hW
      refine x_iload_n X dX6_kinds_67 rfl (lv_at hl 1 rfl) ?_
      exact x_iret X hW rfl () ((by rw [show v = 3 by omega]; unfold aKin; (try rw [onR_in hj (by omega)]); (try rfl))) rfl dX6_kinds_68
    · refine x_aload_n X dX6_kinds_28 rfl (lv_at hl 3 rfl) ?_
      refine x_get X hW (v := .ref (ma 3)) hi6 0 rfl rfl 3 (by decide) (List.mem_of_getElem? (i := 1) rfl) rfl rfl dX6_kinds_29 ?_
      refine x_iload_n X dX6_kinds_32 rfl (lv_at hl 4 rfl) ?_
      refine x_iload X dX6_kinds_33 (lv_at hl 0 rfl) ?_
      refine n_iast X hW (f := L) 1 0 rfl rfl (by omega) (by decide) dX6_kinds_35 (wM cI cZ mq ma mg mh (sF mF 3 (sF L j v)) mE) rfl (fun H locs hW => ?_)
      have hW : Wd D A s.heap H locs (wM cI cZ mq ma mg mh (sF mF 3 (sF (mF 3) j v)) mE) := hW.eq (congrArg (fun z => (wM cI cZ mq ma mg mh (sF mF 3 z) mE)) (show (sF L j v) = (sF (mF 3) j v) from by exact hv.2 v))
      refine x_iload_n X dX6_kinds_36 rfl (lv_at hl 1 rfl) ?_
      refine x_aload_n X dX6_kinds_37 rfl (lv_at hl 3 rfl) ?_
      refine x_callVi0 X hW (As := []) (rest := [.int (setI (fun z => fitP (mg 21) (mF 22) (mE 23) (mF 24) (sF (mF 3) j z) (mF 4) (mF 5)) v)]) (c_X6_areSo l D cI cZ cO mq ma mg mh (sF mF 3 (sF (mF 3) j v)) mE _ (show (mg 2) ≤ 4 from (by first | assumption | omega)) (show (mg 21) ≤ 8 from (by first | assumption | omega)) (show ∀ z0, z0 < (mg 21) → (mF 22) z0 < 4 from (by first | assumption | omega)) (show ∀ z0, z0 < (mg 21) → okA ((mE 23) z0) from (by first | assumption | omega)) (show ∀ z0, (mF 24) z0 ≤ 1 from (by first | assumption | omega)) (show ∀ z0, (sF (mF 3) j v) z0 ≤ 2 from (sF_le hk (by omega))) (show ∀ z0, (mF 4) z0 ≤ 9 from (by first | assumption | omega)) (show ∀ z0, (mF 5) z0 ≤ 9 from (by first | assumption | omega))) (cwV 0 X.2.2.2.2.2.1 gX6_kinds_X6_areSo rfl rfl rfl (by decide +kernel) ⟨Nat.le_of_ble_eq_true rfl, Nat.le_of_ble_eq_true rfl⟩) 0 5 rfl rfl rfl rfl hl.1 rfl (Nat.le_of_ble_eq_true rfl) ⟨Nat.le_of_ble_eq_true rfl, Nat.le_of_ble_eq_true rfl⟩ dX6_kinds_38 (fun r3 u4 H locs w38 hW => ?_)
      have hW : Wd D A s.heap H locs (wM cI cZ mq ma mg mh (sF mF 3 (sF (mF 3) j v)) mE) := hW
      replace w38 : (r3 = nI 1 ∧ (fitP ((mg 21)) ((mF 22)) ((mE 23)) ((mF 24)) ((sF (mF 3) j v)) ((mF 4)) ((mF 5))) ∨ r3 = nI 0 ∧ ¬ (fitP ((mg 21)) ((mF 22)) ((mE 23)) ((mF 24)) ((sF (mF 3) j v)) ((mF 4)) ((mF 5)))) := w38
      rcases w38 with ⟨w38, h38⟩ | ⟨w38, h38⟩
      · subst w38
        refine n_if_eq X 51 dX6_kinds_41 (by decide) (by decide) (fun c41 => by exact absurd c41 (by decide)) (fun c41 => ?_)
        refine x_iconst (v := nI 1) X dX6_kinds_44 (by decide) ?_
        refine x_iload X dX6_kinds_45 (lv_at hl 0 rfl) ?_
        refine x_ishl (v := (nI 1) <<< ((nI v) &&& 31)) X dX6_kinds_47 rfl ?_
        refine x_goto X 52 dX6_kinds_48 (by decide) ?_
        refine x_ior (v := (setI (fun z => fitP (mg 21) (mF 22) (mE 23) (mF 24) (sF (mF 3) j z) (mF 4) (mF 5)) v) ||| ((nI 1) <<< ((nI v) &&& 31))) X dX6_kinds_52 rfl ?_
        refine i_as0 (b := setI (fun z => fitP (mg 21) (mF 22) (mE 23) (mF 24) (sF (mF 3) j z) (mF 4) (mF 5)) (v + 1)) (by first | exact (setI_y h38).symm | (rw [or0]; exact (setI_n h38).symm)) ?_
        refine x_istore_n X [(3, .int (setI (fun z => fitP (mg 21) (mF 22) (mE 23) (mF 24) (sF (mF 3) j z) (mF 4) (mF 5)) (v + 1))), (4, .int (nI v)), (2, .int (nI (mF 3 j))), (0, .ref mq), (1, .int (nI j))] dX6_kinds_53 rfl hl (by decide) rfl (fun ls hl => ?_)
        refine x_iinc X [(4, .int (nI (v + 1))), (3, .int (setI (fun z => fitP (mg 21) (mF 22) (mE 23) (mF 24) (sF (mF 3) j z) (mF 4) (mF 5)) (v + 1))), (2, .int (nI (mF 3 j))), (0, .ref mq), (1, .int (nI j))] (k := 1) dX6_kinds_54 hl rfl (nI_inc1 v) (by decide) rfl (fun ls hl => ?_)
        refine x_goto X 22 dX6_kinds_57 (by decide) ?_
        exact ih22 ((v + 1), (sF (mF 3) j v)) _ _ _ ⟨(show (v + 1) ≤ 3 ∧ (∀ z0, sF (sF (mF 3) j v) j z0 = sF (mF 3) j z0) from (by first | exact ⟨by omega, fun _ => rfl⟩ | exact ⟨by omega, fun _ => sF_sF _ _ _ _⟩)), hW, lv_sub hl [0, 1, 2, 3, 4] rfl⟩ (by omega)
      · subst w38
        refine n_if_eq X 51 dX6_kinds_41 (by decide) (by decide) (fun c41 => ?_) (fun c41 => by exact absurd c41 (by decide))
        refine x_iconst (v := nI 0) X dX6_kinds_51 (by decide) ?_
        refine x_ior (v := (setI (fun z => fitP (mg 21) (mF 22) (mE 23) (mF 24) (sF (mF 3) j z) (mF 4) (mF 5)) v) ||| (nI 0)) X dX6_kinds_52 rfl ?_
        refine i_as0 (b := setI (fun z => fitP (mg 21) (mF 22) (mE 23) (mF 24) (sF (mF 3) j z) (mF 4) (mF 5)) (v + 1)) (by first | exact (setI_y h38).symm | (rw [or0]; exact (setI_n h38).symm)) ?_
        refine x_istore_n X [(3, .int (setI (fun z => fitP (mg 21) (mF 22) (mE 23) (mF 24) (sF (mF 3) j z) (mF 4) (mF 5)) (v + 1))), (4, .int (nI v)), (2, .int (nI (mF 3 j))), (0, .ref mq), (1, .int (nI j))] dX6_kinds_53 rfl hl (by decide) rfl (fun ls hl => ?_)
        refine x_iinc X [(4, .int (nI (v + 1))), (3, .int (setI (fun z => fitP (mg 21) (mF 22) (mE 23) (mF 24) (sF (mF 3) j z) (mF 4) (mF 5)) (v + 1))), (2, .int (nI (mF 3 j))), (0, .ref mq), (1, .int (nI j))] (k := 1) dX6_kinds_54 hl rfl (nI_inc1 v) (by decide) rfl (fun ls hl => ?_)
        refine x_goto X 22 dX6_kinds_57 (by decide) ?_
        exact ih22 ((v + 1), (sF (mF 3) j v)) _ _ _ ⟨(show (v + 1) ≤ 3 ∧ (∀ z0, sF (sF (mF 3) j v) j z0 = sF (mF 3) j z0) from (by first | exact ⟨by omega, fun _ => rfl⟩ | exact ⟨by omega, fun _ => sF_sF _ _ _ _⟩)), hW, lv_sub hl [0, 1, 2, 3, 4] rfl⟩ (by omega)
set_option maxHeartbeats 4000000 in
set_option maxRecDepth 100000 in
theorem c_X6_levels (l : Launch) (D : va_G) (cI cZ cO : ClassId) (mq : Nat) (ma : Nat → Nat) (mg : Nat → Nat) (mh : Nat → Int32) (mF : Nat → Nat → Nat) (mE : Nat → Nat → Int32) (sz : Nat) (r : Int32)  (hn : mg 2 ≤ 4) (hrc : mg 21 ≤ 8) (hro : ∀ z0, z0 < mg 21 → mF 22 z0 < 4) (hra : ∀ z0, z0 < mg 21 → okA (mE 23 z0)) (hrd : ∀ z0, mF 24 z0 ≤ 1) (hk : ∀ z0, mF 3 z0 ≤ 2) (hlv : ∀ z0, mF 4 z0 ≤ 9) (hm : ∀ z0, mF 5 z0 ≤ 9) : Met l yX6_levels wsX6_levels ({ frames := 2, cells := 0, slots := 0, locals := 46 }) (va_Pc [.ref mq, .int r] (st_W D (ty3 cI cZ cO) (wM cI cZ mq ma mg mh mF mE) sz)) (va_Qi (fun (rr : Int32) (u : Unit) => rr = aLev (mg 2) (mg 21) (mF 22) (mE 23) (mF 24) (mF 3) (mF 4) (mF 5) r) (fun u t => at_W D (ty3 cI cZ cO) (va_A (wM cI cZ mq ma mg mh mF mE) sz) (wM cI cZ mq ma mg mh mF mE) t) (va_A (wM cI cZ mq ma mg mh mF mE) sz)) 0 0 (va_A (wM cI cZ mq ma mg mh mF mE) sz) := by
  refine Met.goi (cc := cX6_levels) (maxL := 5) (ret := (some .int)) (by decide) rfl (Nat.le_of_ble_eq_true rfl) (fun p e s m below meth c A ls X hW hl => ?_)
  have hi6 : ∀ w ∈ wsX60, w ∈ wsX6_levels := fun w h => List.mem_cons_of_mem _ (List.mem_append_right _ h)
  have hl : lv_has ls 5 [(0, .ref mq), (1, .int r)] := hl
  refine x_aload_n X dX6_levels_0 rfl (lv_at hl 0 rfl) ?_
  refine x_iload_n X dX6_levels_1 rfl (lv_at hl 1 rfl) ?_
  refine x_callVi0 X hW (As := [.int r]) (rest := []) (c_X6_noReach l D cI cZ cO mq ma mg mh mF mE _ r (show (mg 2) ≤ 4 from (by first | assumption | omega))) (cwV 1 X.2.2.2.2.2.1 gX6_levels_X6_noReach rfl rfl rfl (by decide +kernel) ⟨Nat.le_of_ble_eq_true rfl, Nat.le_of_ble_eq_true rfl⟩) 0 5 rfl rfl rfl rfl hl.1 rfl (Nat.le_of_ble_eq_true rfl) ⟨Nat.le_of_ble_eq_true rfl, Nat.le_of_ble_eq_true rfl⟩ dX6_levels_2 (fun r1 u2 H locs w2 hW => ?_)
  have hW : Wd D A s.heap H locs (wM cI cZ mq ma mg mh mF mE) := hW
  replace w2 : (r1 = nI 1 ∧ (¬ inR r ((mg 2))) ∨ r1 = nI 0 ∧ ¬ (¬ inR r ((mg 2)))) := w2
  rcases w2 with ⟨w2, h2⟩ | ⟨w2, h2⟩
  · subst w2
    have gr := h2
    refine n_if_eq X 10 dX6_levels_5 (by decide) (by decide) (fun c5 => by exact absurd c5 (by decide)) (fun c5 => ?_)
    refine x_iconst (v := (-1 : Int32)) X dX6_levels_8 (by decide) ?_
    exact x_iret X hW rfl () ((by unfold aLev; (try rw [onR_out gr]); (try rfl))) rfl dX6_levels_9
  · subst w2
    obtain ⟨j, hj, rfl⟩ := inR_ex (Classical.not_not.mp h2) (by omega)
    refine n_if_eq X 10 dX6_levels_5 (by decide) (by decide) (fun c5 => ?_) (fun c5 => by exact absurd c5 (by decide))
    refine x_aload_n X dX6_levels_10 rfl (lv_at hl 0 rfl) ?_
    refine x_get X hW (v := .ref (ma 4)) hi6 0 rfl rfl 4 (by decide) (List.mem_of_getElem? (i := 1) rfl) rfl rfl dX6_levels_11 ?_
    refine x_iload_n X dX6_levels_14 rfl (lv_at hl 1 rfl) ?_
    refine n_iald X hW (f := mF 4) 2 0 rfl rfl (by omega) (by decide) dX6_levels_15 ?_
    refine x_istore_n X [(2, .int (nI (mF 4 j))), (0, .ref mq), (1, .int (nI j))] dX6_levels_16 rfl hl (by decide) rfl (fun ls hl => ?_)
    refine x_iconst (v := nI 0) X dX6_levels_17 (by decide) ?_
    refine x_istore_n X [(3, .int (nI 0)), (2, .int (nI (mF 4 j))), (0, .ref mq), (1, .int (nI j))] dX6_levels_18 rfl hl (by decide) rfl (fun ls hl => ?_)
    refine x_iconst (v := nI 0) X dX6_levels_19 (by decide) ?_
    refine x_istore X [(4, .int (nI 0)), (3, .int (nI 0)), (2, .int (nI (mF 4 j))), (0, .ref mq), (1, .int (nI j))] dX6_levels_20 hl (by decide) rfl (fun ls hl => ?_)
    refine W.loop (σ := (Nat) × (Nat → Nat)) (fun u H locs ls => (u.1 ≤ 10 ∧ (∀ z0, sF u.2 j z0 = sF (mF 4) j z0)) ∧ Wd D A s.heap H locs (wM cI cZ mq ma mg mh (sF mF 4 u.2) mE) ∧ lv_has ls 5 [(4, .int (nI u.1)), (3, .int (setI (fun z => fitP (mg 21) (mF 22) (mE 23) (mF 24) (mF 3) (sF (mF 4) j z) (mF 5)) u.1)), (2, .int (nI (mF 4 j))), (0, .ref mq), (1, .int (nI j))]) (fun u => 10 - u.1) (fun u H locs ls hI ih => ?_) (0, (mF 4)) ⟨(show 0 ≤ 10 ∧ (∀ z0, sF (mF 4) j z0 = sF (mF 4) j z0) from (by first | exact ⟨by omega, fun _ => rfl⟩ | exact ⟨by omega, fun _ => sF_sF _ _ _ _⟩)), hW, hl⟩
    obtain ⟨v, L⟩ := u
    obtain ⟨hv, hW, hl⟩ := hI
    have hv : v ≤ 10 ∧ (∀ z0, sF L j z0 = sF (mF 4) j z0) := hv
    have hW : Wd D A s.heap H locs (wM cI cZ mq ma mg mh (sF mF 4 L) mE) := hW
    have hl : lv_has ls 5 [(4, .int (nI v)), (3, .int (setI (fun z => fitP (mg 21) (mF 22) (mE 23) (mF 24) (mF 3) (sF (mF 4) j z) (mF 5)) v)), (2, .int (nI (mF 4 j))), (0, .ref mq), (1, .int (nI j))] := hl
    have ih22 := ih
    refine x_iload X dX6_levels_22 (lv_at hl 0 rfl) ?_
    refine x_bipush (v := nI 10) X dX6_levels_24 (by decide) ?_
    refine n_icmp_ge X 61 dX6_levels_26 (by decide) (by omega) (by decide) (fun c26 => ?_) (fun c26 => ?_)
    · refine x_aload_n X dX6_levels_61 rfl (lv_at hl 3 rfl) ?_
      refine x_get X hW (v := .ref (ma 4)) hi6 0 rfl rfl 4 (by decide) (List.mem_of_getElem? (i := 1) rfl) rfl rfl dX6_levels_62 ?_
      refine x_iload_n X dX6_levels_65 rfl (lv_at hl 4 rfl) ?_
      refine x_iload_n X dX6_levels_66 rfl (lv_at hl 2 rfl) ?_
      refine n_iast X hW (f := L) 2 0 rfl rfl (by omega) (by decide) dX6_levels_67 (wM cI cZ mq ma mg mh (sF mF 4 (sF L j (mF 4 j))) mE) rfl (fun H locs hW => ?_)
      have hW : Wd D A s.heap H locs (wM cI cZ mq ma mg mh (sF mF 4 (mF 4)) mE) := hW.eq (congrArg (fun z => (wM cI cZ mq ma mg mh (sF mF 4 z) mE)) (show (sF L j (mF 4 j)) = (mF 4) from by rw [hv.2, sF_id]))
      have hW : Wd D A s.heap H locs (wM cI cZ mq ma mg mh mF mE) := hW
      refine x_iload_n X dX6_levels_68 rfl (lv_at hl 1 rfl) ?_
      exact x_iret X hW rfl () ((by rw [show v = 10 by omega]; unfold aLev; (try rw [onR_in hj (by omega)]); (try rfl))) rfl dX6_levels_69
    · refine x_aload_n X dX6_levels_29 rfl (lv_at hl 3 rfl) ?_
      refine x_get X hW (v := .ref (ma 4)) hi6 0 rfl rfl 4 (by decide) (List.mem_of_getElem? (i := 1) rfl) rfl rfl dX6_levels_30 ?_
      refine x_iload_n X dX6_levels_33 rfl (lv_at hl 4 rfl) ?_
      refine x_iload X dX6_levels_34 (lv_at hl 0 rfl) ?_
      refine n_iast X hW (f := L) 2 0 rfl rfl (by omega) (by decide) dX6_levels_36 (wM cI cZ mq ma mg mh (sF mF 4 (sF L j v)) mE) rfl (fun H locs hW => ?_)
      have hW : Wd D A s.heap H locs (wM cI cZ mq ma mg mh (sF mF 4 (sF (mF 4) j v)) mE) := hW.eq (congrArg (fun z => (wM cI cZ mq ma mg mh (sF mF 4 z) mE)) (show (sF L j v) = (sF (mF 4) j v) from by exact hv.2 v))
      refine x_iload_n X dX6_levels_37 rfl (lv_at hl 1 rfl) ?_
      refine x_aload_n X dX6_levels_38 rfl (lv_at hl 3 rfl) ?_
      refine x_callVi0 X hW (As := []) (rest := [.int (setI (fun z => fitP (mg 21) (mF 22) (mE 23) (mF 24) (mF 3) (sF (mF 4) j z) (mF 5)) v)]) (c_X6_areSo l D cI cZ cO mq ma mg mh (sF mF 4 (sF (mF 4) j v)) mE _ (show (mg 2) ≤ 4 from (by first | assumption | omega)) (show (mg 21) ≤ 8 from (by first | assumption | omega)) (show ∀ z0, z0 < (mg 21) → (mF 22) z0 < 4 from (by first | assumption | omega)) (show ∀ z0, z0 < (mg 21) → okA ((mE 23) z0) from (by first | assumption | omega)) (show ∀ z0, (mF 24) z0 ≤ 1 from (by first | assumption | omega)) (show ∀ z0, (mF 3) z0 ≤ 2 from (by first | assumption | omega)) (show ∀ z0, (sF (mF 4) j v) z0 ≤ 9 from (sF_le hlv (by omega))) (show ∀ z0, (mF 5) z0 ≤ 9 from (by first | assumption | omega))) (cwV 0 X.2.2.2.2.2.1 gX6_levels_X6_areSo rfl rfl rfl (by decide +kernel) ⟨Nat.le_of_ble_eq_true rfl, Nat.le_of_ble_eq_true rfl⟩) 0 5 rfl rfl rfl rfl hl.1 rfl (Nat.le_of_ble_eq_true rfl) ⟨Nat.le_of_ble_eq_true rfl, Nat.le_of_ble_eq_true rfl⟩ dX6_levels_39 (fun r3 u4 H locs w39 hW => ?_)
      have hW : Wd D A s.heap H locs (wM cI cZ mq ma mg mh (sF mF 4 (sF (mF 4) j v)) mE) := hW
      replace w39 : (r3 = nI 1 ∧ (fitP ((mg 21)) ((mF 22)) ((mE 23)) ((mF 24)) ((mF 3)) ((sF (mF 4) j v)) ((mF 5))) ∨ r3 = nI 0 ∧ ¬ (fitP ((mg 21)) ((mF 22)) ((mE 23)) ((mF 24)) ((mF 3)) ((sF (mF 4) j v)) ((mF 5)))) := w39
      rcases w39 with ⟨w39, h39⟩ | ⟨w39, h39⟩
      · subst w39
        refine n_if_eq X 52 dX6_levels_42 (by decide) (by decide) (fun c42 => by exact absurd c42 (by decide)) (fun c42 => ?_)
        refine x_iconst (v := nI 1) X dX6_levels_45 (by decide) ?_
        refine x_iload X dX6_levels_46 (lv_at hl 0 rfl) ?_
        refine x_ishl (v := (nI 1) <<< ((nI v) &&& 31)) X dX6_levels_48 rfl ?_
        refine x_goto X 53 dX6_levels_49 (by decide) ?_
        refine x_ior (v := (setI (fun z => fitP (mg 21) (mF 22) (mE 23) (mF 24) (mF 3) (sF (mF 4) j z) (mF 5)) v) ||| ((nI 1) <<< ((nI v) &&& 31))) X dX6_levels_53 rfl ?_
        refine i_as0 (b := setI (fun z => fitP (mg 21) (mF 22) (mE 23) (mF 24) (mF 3) (sF (mF 4) j z) (mF 5)) (v + 1)) (by first | exact (setI_y h39).symm | (rw [or0]; exact (setI_n h39).symm)) ?_
        refine x_istore_n X [(3, .int (setI (fun z => fitP (mg 21) (mF 22) (mE 23) (mF 24) (mF 3) (sF (mF 4) j z) (mF 5)) (v + 1))), (4, .int (nI v)), (2, .int (nI (mF 4 j))), (0, .ref mq), (1, .int (nI j))] dX6_levels_54 rfl hl (by decide) rfl (fun ls hl => ?_)
        refine x_iinc X [(4, .int (nI (v + 1))), (3, .int (setI (fun z => fitP (mg 21) (mF 22) (mE 23) (mF 24) (mF 3) (sF (mF 4) j z) (mF 5)) (v + 1))), (2, .int (nI (mF 4 j))), (0, .ref mq), (1, .int (nI j))] (k := 1) dX6_levels_55 hl rfl (nI_inc1 v) (by decide) rfl (fun ls hl => ?_)
        refine x_goto X 22 dX6_levels_58 (by decide) ?_
        exact ih22 ((v + 1), (sF (mF 4) j v)) _ _ _ ⟨(show (v + 1) ≤ 10 ∧ (∀ z0, sF (sF (mF 4) j v) j z0 = sF (mF 4) j z0) from (by first | exact ⟨by omega, fun _ => rfl⟩ | exact ⟨by omega, fun _ => sF_sF _ _ _ _⟩)), hW, lv_sub hl [0, 1, 2, 3, 4] rfl⟩ (by omega)
      · subst w39
        refine n_if_eq X 52 dX6_levels_42 (by decide) (by decide) (fun c42 => ?_) (fun c42 => by exact absurd c42 (by decide))
        refine x_iconst (v := nI 0) X dX6_levels_52 (by decide) ?_
        refine x_ior (v := (setI (fun z => fitP (mg 21) (mF 22) (mE 23) (mF 24) (mF 3) (sF (mF 4) j z) (mF 5)) v) ||| (nI 0)) X dX6_levels_53 rfl ?_
        refine i_as0 (b := setI (fun z => fitP (mg 21) (mF 22) (mE 23) (mF 24) (mF 3) (sF (mF 4) j z) (mF 5)) (v + 1)) (by first | exact (setI_y h39).symm | (rw [or0]; exact (setI_n h39).symm)) ?_
        refine x_istore_n X [(3, .int (setI (fun z => fitP (mg 21) (mF 22) (mE 23) (mF 24) (mF 3) (sF (mF 4) j z) (mF 5)) (v + 1))), (4, .int (nI v)), (2, .int (nI (mF 4 j))), (0, .ref mq), (1, .int (nI j))] dX6_levels_54 rfl hl (by decide) rfl (fun ls hl => ?_)
        refine x_iinc X [(4, .int (nI (v + 1))), (3, .int (setI (fun z => fitP (mg 21) (mF 22) (mE 23) (mF 24) (mF 3) (sF (mF 4) j z) (mF 5)) (v + 1))), (2, .int (nI (mF 4 j))), (0, .ref mq), (1, .int (nI j))] (k := 1) dX6_levels_55 hl rfl (nI_inc1 v) (by decide) rfl (fun ls hl => ?_)
        refine x_goto X 22 dX6_levels_58 (by decide) ?_
        exact ih22 ((v + 1), (sF (mF 4) j v)) _ _ _ ⟨(show (v + 1) ≤ 10 ∧ (∀ z0, sF (sF (mF 4) j v) j z0 = sF (mF 4) j z0) from (by first | exact ⟨by omega, fun _ => rfl⟩ | exact ⟨by omega, fun _ => sF_sF _ _ _ _⟩)), hW, lv_sub hl [0, 1, 2, 3, 4] rfl⟩ (by omega)
set_option maxHeartbeats 4000000 in
set_option maxRecDepth 100000 in
theorem c_X6_put (l : Launch) (D : va_G) (cI cZ cO : ClassId) (mq : Nat) (ma : Nat → Nat) (mg : Nat → Nat) (mh : Nat → Int32) (mF : Nat → Nat → Nat) (mE : Nat → Nat → Int32) (sz : Nat) (k0 : Int32) (i0 : Int32) (v : Int32) (th : Nat → Nat) (ct : Nat → Nat) (hS : ∀ z, z < 4 → (th z = 0 ∧ mE 25 z = (-1 : Int32)) ∨ (th z = 1 ∧ mE 25 z = nI (ct z))) (hct : ∀ z0, ct z0 ≤ 60) (hlnm : ∀ z0, mF 26 z0 ≤ 2) : Met l yX6_put wsX6_put ({ frames := 2, cells := 0, slots := 0, locals := 47 }) (va_Pc [.ref mq, .int k0, .int i0, .int v] (st_W D (ty3 cI cZ cO) (wM cI cZ mq ma mg mh mF mE) sz)) (va_Qi (fun (rr : Int32) (u : Unit) => rr = aPut th ct k0 i0) (fun u t => at_W D (ty3 cI cZ cO) (va_A (wM cI cZ mq ma mg mh mF mE) sz) (wM cI cZ mq ma (sF mg 0 (fPut th ct k0 i0)) mh mF (sF mE 27 (sPut th ct (mF 26) k0 i0 v (mE 27) 60))) t) (va_A (wM cI cZ mq ma mg mh mF mE) sz)) 0 0 (va_A (wM cI cZ mq ma mg mh mF mE) sz) := by
  refine Met.goi (cc := cX6_put) (maxL := 4) (ret := (some .int)) (by decide) rfl (Nat.le_of_ble_eq_true rfl) (fun p e s m below meth c A ls X hW hl => ?_)
  have hi6 : ∀ w ∈ wsX60, w ∈ wsX6_put := fun w h => List.mem_cons_of_mem _ (List.mem_append_right _ h)
  have hl : lv_has ls 4 [(0, .ref mq), (1, .int k0), (2, .int i0), (3, .int v)] := hl
  refine x_iload_n X dX6_put_0 rfl (lv_at hl 1 rfl) ?_
  refine x_callSie X hW (As := [.int k0]) (rest := []) (c_X6_noSheet l D cI cZ cO  _ k0) (va_cwS 1 X.2.2.2.2.2.1 gX6_put_X6_noSheet rfl rfl rfl (by decide +kernel) ⟨Nat.le_of_ble_eq_true rfl, Nat.le_of_ble_eq_true rfl⟩) rfl hl.1 rfl (Nat.le_of_ble_eq_true rfl) ⟨Nat.le_of_ble_eq_true rfl, Nat.le_of_ble_eq_true rfl⟩ dX6_put_1 (fun r1 u2 H locs w1 hW => ?_)
  have hW : Wd D A s.heap H locs (wM cI cZ mq ma mg mh mF mE) := hW
  replace w1 : (r1 = nI 1 ∧ (¬ inR k0 4) ∨ r1 = nI 0 ∧ ¬ (¬ inR k0 4)) := w1
  rcases w1 with ⟨w1, h1⟩ | ⟨w1, h1⟩
  · subst w1
    have gk0 := h1
    refine n_if_eq X 13 dX6_put_4 (by decide) (by decide) (fun c4 => by exact absurd c4 (by decide)) (fun c4 => ?_)
    refine x_aload_n X dX6_put_7 rfl (lv_at hl 0 rfl) ?_
    refine x_iconst (v := (-1 : Int32)) X dX6_put_8 (by decide) ?_
    refine x_callVi0 X hW (As := [.int (-1 : Int32)]) (rest := []) (c_X6_refused l D cI cZ cO mq ma mg mh mF mE _ (-1 : Int32)) (cwV 1 X.2.2.2.2.2.1 gX6_put_X6_refused rfl rfl rfl (by decide +kernel) ⟨Nat.le_of_ble_eq_true rfl, Nat.le_of_ble_eq_true rfl⟩) 0 5 rfl rfl rfl rfl hl.1 rfl (Nat.le_of_ble_eq_true rfl) ⟨Nat.le_of_ble_eq_true rfl, Nat.le_of_ble_eq_true rfl⟩ dX6_put_9 (fun r3 u4 H locs w9 hW => ?_)
    have hW : Wd D A s.heap H locs (wM cI cZ mq ma (sF mg 0 0) mh mF mE) := hW
    replace w9 : r3 = (-1 : Int32) := w9
    subst w9
    exact x_iret X hW rfl () (by unfold aPut; (try rw [onR_out gk0]); (try rfl)) (Eq.trans (congrArg (fun z => (wM cI cZ mq ma (sF mg 0 z) mh mF mE)) (show 0 = (fPut th ct k0 i0) from by unfold fPut; (try rw [onR_out gk0]); (try rfl))) (congrArg (fun z => (wM cI cZ mq ma (sF mg 0 (fPut th ct k0 i0)) mh mF (sF mE 27 z))) (show (mE 27) = (sPut th ct (mF 26) k0 i0 v (mE 27) 60) from by unfold sPut; (try rw [onR_out gk0]); (try rfl)))) dX6_put_12
  · subst w1
    obtain ⟨k, hk, rfl⟩ := inR_ex (Classical.not_not.mp h1) (by omega)
    refine n_if_eq X 13 dX6_put_4 (by decide) (by decide) (fun c4 => ?_) (fun c4 => by exact absurd c4 (by decide))
    refine x_aload_n X dX6_put_13 rfl (lv_at hl 0 rfl) ?_
    refine x_iload_n X dX6_put_14 rfl (lv_at hl 1 rfl) ?_
    refine x_iload_n X dX6_put_15 rfl (lv_at hl 2 rfl) ?_
    refine x_callVi0 X hW (As := [.int (nI k), .int i0]) (rest := []) (c_X6_noCell l D cI cZ cO mq ma mg mh mF mE _ k i0 th ct (show k < 4 from (by first | assumption | omega)) (show (th k = 0 ∧ (mE 25) k = (-1 : Int32)) ∨ (th k = 1 ∧ (mE 25) k = nI (ct k)) from (hS k hk)) (show ct k ≤ 60 from (hct k))) (cwV 2 X.2.2.2.2.2.1 gX6_put_X6_noCell rfl rfl rfl (by decide +kernel) ⟨Nat.le_of_ble_eq_true rfl, Nat.le_of_ble_eq_true rfl⟩) 0 5 rfl rfl rfl rfl hl.1 rfl (Nat.le_of_ble_eq_true rfl) ⟨Nat.le_of_ble_eq_true rfl, Nat.le_of_ble_eq_true rfl⟩ dX6_put_16 (fun r5 u6 H locs w16 hW => ?_)
    have hW : Wd D A s.heap H locs (wM cI cZ mq ma mg mh mF mE) := hW
    replace w16 : r5 = nI (cellF (th k) (ct k) i0) := w16
    subst w16
    rcases Nat.eq_zero_or_pos (cellF (th k) (ct k) i0) with hz | hz
    · obtain ⟨hp1, hp2⟩ := cellF_0 hz
      have hctk := hct k
      obtain ⟨ii, hii, rfl⟩ := inR_ex hp2 (by omega)
      refine n_as0 (b := 0) hz ?_
      refine n_if_le X 33 dX6_put_19 (by decide) (by decide) (fun c19 => ?_) (fun c19 => by exact absurd c19 (by decide))
      refine x_aload_n X dX6_put_33 rfl (lv_at hl 0 rfl) ?_
      refine x_get X hW (v := .ref (ma 27)) hi6 0 rfl rfl 27 (by decide) (List.mem_of_getElem? (i := 1) rfl) rfl rfl dX6_put_34 ?_
      refine x_bipush (v := nI 60) X dX6_put_37 (by decide) ?_
      refine x_iload_n X dX6_put_39 rfl (lv_at hl 1 rfl) ?_
      refine n_imul X dX6_put_40 ?_
      refine x_iload_n X dX6_put_41 rfl (lv_at hl 2 rfl) ?_
      refine n_iadd X dX6_put_42 ?_
      refine x_aload_n X dX6_put_43 rfl (lv_at hl 0 rfl) ?_
      refine x_get X hW (v := .ref (ma 26)) hi6 0 rfl rfl 26 (by decide) (List.mem_of_getElem? (i := 2) rfl) rfl rfl dX6_put_44 ?_
      refine x_iload_n X dX6_put_47 rfl (lv_at hl 1 rfl) ?_
      refine n_iald X hW (f := mF 26) 15 0 rfl rfl (by omega) (by decide) dX6_put_48 ?_
      have b26 : mF 26 k ≤ 2 := hlnm k
      refine n_if_ne X 57 dX6_put_49 (by decide) (by omega) (fun c49 => ?_) (fun c49 => ?_)
      · refine x_aload_n X dX6_put_57 rfl (lv_at hl 0 rfl) ?_
        refine x_get X hW (v := .ref (ma 26)) hi6 0 rfl rfl 26 (by decide) (List.mem_of_getElem? (i := 2) rfl) rfl rfl dX6_put_58 ?_
        refine x_iload_n X dX6_put_61 rfl (lv_at hl 1 rfl) ?_
        refine n_iald X hW (f := mF 26) 15 0 rfl rfl (by omega) (by decide) dX6_put_62 ?_
        refine x_iconst (v := nI 1) X dX6_put_63 (by decide) ?_
        refine n_icmp_ne X 72 dX6_put_64 (by decide) (by omega) (by decide) (fun c64 => ?_) (fun c64 => ?_)
        · refine x_iload_n X dX6_put_72 rfl (lv_at hl 3 rfl) ?_
          refine i_as0 (b := cutI (mF 26 k) v) (by unfold cutI; first | (rw [if_pos (by omega)]; done) | (rw [if_neg (by omega), if_pos (by omega)]; done) | (rw [if_neg (by omega), if_neg (by omega)]; done)) ?_
          refine i_iast X hW (f := mE 27) 16 0 rfl rfl (by omega) (by decide) dX6_put_73 (wM cI cZ mq ma mg mh mF (sF mE 27 (sF (mE 27) ((60 * k) + ii) (cutI (mF 26 k) v)))) rfl (fun H locs hW => ?_)
          refine x_aload_n X dX6_put_74 rfl (lv_at hl 0 rfl) ?_
          refine x_iconst (v := nI 1) X dX6_put_75 (by decide) ?_
          refine x_callVi0 X hW (As := [.int (nI 1)]) (rest := []) (c_X6_refused l D cI cZ cO mq ma mg mh mF (sF mE 27 (sF (mE 27) ((60 * k) + ii) (cutI (mF 26 k) v))) _ (nI 1)) (cwV 1 X.2.2.2.2.2.1 gX6_put_X6_refused rfl rfl rfl (by decide +kernel) ⟨Nat.le_of_ble_eq_true rfl, Nat.le_of_ble_eq_true rfl⟩) 0 5 rfl rfl rfl rfl hl.1 rfl (Nat.le_of_ble_eq_true rfl) ⟨Nat.le_of_ble_eq_true rfl, Nat.le_of_ble_eq_true rfl⟩ dX6_put_76 (fun r7 u8 H locs w76 hW => ?_)
          have hW : Wd D A s.heap H locs (wM cI cZ mq ma (sF mg 0 0) mh mF (sF mE 27 (sF (mE 27) ((60 * k) + ii) (cutI (mF 26 k) v)))) := hW
          replace w76 : r7 = (nI 1) := w76
          subst w76
          exact x_iret X hW rfl () (by unfold aPut; rw [onR_in hk (by decide)]; exact (fl0 hz _).symm) (Eq.trans (congrArg (fun z => (wM cI cZ mq ma (sF mg 0 z) mh mF (sF mE 27 (sF (mE 27) ((60 * k) + ii) (cutI (mF 26 k) v))))) (show 0 = (fPut th ct (nI k) (nI ii)) from by unfold fPut; rw [onR_in hk (by decide)]; exact hz.symm)) (congrArg (fun z => (wM cI cZ mq ma (sF mg 0 (fPut th ct (nI k) (nI ii))) mh mF (sF mE 27 z))) (show (sF (mE 27) ((60 * k) + ii) (cutI (mF 26 k) v)) = (sPut th ct (mF 26) (nI k) (nI ii) v (mE 27) 60) from by unfold sPut; rw [onR_in hk (by decide), if_pos hz, nI_clamp (by omega)]))) dX6_put_79
        · refine x_iload_n X dX6_put_67 rfl (lv_at hl 3 rfl) ?_
          refine x_i2s (v := v.toInt16.toInt32) X dX6_put_68 rfl ?_
          refine x_goto X 73 dX6_put_69 (by decide) ?_
          refine i_as0 (b := cutI (mF 26 k) v) (by unfold cutI; first | (rw [if_pos (by omega)]; done) | (rw [if_neg (by omega), if_pos (by omega)]; done) | (rw [if_neg (by omega), if_neg (by omega)]; done)) ?_
          refine i_iast X hW (f := mE 27) 16 0 rfl rfl (by omega) (by decide) dX6_put_73 (wM cI cZ mq ma mg mh mF (sF mE 27 (sF (mE 27) ((60 * k) + ii) (cutI (mF 26 k) v)))) rfl (fun H locs hW => ?_)
          refine x_aload_n X dX6_put_74 rfl (lv_at hl 0 rfl) ?_
          refine x_iconst (v := nI 1) X dX6_put_75 (by decide) ?_
          refine x_callVi0 X hW (As := [.int (nI 1)]) (rest := []) (c_X6_refused l D cI cZ cO mq ma mg mh mF (sF mE 27 (sF (mE 27) ((60 * k) + ii) (cutI (mF 26 k) v))) _ (nI 1)) (cwV 1 X.2.2.2.2.2.1 gX6_put_X6_refused rfl rfl rfl (by decide +kernel) ⟨Nat.le_of_ble_eq_true rfl, Nat.le_of_ble_eq_true rfl⟩) 0 5 rfl rfl rfl rfl hl.1 rfl (Nat.le_of_ble_eq_true rfl) ⟨Nat.le_of_ble_eq_true rfl, Nat.le_of_ble_eq_true rfl⟩ dX6_put_76 (fun r9 u10 H locs w76 hW => ?_)
          have hW : Wd D A s.heap H locs (wM cI cZ mq ma (sF mg 0 0) mh mF (sF mE 27 (sF (mE 27) ((60 * k) + ii) (cutI (mF 26 k) v)))) := hW
          replace w76 : r9 = (nI 1) := w76
          subst w76
          exact x_iret X hW rfl () (by unfold aPut; rw [onR_in hk (by decide)]; exact (fl0 hz _).symm) (Eq.trans (congrArg (fun z => (wM cI cZ mq ma (sF mg 0 z) mh mF (sF mE 27 (sF (mE 27) ((60 * k) + ii) (cutI (mF 26 k) v))))) (show 0 = (fPut th ct (nI k) (nI ii)) from by unfold fPut; rw [onR_in hk (by decide)]; exact hz.symm)) (congrArg (fun z => (wM cI cZ mq ma (sF mg 0 (fPut th ct (nI k) (nI ii))) mh mF (sF mE 27 z))) (show (sF (mE 27) ((60 * k) + ii) (cutI (mF 26 k) v)) = (sPut th ct (mF 26) (nI k) (nI ii) v (mE 27) 60) from by unfold sPut; rw [onR_in hk (by decide), if_pos hz, nI_clamp (by omega)]))) dX6_put_79
      · refine x_iload_n X dX6_put_52 rfl (lv_at hl 3 rfl) ?_
        refine x_i2b (v := v.toInt8.toInt32) X dX6_put_53 rfl ?_
        refine x_goto X 73 dX6_put_54 (by decide) ?_
        refine i_as0 (b := cutI (mF 26 k) v) (by unfold cutI; first | (rw [if_pos (by omega)]; done) | (rw [if_neg (by omega), if_pos (by omega)]; done) | (rw [if_neg (by omega), if_neg (by omega)]; done)) ?_
        refine i_iast X hW (f := mE 27) 16 0 rfl rfl (by omega) (by decide) dX6_put_73 (wM cI cZ mq ma mg mh mF (sF mE 27 (sF (mE 27) ((60 * k) + ii) (cutI (mF 26 k) v)))) rfl (fun H locs hW => ?_)
        refine x_aload_n X dX6_put_74 rfl (lv_at hl 0 rfl) ?_
        refine x_iconst (v := nI 1) X dX6_put_75 (by decide) ?_
        refine x_callVi0 X hW (As := [.int (nI 1)]) (rest := []) (c_X6_refused l D cI cZ cO mq ma mg mh mF (sF mE 27 (sF (mE 27) ((60 * k) + ii) (cutI (mF 26 k) v))) _ (nI 1)) (cwV 1 X.2.2.2.2.2.1 gX6_put_X6_refused rfl rfl rfl (by decide +kernel) ⟨Nat.le_of_ble_eq_true rfl, Nat.le_of_ble_eq_true rfl⟩) 0 5 rfl rfl rfl rfl hl.1 rfl (Nat.le_of_ble_eq_true rfl) ⟨Nat.le_of_ble_eq_true rfl, Nat.le_of_ble_eq_true rfl⟩ dX6_put_76 (fun r11 u12 H locs w76 hW => ?_)
        have hW : Wd D A s.heap H locs (wM cI cZ mq ma (sF mg 0 0) mh mF (sF mE 27 (sF (mE 27) ((60 * k) + ii) (cutI (mF 26 k) v)))) := hW
        replace w76 : r11 = (nI 1) := w76
        subst w76
        exact x_iret X hW rfl () (by unfold aPut; rw [onR_in hk (by decide)]; exact (fl0 hz _).symm) (Eq.trans (congrArg (fun z => (wM cI cZ mq ma (sF mg 0 z) mh mF (sF mE 27 (sF (mE 27) ((60 * k) + ii) (cutI (mF 26 k) v))))) (show 0 = (fPut th ct (nI k) (nI ii)) from by unfold fPut; rw [onR_in hk (by decide)]; exact hz.symm)) (congrArg (fun z => (wM cI cZ mq ma (sF mg 0 (fPut th ct (nI k) (nI ii))) mh mF (sF mE 27 z))) (show (sF (mE 27) ((60 * k) + ii) (cutI (mF 26 k) v)) = (sPut th ct (mF 26) (nI k) (nI ii) v (mE 27) 60) from by unfold sPut; rw [onR_in hk (by decide), if_pos hz, nI_clamp (by omega)]))) dX6_put_79
    · have hz := Nat.ne_of_gt hz
      have hle := cellF_le (th k) (ct k) i0
      refine n_if_le X 33 dX6_put_19 (by decide) (by omega) (fun c19 => by omega) (fun c19 => ?_)
      refine x_aload_n X dX6_put_22 rfl (lv_at hl 0 rfl) ?_
      refine x_aload_n X dX6_put_23 rfl (lv_at hl 0 rfl) ?_
      refine x_iload_n X dX6_put_24 rfl (lv_at hl 1 rfl) ?_
      refine x_iload_n X dX6_put_25 rfl (lv_at hl 2 rfl) ?_
      refine x_callVi0 X hW (As := [.int (nI k), .int i0]) (rest := [.ref mq]) (c_X6_noCell l D cI cZ cO mq ma mg mh mF mE _ k i0 th ct (show k < 4 from (by first | assumption | omega)) (show (th k = 0 ∧ (mE 25) k = (-1 : Int32)) ∨ (th k = 1 ∧ (mE 25) k = nI (ct k)) from (hS k hk)) (show ct k ≤ 60 from (hct k))) (cwV 2 X.2.2.2.2.2.1 gX6_put_X6_noCell rfl rfl rfl (by decide +kernel) ⟨Nat.le_of_ble_eq_true rfl, Nat.le_of_ble_eq_true rfl⟩) 0 5 rfl rfl rfl rfl hl.1 rfl (Nat.le_of_ble_eq_true rfl) ⟨Nat.le_of_ble_eq_true rfl, Nat.le_of_ble_eq_true rfl⟩ dX6_put_26 (fun r13 u14 H locs w26 hW => ?_)
      have hW : Wd D A s.heap H locs (wM cI cZ mq ma mg mh mF mE) := hW
      replace w26 : r13 = nI (cellF (th k) (ct k) i0) := w26
      subst w26
      refine x_callVi0 X hW (As := [.int (nI (cellF (th k) (ct k) i0))]) (rest := []) (c_X6_failed l D cI cZ cO mq ma mg mh mF mE _ (cellF (th k) (ct k) i0)) (cwV 1 X.2.2.2.2.2.1 gX6_put_X6_failed rfl rfl rfl (by decide +kernel) ⟨Nat.le_of_ble_eq_true rfl, Nat.le_of_ble_eq_true rfl⟩) 0 5 rfl rfl rfl rfl hl.1 rfl (Nat.le_of_ble_eq_true rfl) ⟨Nat.le_of_ble_eq_true rfl, Nat.le_of_ble_eq_true rfl⟩ dX6_put_29 (fun r15 u16 H locs w29 hW => ?_)
      have hW : Wd D A s.heap H locs (wM cI cZ mq ma (sF mg 0 (cellF (th k) (ct k) i0)) mh mF mE) := hW
      replace w29 : r15 = (-10) - nI (cellF (th k) (ct k) i0) := w29
      subst w29
      exact x_iret X hW rfl () (by unfold aPut; rw [onR_in hk (by decide)]; exact (fail_le hle hz _).symm) (Eq.trans (congrArg (fun z => (wM cI cZ mq ma (sF mg 0 z) mh mF mE)) (show (cellF (th k) (ct k) i0) = (fPut th ct (nI k) i0) from by unfold fPut; rw [onR_in hk (by decide)])) (congrArg (fun z => (wM cI cZ mq ma (sF mg 0 (fPut th ct (nI k) i0)) mh mF (sF mE 27 z))) (show (mE 27) = (sPut th ct (mF 26) (nI k) i0 v (mE 27) 60) from by unfold sPut; rw [onR_in hk (by decide), if_neg hz]))) dX6_put_32
set_option maxHeartbeats 4000000 in
set_option maxRecDepth 100000 in
theorem c_X6_cell (l : Launch) (D : va_G) (cI cZ cO : ClassId) (mq : Nat) (ma : Nat → Nat) (mg : Nat → Nat) (mh : Nat → Int32) (mF : Nat → Nat → Nat) (mE : Nat → Nat → Int32) (sz : Nat) (k0 : Int32) (i0 : Int32) (lane : Int32) (th : Nat → Nat) (ct : Nat → Nat) (hS : ∀ z, z < 4 → (th z = 0 ∧ mE 25 z = (-1 : Int32)) ∨ (th z = 1 ∧ mE 25 z = nI (ct z))) (hct : ∀ z0, ct z0 ≤ 60) (hlnm : ∀ z0, mF 26 z0 ≤ 2) : Met l yX6_cell wsX6_cell ({ frames := 2, cells := 0, slots := 0, locals := 47 }) (va_Pc [.ref mq, .int k0, .int i0, .int lane] (st_W D (ty3 cI cZ cO) (wM cI cZ mq ma mg mh mF mE) sz)) (va_Ql (fun (rr : Int64) (u : Unit) => rr = aCell th (mF 26) ct (fun j y => mE 27 (60 * j + y)) k0 i0 lane) (fun u t => at_W D (ty3 cI cZ cO) (va_A (wM cI cZ mq ma mg mh mF mE) sz) (wM cI cZ mq ma (sF mg 0 (fCell th (mF 26) ct k0 i0 lane)) mh mF mE) t) (va_A (wM cI cZ mq ma mg mh mF mE) sz)) 0 0 (va_A (wM cI cZ mq ma mg mh mF mE) sz) := by
  refine Met.gol (cc := cX6_cell) (maxL := 4) (ret := (some .long)) (by decide) rfl (Nat.le_of_ble_eq_true rfl) (fun p e s m below meth c A ls X hW hl => ?_)
  have hi6 : ∀ w ∈ wsX60, w ∈ wsX6_cell := fun w h => List.mem_cons_of_mem _ (List.mem_append_right _ h)
  have hl : lv_has ls 4 [(0, .ref mq), (1, .int k0), (2, .int i0), (3, .int lane)] := hl
  refine x_aload_n X dX6_cell_0 rfl (lv_at hl 0 rfl) ?_
  refine x_iconst (v := nI 0) X dX6_cell_1 (by decide) ?_
  refine x_put X hW (v := .int (nI 0)) hi6 tyX6 tyX6_ok nmX6 0 rfl rfl 0 (by decide) (List.mem_of_getElem? (i := 1) rfl) rfl rfl rfl rfl (Nat.le_of_ble_eq_true rfl) dX6_cell_2 (wM cI cZ mq ma (sF mg 0 0) mh mF mE) rfl (fun H locs hW => ?_)
  refine x_iload_n X dX6_cell_5 rfl (lv_at hl 1 rfl) ?_
  refine x_callSie X hW (As := [.int k0]) (rest := []) (c_X6_noSheet l D cI cZ cO  _ k0) (va_cwS 1 X.2.2.2.2.2.1 gX6_cell_X6_noSheet rfl rfl rfl (by decide +kernel) ⟨Nat.le_of_ble_eq_true rfl, Nat.le_of_ble_eq_true rfl⟩) rfl hl.1 rfl (Nat.le_of_ble_eq_true rfl) ⟨Nat.le_of_ble_eq_true rfl, Nat.le_of_ble_eq_true rfl⟩ dX6_cell_6 (fun r1 u2 H locs w6 hW => ?_)
  have hW : Wd D A s.heap H locs (wM cI cZ mq ma (sF mg 0 0) mh mF mE) := hW
  replace w6 : (r1 = nI 1 ∧ (¬ inR k0 4) ∨ r1 = nI 0 ∧ ¬ (¬ inR k0 4)) := w6
  rcases w6 with ⟨w6, h6⟩ | ⟨w6, h6⟩
  · subst w6
    have gk0 := h6
    refine n_if_ne X 24 dX6_cell_9 (by decide) (by decide) (fun c9 => ?_) (fun c9 => by exact absurd c9 (by decide))
    refine x_callSle X hW (As := []) (rest := []) (c_X6_lost l D cI cZ cO  _ ) (va_cwS 0 X.2.2.2.2.2.1 gX6_cell_X6_lost rfl rfl rfl (by decide +kernel) ⟨Nat.le_of_ble_eq_true rfl, Nat.le_of_ble_eq_true rfl⟩) rfl hl.1 rfl (Nat.le_of_ble_eq_true rfl) ⟨Nat.le_of_ble_eq_true rfl, Nat.le_of_ble_eq_true rfl⟩ dX6_cell_24 (fun r3 u4 H locs w24 hW => ?_)
    have hW : Wd D A s.heap H locs (wM cI cZ mq ma (sF mg 0 0) mh mF mE) := hW
    replace w24 : r3 = (-9223372036854775808) := w24
    subst w24
    exact x_lret X hW rfl () ((by unfold aCell; (try rw [onR_out gk0]); (try rfl))) (congrArg (fun z => (wM cI cZ mq ma (sF mg 0 z) mh mF mE)) (show 0 = (fCell th (mF 26) ct k0 i0 lane) from by unfold fCell; (try rw [onR_out gk0]); (try rfl))) dX6_cell_27
  · subst w6
    obtain ⟨k, hk, rfl⟩ := inR_ex (Classical.not_not.mp h6) (by omega)
    refine n_if_ne X 24 dX6_cell_9 (by decide) (by decide) (fun c9 => by exact absurd c9 (by decide)) (fun c9 => ?_)
    refine x_iload_n X dX6_cell_12 rfl (lv_at hl 3 rfl) ?_
    refine x_i2l (v := lane.toInt64) X dX6_cell_13 rfl ?_
    refine x_lconst (v := 0) X dX6_cell_14 (by decide) ?_
    refine x_ldc2 (v := (2)) X (List.mem_of_getElem? (i := 2) rfl) dX6_cell_15 ?_
    refine x_callSie X hW (As := [.long lane.toInt64, .long (0 : Int64), .long (2 : Int64)]) (rest := []) (c_X6_in l D cI cZ cO  _ lane.toInt64 (0 : Int64) (2 : Int64)) (va_cwS 3 X.2.2.2.2.2.1 gX6_cell_X6_in rfl rfl rfl (by decide +kernel) ⟨Nat.le_of_ble_eq_true rfl, Nat.le_of_ble_eq_true rfl⟩) rfl hl.1 rfl (Nat.le_of_ble_eq_true rfl) ⟨Nat.le_of_ble_eq_true rfl, Nat.le_of_ble_eq_true rfl⟩ dX6_cell_18 (fun r5 u6 H locs w18 hW => ?_)
    have hW : Wd D A s.heap H locs (wM cI cZ mq ma (sF mg 0 0) mh mF mE) := hW
    replace w18 : (r5 = nI 1 ∧ ((0 : Int64).toInt ≤ lane.toInt64.toInt ∧ lane.toInt64.toInt ≤ (2 : Int64).toInt) ∨ r5 = nI 0 ∧ ¬ ((0 : Int64).toInt ≤ lane.toInt64.toInt ∧ lane.toInt64.toInt ≤ (2 : Int64).toInt)) := w18
    rcases w18 with ⟨w18, h18⟩ | ⟨w18, h18⟩
    · subst w18
      obtain ⟨ln, hln, rfl⟩ := inR_ex ((in_iff (r := lane) (n := 3) l_0 (by decide)).mp h18) (by omega)
      refine n_if_ne X 28 dX6_cell_21 (by decide) (by decide) (fun c21 => ?_) (fun c21 => by exact absurd c21 (by decide))
      have hctk := hct k
      rcases hS k hk with ⟨hst, hs⟩ | ⟨hst, hs⟩
      · have hb : barF (th k) (mF 26 k) (ct k) (nI ln) i0 (nI 1) = cellF (th k) (ct k) i0 := by rw [bar0 hst]; unfold cellF; rw [if_pos hst]
        refine x_aload_n X dX6_cell_28 rfl (lv_at hl 0 rfl) ?_
        refine x_get X hW (v := .ref (ma 25)) hi6 0 rfl rfl 25 (by decide) (List.mem_of_getElem? (i := 3) rfl) rfl rfl dX6_cell_29 ?_
        refine x_iload_n X dX6_cell_32 rfl (lv_at hl 1 rfl) ?_
        refine i_iald X hW (f := mE 25) 14 0 rfl rfl (by omega) (by decide) dX6_cell_33 ?_
        refine i_as0 (b := (-1 : Int32)) hs ?_
        refine x_if_lt X 53 dX6_cell_34 (by decide) (fun c34 => ?_) (fun c34 => by first | exact absurd c34 (by decide) | exact absurd (by decide) c34)
        have hb : barF (th k) (mF 26 k) (ct k) (nI ln) i0 (nI 1) = cellF (th k) (ct k) i0 := by first | exact hb | exact bar1 (by rw [c44])
        refine x_aload_n X dX6_cell_53 rfl (lv_at hl 0 rfl) ?_
        refine x_iload_n X dX6_cell_54 rfl (lv_at hl 1 rfl) ?_
        refine x_iload_n X dX6_cell_55 rfl (lv_at hl 2 rfl) ?_
        refine x_callVi0 X hW (As := [.int (nI k), .int i0]) (rest := []) (c_X6_noCell l D cI cZ cO mq ma (sF mg 0 0) mh mF mE _ k i0 th ct (show k < 4 from (by first | assumption | omega)) (show (th k = 0 ∧ (mE 25) k = (-1 : Int32)) ∨ (th k = 1 ∧ (mE 25) k = nI (ct k)) from (hS k hk)) (show ct k ≤ 60 from (hct k))) (cwV 2 X.2.2.2.2.2.1 gX6_cell_X6_noCell rfl rfl rfl (by decide +kernel) ⟨Nat.le_of_ble_eq_true rfl, Nat.le_of_ble_eq_true rfl⟩) 0 5 rfl rfl rfl rfl hl.1 rfl (Nat.le_of_ble_eq_true rfl) ⟨Nat.le_of_ble_eq_true rfl, Nat.le_of_ble_eq_true rfl⟩ dX6_cell_56 (fun r7 u8 H locs w56 hW => ?_)
        have hW : Wd D A s.heap H locs (wM cI cZ mq ma (sF mg 0 0) mh mF mE) := hW
        replace w56 : r7 = nI (cellF (th k) (ct k) i0) := w56
        subst w56
        rcases Nat.eq_zero_or_pos (cellF (th k) (ct k) i0) with hz | hz
        · obtain ⟨hp1, hp2⟩ := cellF_0 hz
          obtain ⟨ii, hii, rfl⟩ := inR_ex hp2 (by omega)
          refine n_as0 (b := 0) hz ?_
          refine n_if_le X 75 dX6_cell_59 (by decide) (by decide) (fun c59 => ?_) (fun c59 => by exact absurd c59 (by decide))
          refine x_aload_n X dX6_cell_75 rfl (lv_at hl 0 rfl) ?_
          refine x_get X hW (v := .ref (ma 27)) hi6 0 rfl rfl 27 (by decide) (List.mem_of_getElem? (i := 5) rfl) rfl rfl dX6_cell_76 ?_
          refine x_bipush (v := nI 60) X dX6_cell_79 (by decide) ?_
          refine x_iload_n X dX6_cell_81 rfl (lv_at hl 1 rfl) ?_
          refine n_imul X dX6_cell_82 ?_
          refine x_iload_n X dX6_cell_83 rfl (lv_at hl 2 rfl) ?_
          refine n_iadd X dX6_cell_84 ?_
          refine i_iald X hW (f := mE 27) 16 0 rfl rfl (by omega) (by decide) dX6_cell_85 ?_
          refine x_i2l (v := (mE 27 ((60 * k) + ii)).toInt64) X dX6_cell_86 rfl ?_
          exact x_lret X hW rfl () ((by unfold aCell; (try rw [onR_in hk (by omega)]); (try rw [onR_in hln (by omega)]); (try rw [if_pos (hb.trans hz)]); (try rw [nI_clamp (by omega)]); (try rw [hb]); (try rw [hz]); (try rfl))) (congrArg (fun z => (wM cI cZ mq ma (sF mg 0 z) mh mF mE)) (show 0 = (fCell th (mF 26) ct (nI k) (nI ii) (nI ln)) from by unfold fCell; (try rw [onR_in hk (by omega)]); (try rw [onR_in hln (by omega)]); (try rw [if_pos (hb.trans hz)]); (try rw [nI_clamp (by omega)]); (try rw [hb]); (try rw [hz]); (try rfl))) dX6_cell_87
        · have hz := Nat.ne_of_gt hz
          have hle := cellF_le (th k) (ct k) i0
          refine n_if_le X 75 dX6_cell_59 (by decide) (by omega) (fun c59 => by omega) (fun c59 => ?_)
          refine x_aload_n X dX6_cell_62 rfl (lv_at hl 0 rfl) ?_
          refine x_aload_n X dX6_cell_63 rfl (lv_at hl 0 rfl) ?_
          refine x_iload_n X dX6_cell_64 rfl (lv_at hl 1 rfl) ?_
          refine x_iload_n X dX6_cell_65 rfl (lv_at hl 2 rfl) ?_
          refine x_callVi0 X hW (As := [.int (nI k), .int i0]) (rest := [.ref mq]) (c_X6_noCell l D cI cZ cO mq ma (sF mg 0 0) mh mF mE _ k i0 th ct (show k < 4 from (by first | assumption | omega)) (show (th k = 0 ∧ (mE 25) k = (-1 : Int32)) ∨ (th k = 1 ∧ (mE 25) k = nI (ct k)) from (hS k hk)) (show ct k ≤ 60 from (hct k))) (cwV 2 X.2.2.2.2.2.1 gX6_cell_X6_noCell rfl rfl rfl (by decide +kernel) ⟨Nat.le_of_ble_eq_true rfl, Nat.le_of_ble_eq_true rfl⟩) 0 5 rfl rfl rfl rfl hl.1 rfl (Nat.le_of_ble_eq_true rfl) ⟨Nat.le_of_ble_eq_true rfl, Nat.le_of_ble_eq_true rfl⟩ dX6_cell_66 (fun r9 u10 H locs w66 hW => ?_)
          have hW : Wd D A s.heap H locs (wM cI cZ mq ma (sF mg 0 0) mh mF mE) := hW
          replace w66 : r9 = nI (cellF (th k) (ct k) i0) := w66
          subst w66
          refine x_callVl0 X hW (As := [.int (nI (cellF (th k) (ct k) i0))]) (rest := []) (c_X6_failedLong l D cI cZ cO mq ma (sF mg 0 0) mh mF mE _ (cellF (th k) (ct k) i0)) (cwV 1 X.2.2.2.2.2.1 gX6_cell_X6_failedLong rfl rfl rfl (by decide +kernel) ⟨Nat.le_of_ble_eq_true rfl, Nat.le_of_ble_eq_true rfl⟩) 0 5 rfl rfl rfl rfl hl.1 rfl (Nat.le_of_ble_eq_true rfl) ⟨Nat.le_of_ble_eq_true rfl, Nat.le_of_ble_eq_true rfl⟩ dX6_cell_69 (fun r11 u12 H locs w69 hW => ?_)
          have hW : Wd D A s.heap H locs (wM cI cZ mq ma (sF mg 0 (cellF (th k) (ct k) i0)) mh mF mE) := hW
          replace w69 : r11 = (-9223372036854775808) := w69
          subst w69
          refine x_goto X 87 dX6_cell_72 (by decide) ?_
          exact x_lret X hW rfl () ((by unfold aCell; (try rw [onR_in hk (by omega)]); (try rw [onR_in hln (by omega)]); (try rw [if_neg (by rw [hb]; exact hz)]); (try rw [hb]); (try rfl))) (congrArg (fun z => (wM cI cZ mq ma (sF mg 0 z) mh mF mE)) (show (cellF (th k) (ct k) i0) = (fCell th (mF 26) ct (nI k) i0 (nI ln)) from by unfold fCell; (try rw [onR_in hk (by omega)]); (try rw [onR_in hln (by omega)]); (try rw [if_neg (by rw [hb]; exact hz)]); (try rw [hb]); (try rfl))) dX6_cell_87
      · refine x_aload_n X dX6_cell_28 rfl (lv_at hl 0 rfl) ?_
        refine x_get X hW (v := .ref (ma 25)) hi6 0 rfl rfl 25 (by decide) (List.mem_of_getElem? (i := 3) rfl) rfl rfl dX6_cell_29 ?_
        refine x_iload_n X dX6_cell_32 rfl (lv_at hl 1 rfl) ?_
        refine i_iald X hW (f := mE 25) 14 0 rfl rfl (by omega) (by decide) dX6_cell_33 ?_
        refine i_as0 (b := nI (ct k)) hs ?_
        refine n_if_lt X 53 dX6_cell_34 (by decide) (by omega) ?_
        refine x_aload_n X dX6_cell_37 rfl (lv_at hl 0 rfl) ?_
        have b26 := hlnm k
        refine x_get X hW (v := .ref (ma 26)) hi6 0 rfl rfl 26 (by decide) (List.mem_of_getElem? (i := 4) rfl) rfl rfl dX6_cell_38 ?_
        refine x_iload_n X dX6_cell_41 rfl (lv_at hl 1 rfl) ?_
        refine n_iald X hW (f := mF 26) 15 0 rfl rfl (by omega) (by decide) dX6_cell_42 ?_
        refine x_iload_n X dX6_cell_43 rfl (lv_at hl 3 rfl) ?_
        refine n_icmp_eq X 53 dX6_cell_44 (by decide) (by omega) (by omega) (fun c44 => ?_) (fun c44 => ?_)
        · have hb : barF (th k) (mF 26 k) (ct k) (nI ln) i0 (nI 1) = cellF (th k) (ct k) i0 := by first | exact hb | exact bar1 (by rw [c44])
          refine x_aload_n X dX6_cell_53 rfl (lv_at hl 0 rfl) ?_
          refine x_iload_n X dX6_cell_54 rfl (lv_at hl 1 rfl) ?_
          refine x_iload_n X dX6_cell_55 rfl (lv_at hl 2 rfl) ?_
          refine x_callVi0 X hW (As := [.int (nI k), .int i0]) (rest := []) (c_X6_noCell l D cI cZ cO mq ma (sF mg 0 0) mh mF mE _ k i0 th ct (show k < 4 from (by first | assumption | omega)) (show (th k = 0 ∧ (mE 25) k = (-1 : Int32)) ∨ (th k = 1 ∧ (mE 25) k = nI (ct k)) from (hS k hk)) (show ct k ≤ 60 from (hct k))) (cwV 2 X.2.2.2.2.2.1 gX6_cell_X6_noCell rfl rfl rfl (by decide +kernel) ⟨Nat.le_of_ble_eq_true rfl, Nat.le_of_ble_eq_true rfl⟩) 0 5 rfl rfl rfl rfl hl.1 rfl (Nat.le_of_ble_eq_true rfl) ⟨Nat.le_of_ble_eq_true rfl, Nat.le_of_ble_eq_true rfl⟩ dX6_cell_56 (fun r13 u14 H locs w56 hW => ?_)
          have hW : Wd D A s.heap H locs (wM cI cZ mq ma (sF mg 0 0) mh mF mE) := hW
          replace w56 : r13 = nI (cellF (th k) (ct k) i0) := w56
          subst w56
          rcases Nat.eq_zero_or_pos (cellF (th k) (ct k) i0) with hz | hz
          · obtain ⟨hp1, hp2⟩ := cellF_0 hz
            obtain ⟨ii, hii, rfl⟩ := inR_ex hp2 (by omega)
            refine n_as0 (b := 0) hz ?_
            refine n_if_le X 75 dX6_cell_59 (by decide) (by decide) (fun c59 => ?_) (fun c59 => by exact absurd c59 (by decide))
            refine x_aload_n X dX6_cell_75 rfl (lv_at hl 0 rfl) ?_
            refine x_get X hW (v := .ref (ma 27)) hi6 0 rfl rfl 27 (by decide) (List.mem_of_getElem? (i := 5) rfl) rfl rfl dX6_cell_76 ?_
            refine x_bipush (v := nI 60) X dX6_cell_79 (by decide) ?_
            refine x_iload_n X dX6_cell_81 rfl (lv_at hl 1 rfl) ?_
            refine n_imul X dX6_cell_82 ?_
            refine x_iload_n X dX6_cell_83 rfl (lv_at hl 2 rfl) ?_
            refine n_iadd X dX6_cell_84 ?_
            refine i_iald X hW (f := mE 27) 16 0 rfl rfl (by omega) (by decide) dX6_cell_85 ?_
            refine x_i2l (v := (mE 27 ((60 * k) + ii)).toInt64) X dX6_cell_86 rfl ?_
            exact x_lret X hW rfl () ((by unfold aCell; (try rw [onR_in hk (by omega)]); (try rw [onR_in hln (by omega)]); (try rw [if_pos (hb.trans hz)]); (try rw [nI_clamp (by omega)]); (try rw [hb]); (try rw [hz]); (try rfl))) (congrArg (fun z => (wM cI cZ mq ma (sF mg 0 z) mh mF mE)) (show 0 = (fCell th (mF 26) ct (nI k) (nI ii) (nI ln)) from by unfold fCell; (try rw [onR_in hk (by omega)]); (try rw [onR_in hln (by omega)]); (try rw [if_pos (hb.trans hz)]); (try rw [nI_clamp (by omega)]); (try rw [hb]); (try rw [hz]); (try rfl))) dX6_cell_87
          · have hz := Nat.ne_of_gt hz
            have hle := cellF_le (th k) (ct k) i0
            refine n_if_le X 75 dX6_cell_59 (by decide) (by omega) (fun c59 => by omega) (fun c59 => ?_)
            refine x_aload_n X dX6_cell_62 rfl (lv_at hl 0 rfl) ?_
            refine x_aload_n X dX6_cell_63 rfl (lv_at hl 0 rfl) ?_
            refine x_iload_n X dX6_cell_64 rfl (lv_at hl 1 rfl) ?_
            refine x_iload_n X dX6_cell_65 rfl (lv_at hl 2 rfl) ?_
            refine x_callVi0 X hW (As := [.int (nI k), .int i0]) (rest := [.ref mq]) (c_X6_noCell l D cI cZ cO mq ma (sF mg 0 0) mh mF mE _ k i0 th ct (show k < 4 from (by first | assumption | omega)) (show (th k = 0 ∧ (mE 25) k = (-1 : Int32)) ∨ (th k = 1 ∧ (mE 25) k = nI (ct k)) from (hS k hk)) (show ct k ≤ 60 from (hct k))) (cwV 2 X.2.2.2.2.2.1 gX6_cell_X6_noCell rfl rfl rfl (by decide +kernel) ⟨Nat.le_of_ble_eq_true rfl, Nat.le_of_ble_eq_true rfl⟩) 0 5 rfl rfl rfl rfl hl.1 rfl (Nat.le_of_ble_eq_true rfl) ⟨Nat.le_of_ble_eq_true rfl, Nat.le_of_ble_eq_true rfl⟩ dX6_cell_66 (fun r15 u16 H locs w66 hW => ?_)
            have hW : Wd D A s.heap H locs (wM cI cZ mq ma (sF mg 0 0) mh mF mE) := hW
            replace w66 : r15 = nI (cellF (th k) (ct k) i0) := w66
            subst w66
            refine x_callVl0 X hW (As := [.int (nI (cellF (th k) (ct k) i0))]) (rest := []) (c_X6_failedLong l D cI cZ cO mq ma (sF mg 0 0) mh mF mE _ (cellF (th k) (ct k) i0)) (cwV 1 X.2.2.2.2.2.1 gX6_cell_X6_failedLong rfl rfl rfl (by decide +kernel) ⟨Nat.le_of_ble_eq_true rfl, Nat.le_of_ble_eq_true rfl⟩) 0 5 rfl rfl rfl rfl hl.1 rfl (Nat.le_of_ble_eq_true rfl) ⟨Nat.le_of_ble_eq_true rfl, Nat.le_of_ble_eq_true rfl⟩ dX6_cell_69 (fun r17 u18 H locs w69 hW => ?_)
            have hW : Wd D A s.heap H locs (wM cI cZ mq ma (sF mg 0 (cellF (th k) (ct k) i0)) mh mF mE) := hW
            replace w69 : r17 = (-9223372036854775808) := w69
            subst w69
            refine x_goto X 87 dX6_cell_72 (by decide) ?_
            exact x_lret X hW rfl () ((by unfold aCell; (try rw [onR_in hk (by omega)]); (try rw [onR_in hln (by omega)]); (try rw [if_neg (by rw [hb]; exact hz)]); (try rw [hb]); (try rfl))) (congrArg (fun z => (wM cI cZ mq ma (sF mg 0 z) mh mF mE)) (show (cellF (th k) (ct k) i0) = (fCell th (mF 26) ct (nI k) i0 (nI ln)) from by unfold fCell; (try rw [onR_in hk (by omega)]); (try rw [onR_in hln (by omega)]); (try rw [if_neg (by rw [hb]; exact hz)]); (try rw [hb]); (try rfl))) dX6_cell_87
        · have hb2 : barF (th k) (mF 26 k) (ct k) (nI ln) i0 (nI 1) = 2 := barC (by omega) (fun q => c44 ((nI_eq (by have := hlnm k; omega) (by omega)).mp q))
          refine x_aload_n X dX6_cell_47 rfl (lv_at hl 0 rfl) ?_
          refine x_iconst (v := nI 2) X dX6_cell_48 (by decide) ?_
          refine x_callVl0 X hW (As := [.int (nI 2)]) (rest := []) (c_X6_failedLong l D cI cZ cO mq ma (sF mg 0 0) mh mF mE _ 2) (cwV 1 X.2.2.2.2.2.1 gX6_cell_X6_failedLong rfl rfl rfl (by decide +kernel) ⟨Nat.le_of_ble_eq_true rfl, Nat.le_of_ble_eq_true rfl⟩) 0 5 rfl rfl rfl rfl hl.1 rfl (Nat.le_of_ble_eq_true rfl) ⟨Nat.le_of_ble_eq_true rfl, Nat.le_of_ble_eq_true rfl⟩ dX6_cell_49 (fun r19 u20 H locs w49 hW => ?_)
          have hW : Wd D A s.heap H locs (wM cI cZ mq ma (sF mg 0 2) mh mF mE) := hW
          replace w49 : r19 = (-9223372036854775808) := w49
          subst w49
          exact x_lret X hW rfl () ((by unfold aCell; (try rw [onR_in hk (by omega)]); (try rw [onR_in hln (by omega)]); (try rw [if_neg (by rw [hb2]; decide)]); (try rw [hb2]); (try rfl))) (congrArg (fun z => (wM cI cZ mq ma (sF mg 0 z) mh mF mE)) (show 2 = (fCell th (mF 26) ct (nI k) i0 (nI ln)) from by unfold fCell; (try rw [onR_in hk (by omega)]); (try rw [onR_in hln (by omega)]); (try rw [if_neg (by rw [hb2]; decide)]); (try rw [hb2]); (try rfl))) dX6_cell_52
    · subst w18
      have glane := fun q => h18 ((in_iff (r := lane) (n := 3) l_0 (by decide)).mpr q)
      refine n_if_ne X 28 dX6_cell_21 (by decide) (by decide) (fun c21 => by exact absurd c21 (by decide)) (fun c21 => ?_)
      refine x_callSle X hW (As := []) (rest := []) (c_X6_lost l D cI cZ cO  _ ) (va_cwS 0 X.2.2.2.2.2.1 gX6_cell_X6_lost rfl rfl rfl (by decide +kernel) ⟨Nat.le_of_ble_eq_true rfl, Nat.le_of_ble_eq_true rfl⟩) rfl hl.1 rfl (Nat.le_of_ble_eq_true rfl) ⟨Nat.le_of_ble_eq_true rfl, Nat.le_of_ble_eq_true rfl⟩ dX6_cell_24 (fun r21 u22 H locs w24 hW => ?_)
      have hW : Wd D A s.heap H locs (wM cI cZ mq ma (sF mg 0 0) mh mF mE) := hW
      replace w24 : r21 = (-9223372036854775808) := w24
      subst w24
      exact x_lret X hW rfl () ((by unfold aCell; (try rw [onR_in hk (by omega)]); (try rw [onR_out glane]); (try rfl))) (congrArg (fun z => (wM cI cZ mq ma (sF mg 0 z) mh mF mE)) (show 0 = (fCell th (mF 26) ct (nI k) i0 lane) from by unfold fCell; (try rw [onR_in hk (by omega)]); (try rw [onR_out glane]); (try rfl))) dX6_cell_27
set_option maxHeartbeats 4000000 in
set_option maxRecDepth 100000 in
theorem c_X6_copy (l : Launch) (D : va_G) (cI cZ cO : ClassId) (mq : Nat) (ma : Nat → Nat) (mg : Nat → Nat) (mh : Nat → Int32) (mF : Nat → Nat → Nat) (mE : Nat → Nat → Int32) (sz : Nat) (k0 : Int32) (i0 : Int32) (o0 : Int32) (j0 : Int32) (n0 : Int32) (th : Nat → Nat) (ct : Nat → Nat) (hS : ∀ z, z < 4 → (th z = 0 ∧ mE 25 z = (-1 : Int32)) ∨ (th z = 1 ∧ mE 25 z = nI (ct z))) (hct : ∀ z0, ct z0 ≤ 60) (hlnm : ∀ z0, mF 26 z0 ≤ 2) : Met l yX6_copy wsX6_copy ({ frames := 2, cells := 0, slots := 0, locals := 45 }) (va_Pc [.ref mq, .int k0, .int i0, .int o0, .int j0, .int n0] (st_W D (ty3 cI cZ cO) (wM cI cZ mq ma mg mh mF mE) sz)) (va_Qi (fun (rr : Int32) (u : (Nat → Int32)) => rr = aCopy th (mF 26) ct k0 i0 o0 j0 n0) (fun u t => at_W D (ty3 cI cZ cO) (va_A (wM cI cZ mq ma mg mh mF mE) sz) (wM cI cZ mq ma (sF mg 0 (fCopy th (mF 26) ct k0 i0 o0 j0 n0)) mh mF (sF (sF mE 27 (sCopy th (mF 26) ct k0 i0 o0 j0 n0 (mE 27))) 28 u)) t) (va_A (wM cI cZ mq ma mg mh mF mE) sz)) 0 0 (va_A (wM cI cZ mq ma mg mh mF mE) sz) := by
  refine Met.goi (cc := cX6_copy) (maxL := 7) (ret := (some .int)) (by decide) rfl (Nat.le_of_ble_eq_true rfl) (fun p e s m below meth c A ls X hW hl => ?_)
  have hi6 : ∀ w ∈ wsX60, w ∈ wsX6_copy := fun w h => List.mem_cons_of_mem _ (List.mem_append_right _ h)
  have hl : lv_has ls 7 [(0, .ref mq), (1, .int k0), (2, .int i0), (3, .int o0), (4, .int j0), (5, .int n0)] := hl
  refine x_iload_n X dX6_copy_0 rfl (lv_at hl 1 rfl) ?_
  refine x_callSie X hW (As := [.int k0]) (rest := []) (c_X6_noSheet l D cI cZ cO  _ k0) (va_cwS 1 X.2.2.2.2.2.1 gX6_copy_X6_noSheet rfl rfl rfl (by decide +kernel) ⟨Nat.le_of_ble_eq_true rfl, Nat.le_of_ble_eq_true rfl⟩) rfl hl.1 rfl (Nat.le_of_ble_eq_true rfl) ⟨Nat.le_of_ble_eq_true rfl, Nat.le_of_ble_eq_true rfl⟩ dX6_copy_1 (fun r1 u2 H locs w1 hW => ?_)
  have hW : Wd D A s.heap H locs (wM cI cZ mq ma mg mh mF mE) := hW
  replace w1 : (r1 = nI 1 ∧ (¬ inR k0 4) ∨ r1 = nI 0 ∧ ¬ (¬ inR k0 4)) := w1
  rcases w1 with ⟨w1, h1⟩ | ⟨w1, h1⟩
  · subst w1
    have gk0 := h1
    refine n_if_ne X 14 dX6_copy_4 (by decide) (by decide) (fun c4 => ?_) (fun c4 => by exact absurd c4 (by decide))
    refine x_aload_n X dX6_copy_14 rfl (lv_at hl 0 rfl) ?_
    refine x_iconst (v := (-1 : Int32)) X dX6_copy_15 (by decide) ?_
    refine x_callVi0 X hW (As := [.int (-1 : Int32)]) (rest := []) (c_X6_refused l D cI cZ cO mq ma mg mh mF mE _ (-1 : Int32)) (cwV 1 X.2.2.2.2.2.1 gX6_copy_X6_refused rfl rfl rfl (by decide +kernel) ⟨Nat.le_of_ble_eq_true rfl, Nat.le_of_ble_eq_true rfl⟩) 0 5 rfl rfl rfl rfl hl.1 rfl (Nat.le_of_ble_eq_true rfl) ⟨Nat.le_of_ble_eq_true rfl, Nat.le_of_ble_eq_true rfl⟩ dX6_copy_16 (fun r3 u4 H locs w16 hW => ?_)
    have hW : Wd D A s.heap H locs (wM cI cZ mq ma (sF mg 0 0) mh mF mE) := hW
    replace w16 : r3 = (-1 : Int32) := w16
    subst w16
    exact x_iret X hW rfl (mE 28) ((by unfold aCopy; (try rw [onR_out gk0]); (try rfl); (try exact (fl0 hcf _).symm); (try exact fl1 hcf (by decide) _))) (Eq.trans (congrArg (fun z => (wM cI cZ mq ma (sF mg 0 z) mh mF mE)) (show 0 = (fCopy th (mF 26) ct k0 i0 o0 j0 n0) from by unfold fCopy; (try rw [onR_out gk0]); (try rfl))) (congrArg (fun z => (wM cI cZ mq ma (sF mg 0 (fCopy th (mF 26) ct k0 i0 o0 j0 n0)) mh mF (sF mE 27 z))) (show (mE 27) = (sCopy th (mF 26) ct k0 i0 o0 j0 n0 (mE 27)) from by unfold sCopy; (try rw [onR_out gk0]); (try rfl)))) dX6_copy_19
  · subst w1
    obtain ⟨k, hk, rfl⟩ := inR_ex (Classical.not_not.mp h1) (by omega)
    refine n_if_ne X 14 dX6_copy_4 (by decide) (by decide) (fun c4 => by exact absurd c4 (by decide)) (fun c4 => ?_)
    refine x_iload_n X dX6_copy_7 rfl (lv_at hl 3 rfl) ?_
    refine x_callSie X hW (As := [.int o0]) (rest := []) (c_X6_noSheet l D cI cZ cO  _ o0) (va_cwS 1 X.2.2.2.2.2.1 gX6_copy_X6_noSheet rfl rfl rfl (by decide +kernel) ⟨Nat.le_of_ble_eq_true rfl, Nat.le_of_ble_eq_true rfl⟩) rfl hl.1 rfl (Nat.le_of_ble_eq_true rfl) ⟨Nat.le_of_ble_eq_true rfl, Nat.le_of_ble_eq_true rfl⟩ dX6_copy_8 (fun r5 u6 H locs w8 hW => ?_)
    have hW : Wd D A s.heap H locs (wM cI cZ mq ma mg mh mF mE) := hW
    replace w8 : (r5 = nI 1 ∧ (¬ inR o0 4) ∨ r5 = nI 0 ∧ ¬ (¬ inR o0 4)) := w8
    rcases w8 with ⟨w8, h8⟩ | ⟨w8, h8⟩
    · subst w8
      have go0 := h8
      refine n_if_eq X 20 dX6_copy_11 (by decide) (by decide) (fun c11 => by exact absurd c11 (by decide)) (fun c11 => ?_)
      refine x_aload_n X dX6_copy_14 rfl (lv_at hl 0 rfl) ?_
      refine x_iconst (v := (-1 : Int32)) X dX6_copy_15 (by decide) ?_
      refine x_callVi0 X hW (As := [.int (-1 : Int32)]) (rest := []) (c_X6_refused l D cI cZ cO mq ma mg mh mF mE _ (-1 : Int32)) (cwV 1 X.2.2.2.2.2.1 gX6_copy_X6_refused rfl rfl rfl (by decide +kernel) ⟨Nat.le_of_ble_eq_true rfl, Nat.le_of_ble_eq_true rfl⟩) 0 5 rfl rfl rfl rfl hl.1 rfl (Nat.le_of_ble_eq_true rfl) ⟨Nat.le_of_ble_eq_true rfl, Nat.le_of_ble_eq_true rfl⟩ dX6_copy_16 (fun r7 u8 H locs w16 hW => ?_)
      have hW : Wd D A s.heap H locs (wM cI cZ mq ma (sF mg 0 0) mh mF mE) := hW
      replace w16 : r7 = (-1 : Int32) := w16
      subst w16
      exact x_iret X hW rfl (mE 28) ((by unfold aCopy; (try rw [onR_in hk (by omega)]); (try rw [onR_out go0]); (try rfl); (try exact (fl0 hcf _).symm); (try exact fl1 hcf (by decide) _))) (Eq.trans (congrArg (fun z => (wM cI cZ mq ma (sF mg 0 z) mh mF mE)) (show 0 = (fCopy th (mF 26) ct (nI k) i0 o0 j0 n0) from by unfold fCopy; (try rw [onR_in hk (by omega)]); (try rw [onR_out go0]); (try rfl))) (congrArg (fun z => (wM cI cZ mq ma (sF mg 0 (fCopy th (mF 26) ct (nI k) i0 o0 j0 n0)) mh mF (sF mE 27 z))) (show (mE 27) = (sCopy th (mF 26) ct (nI k) i0 o0 j0 n0 (mE 27)) from by unfold sCopy; (try rw [onR_in hk (by omega)]); (try rw [onR_out go0]); (try rfl)))) dX6_copy_19
    · subst w8
      obtain ⟨o, ho, rfl⟩ := inR_ex (Classical.not_not.mp h8) (by omega)
      refine n_if_eq X 20 dX6_copy_11 (by decide) (by decide) (fun c11 => ?_) (fun c11 => by exact absurd c11 (by decide))
      have hctk := hct k
      have hcto := hct o
      have b26 := hlnm k
      have b26o := hlnm o
      rcases hS k hk with ⟨hst, hs⟩ | ⟨hst, hs⟩ <;> rcases hS o ho with ⟨hst2, hs2⟩ | ⟨hst2, hs2⟩
      · refine x_aload_n X dX6_copy_20 rfl (lv_at hl 0 rfl) ?_
        refine x_get X hW (v := .ref (ma 25)) hi6 0 rfl rfl 25 (by decide) (List.mem_of_getElem? (i := 1) rfl) rfl rfl dX6_copy_21 ?_
        refine x_iload_n X dX6_copy_24 rfl (lv_at hl 1 rfl) ?_
        refine i_iald X hW (f := mE 25) 14 0 rfl rfl (by omega) (by decide) dX6_copy_25 ?_
        refine i_as0 (b := (-1 : Int32)) hs ?_
        refine x_if_lt X 38 dX6_copy_26 (by decide) (fun c26 => ?_) (fun c26 => by first | exact absurd c26 (by decide) | exact absurd (by decide) c26)
        have hcf : copF th (mF 26) ct k o i0 j0 n0 = 1 := by unfold copF; rw [if_pos (by omega)]
        refine x_aload_n X dX6_copy_38 rfl (lv_at hl 0 rfl) ?_
        refine x_iconst (v := nI 1) X dX6_copy_39 (by decide) ?_
        refine x_callVi0 X hW (As := [.int (nI 1)]) (rest := []) (c_X6_failed l D cI cZ cO mq ma mg mh mF mE _ 1) (cwV 1 X.2.2.2.2.2.1 gX6_copy_X6_failed rfl rfl rfl (by decide +kernel) ⟨Nat.le_of_ble_eq_true rfl, Nat.le_of_ble_eq_true rfl⟩) 0 5 rfl rfl rfl rfl hl.1 rfl (Nat.le_of_ble_eq_true rfl) ⟨Nat.le_of_ble_eq_true rfl, Nat.le_of_ble_eq_true rfl⟩ dX6_copy_40 (fun r9 u10 H locs w40 hW => ?_)
        have hW : Wd D A s.heap H locs (wM cI cZ mq ma (sF mg 0 1) mh mF mE) := hW
        replace w40 : r9 = (-10) - nI 1 := w40
        subst w40
        exact x_iret X hW rfl (mE 28) ((by unfold aCopy; (try rw [onR_in hk (by omega)]); (try rw [onR_in ho (by omega)]); (try rw [if_neg (by rw [hcf]; decide)]); (try rw [hcf]); (try rfl); (try exact (fl0 hcf _).symm); (try exact fl1 hcf (by decide) _))) (Eq.trans (congrArg (fun z => (wM cI cZ mq ma (sF mg 0 z) mh mF mE)) (show 1 = (fCopy th (mF 26) ct (nI k) i0 (nI o) j0 n0) from by unfold fCopy; (try rw [onR_in hk (by omega)]); (try rw [onR_in ho (by omega)]); (try rw [if_neg (by rw [hcf]; decide)]); (try rw [hcf]); (try rfl))) (congrArg (fun z => (wM cI cZ mq ma (sF mg 0 (fCopy th (mF 26) ct (nI k) i0 (nI o) j0 n0)) mh mF (sF mE 27 z))) (show (mE 27) = (sCopy th (mF 26) ct (nI k) i0 (nI o) j0 n0 (mE 27)) from by unfold sCopy; (try rw [onR_in hk (by omega)]); (try rw [onR_in ho (by omega)]); (try rw [if_neg (by rw [hcf]; decide)]); (try rw [hcf]); (try rfl)))) dX6_copy_43
      · refine x_aload_n X dX6_copy_20 rfl (lv_at hl 0 rfl) ?_
        refine x_get X hW (v := .ref (ma 25)) hi6 0 rfl rfl 25 (by decide) (List.mem_of_getElem? (i := 1) rfl) rfl rfl dX6_copy_21 ?_
        refine x_iload_n X dX6_copy_24 rfl (lv_at hl 1 rfl) ?_
        refine i_iald X hW (f := mE 25) 14 0 rfl rfl (by omega) (by decide) dX6_copy_25 ?_
        refine i_as0 (b := (-1 : Int32)) hs ?_
        refine x_if_lt X 38 dX6_copy_26 (by decide) (fun c26 => ?_) (fun c26 => by first | exact absurd c26 (by decide) | exact absurd (by decide) c26)
        have hcf : copF th (mF 26) ct k o i0 j0 n0 = 1 := by unfold copF; rw [if_pos (by omega)]
        refine x_aload_n X dX6_copy_38 rfl (lv_at hl 0 rfl) ?_
        refine x_iconst (v := nI 1) X dX6_copy_39 (by decide) ?_
        refine x_callVi0 X hW (As := [.int (nI 1)]) (rest := []) (c_X6_failed l D cI cZ cO mq ma mg mh mF mE _ 1) (cwV 1 X.2.2.2.2.2.1 gX6_copy_X6_failed rfl rfl rfl (by decide +kernel) ⟨Nat.le_of_ble_eq_true rfl, Nat.le_of_ble_eq_true rfl⟩) 0 5 rfl rfl rfl rfl hl.1 rfl (Nat.le_of_ble_eq_true rfl) ⟨Nat.le_of_ble_eq_true rfl, Nat.le_of_ble_eq_true rfl⟩ dX6_copy_40 (fun r11 u12 H locs w40 hW => ?_)
        have hW : Wd D A s.heap H locs (wM cI cZ mq ma (sF mg 0 1) mh mF mE) := hW
        replace w40 : r11 = (-10) - nI 1 := w40
        subst w40
        exact x_iret X hW rfl (mE 28) ((by unfold aCopy; (try rw [onR_in hk (by omega)]); (try rw [onR_in ho (by omega)]); (try rw [if_neg (by rw [hcf]; decide)]); (try rw [hcf]); (try rfl); (try exact (fl0 hcf _).symm); (try exact fl1 hcf (by decide) _))) (Eq.trans (congrArg (fun z => (wM cI cZ mq ma (sF mg 0 z) mh mF mE)) (show 1 = (fCopy th (mF 26) ct (nI k) i0 (nI o) j0 n0) from by unfold fCopy; (try rw [onR_in hk (by omega)]); (try rw [onR_in ho (by omega)]); (try rw [if_neg (by rw [hcf]; decide)]); (try rw [hcf]); (try rfl))) (congrArg (fun z => (wM cI cZ mq ma (sF mg 0 (fCopy th (mF 26) ct (nI k) i0 (nI o) j0 n0)) mh mF (sF mE 27 z))) (show (mE 27) = (sCopy th (mF 26) ct (nI k) i0 (nI o) j0 n0 (mE 27)) from by unfold sCopy; (try rw [onR_in hk (by omega)]); (try rw [onR_in ho (by omega)]); (try rw [if_neg (by rw [hcf]; decide)]); (try rw [hcf]); (try rfl)))) dX6_copy_43
      · refine x_aload_n X dX6_copy_20 rfl (lv_at hl 0 rfl) ?_
        refine x_get X hW (v := .ref (ma 25)) hi6 0 rfl rfl 25 (by decide) (List.mem_of_getElem? (i := 1) rfl) rfl rfl dX6_copy_21 ?_
        refine x_iload_n X dX6_copy_24 rfl (lv_at hl 1 rfl) ?_
        refine i_iald X hW (f := mE 25) 14 0 rfl rfl (by omega) (by decide) dX6_copy_25 ?_
        refine i_as0 (b := nI (ct k)) hs ?_
        refine n_if_lt X 38 dX6_copy_26 (by decide) (by omega) ?_
        refine x_aload_n X dX6_copy_29 rfl (lv_at hl 0 rfl) ?_
        refine x_get X hW (v := .ref (ma 25)) hi6 0 rfl rfl 25 (by decide) (List.mem_of_getElem? (i := 1) rfl) rfl rfl dX6_copy_30 ?_
        refine x_iload_n X dX6_copy_33 rfl (lv_at hl 3 rfl) ?_
        refine i_iald X hW (f := mE 25) 14 0 rfl rfl (by omega) (by decide) dX6_copy_34 ?_
        refine i_as0 (b := (-1 : Int32)) hs2 ?_
        refine x_if_ge X 44 dX6_copy_35 (by decide) (fun c35 => by first | exact absurd c35 (by decide) | exact absurd (by decide) c35) (fun c35 => ?_)
        have hcf : copF th (mF 26) ct k o i0 j0 n0 = 1 := by unfold copF; rw [if_pos (by omega)]
        refine x_aload_n X dX6_copy_38 rfl (lv_at hl 0 rfl) ?_
        refine x_iconst (v := nI 1) X dX6_copy_39 (by decide) ?_
        refine x_callVi0 X hW (As := [.int (nI 1)]) (rest := []) (c_X6_failed l D cI cZ cO mq ma mg mh mF mE _ 1) (cwV 1 X.2.2.2.2.2.1 gX6_copy_X6_failed rfl rfl rfl (by decide +kernel) ⟨Nat.le_of_ble_eq_true rfl, Nat.le_of_ble_eq_true rfl⟩) 0 5 rfl rfl rfl rfl hl.1 rfl (Nat.le_of_ble_eq_true rfl) ⟨Nat.le_of_ble_eq_true rfl, Nat.le_of_ble_eq_true rfl⟩ dX6_copy_40 (fun r13 u14 H locs w40 hW => ?_)
        have hW : Wd D A s.heap H locs (wM cI cZ mq ma (sF mg 0 1) mh mF mE) := hW
        replace w40 : r13 = (-10) - nI 1 := w40
        subst w40
        exact x_iret X hW rfl (mE 28) ((by unfold aCopy; (try rw [onR_in hk (by omega)]); (try rw [onR_in ho (by omega)]); (try rw [if_neg (by rw [hcf]; decide)]); (try rw [hcf]); (try rfl); (try exact (fl0 hcf _).symm); (try exact fl1 hcf (by decide) _))) (Eq.trans (congrArg (fun z => (wM cI cZ mq ma (sF mg 0 z) mh mF mE)) (show 1 = (fCopy th (mF 26) ct (nI k) i0 (nI o) j0 n0) from by unfold fCopy; (try rw [onR_in hk (by omega)]); (try rw [onR_in ho (by omega)]); (try rw [if_neg (by rw [hcf]; decide)]); (try rw [hcf]); (try rfl))) (congrArg (fun z => (wM cI cZ mq ma (sF mg 0 (fCopy th (mF 26) ct (nI k) i0 (nI o) j0 n0)) mh mF (sF mE 27 z))) (show (mE 27) = (sCopy th (mF 26) ct (nI k) i0 (nI o) j0 n0 (mE 27)) from by unfold sCopy; (try rw [onR_in hk (by omega)]); (try rw [onR_in ho (by omega)]); (try rw [if_neg (by rw [hcf]; decide)]); (try rw [hcf]); (try rfl)))) dX6_copy_43
      · refine x_aload_n X dX6_copy_20 rfl (lv_at hl 0 rfl) ?_
        refine x_get X hW (v := .ref (ma 25)) hi6 0 rfl rfl 25 (by decide) (List.mem_of_getElem? (i := 1) rfl) rfl rfl dX6_copy_21 ?_
        refine x_iload_n X dX6_copy_24 rfl (lv_at hl 1 rfl) ?_
        refine i_iald X hW (f := mE 25) 14 0 rfl rfl (by omega) (by decide) dX6_copy_25 ?_
        refine i_as0 (b := nI (ct k)) hs ?_
        refine n_if_lt X 38 dX6_copy_26 (by decide) (by omega) ?_
        refine x_aload_n X dX6_copy_29 rfl (lv_at hl 0 rfl) ?_
        refine x_get X hW (v := .ref (ma 25)) hi6 0 rfl rfl 25 (by decide) (List.mem_of_getElem? (i := 1) rfl) rfl rfl dX6_copy_30 ?_
        refine x_iload_n X dX6_copy_33 rfl (lv_at hl 3 rfl) ?_
        refine i_iald X hW (f := mE 25) 14 0 rfl rfl (by omega) (by decide) dX6_copy_34 ?_
        refine i_as0 (b := nI (ct o)) hs2 ?_
        refine n_if_ge X 44 dX6_copy_35 (by decide) (by omega) ?_
        refine x_aload_n X dX6_copy_44 rfl (lv_at hl 0 rfl) ?_
        refine x_get X hW (v := .ref (ma 26)) hi6 0 rfl rfl 26 (by decide) (List.mem_of_getElem? (i := 2) rfl) rfl rfl dX6_copy_45 ?_
        refine x_iload_n X dX6_copy_48 rfl (lv_at hl 1 rfl) ?_
        refine n_iald X hW (f := mF 26) 15 0 rfl rfl (by omega) (by decide) dX6_copy_49 ?_
        refine x_aload_n X dX6_copy_50 rfl (lv_at hl 0 rfl) ?_
        refine x_get X hW (v := .ref (ma 26)) hi6 0 rfl rfl 26 (by decide) (List.mem_of_getElem? (i := 2) rfl) rfl rfl dX6_copy_51 ?_
        refine x_iload_n X dX6_copy_54 rfl (lv_at hl 3 rfl) ?_
        refine n_iald X hW (f := mF 26) 15 0 rfl rfl (by omega) (by decide) dX6_copy_55 ?_
        refine n_icmp_eq X 65 dX6_copy_56 (by decide) (by omega) (by omega) (fun c56 => ?_) (fun c56 => ?_)
        · refine x_iload_n X dX6_copy_65 rfl (lv_at hl 2 rfl) ?_
          refine x_iload X dX6_copy_66 (lv_at hl 5 rfl) ?_
          refine x_i2l (v := n0.toInt64) X dX6_copy_68 rfl ?_
          refine x_aload_n X dX6_copy_69 rfl (lv_at hl 0 rfl) ?_
          refine x_get X hW (v := .ref (ma 25)) hi6 0 rfl rfl 25 (by decide) (List.mem_of_getElem? (i := 1) rfl) rfl rfl dX6_copy_70 ?_
          refine x_iload_n X dX6_copy_73 rfl (lv_at hl 1 rfl) ?_
          refine i_iald X hW (f := mE 25) 14 0 rfl rfl (by omega) (by decide) dX6_copy_74 ?_
          refine i_as0 (b := nI (ct k)) hs ?_
          refine x_callSie X hW (As := [.int i0, .long n0.toInt64, .int (nI (ct k))]) (rest := []) (c_X6_isBeyond l D cI cZ cO  _ i0 n0.toInt64 (nI (ct k)) (show -2147483648 ≤ n0.toInt64.toInt ∧ n0.toInt64.toInt < 2147483648 from (wrng n0))) (va_cwS 3 X.2.2.2.2.2.1 gX6_copy_X6_isBeyond rfl rfl rfl (by decide +kernel) ⟨Nat.le_of_ble_eq_true rfl, Nat.le_of_ble_eq_true rfl⟩) rfl hl.1 rfl (Nat.le_of_ble_eq_true rfl) ⟨Nat.le_of_ble_eq_true rfl, Nat.le_of_ble_eq_true rfl⟩ dX6_copy_75 (fun r15 u16 H locs w75 hW => ?_)
          have hW : Wd D A s.heap H locs (wM cI cZ mq ma mg mh mF mE) := hW
          replace w75 : (r15 = nI 1 ∧ (i0.toInt < 0 ∨ n0.toInt64.toInt < 0 ∨ (nI (ct k)).toInt < i0.toInt + n0.toInt64.toInt) ∨ r15 = nI 0 ∧ ¬ (i0.toInt < 0 ∨ n0.toInt64.toInt < 0 ∨ (nI (ct k)).toInt < i0.toInt + n0.toInt64.toInt)) := w75
          rcases w75 with ⟨w75, h75⟩ | ⟨w75, h75⟩
          · subst w75
            refine n_if_ne X 98 dX6_copy_78 (by decide) (by decide) (fun c78 => ?_) (fun c78 => by exact absurd c78 (by decide))
            have hcf : copF th (mF 26) ct k o i0 j0 n0 = 3 := by unfold copF; rw [if_neg (by omega), if_neg (not_not_intro c56), if_pos (by first | (have z1 := h75; rw [wide, nI_toInt (by omega)] at z1; omega) | (have z1 := h92; rw [wide, nI_toInt (by omega)] at z1; omega))]
            refine x_aload_n X dX6_copy_98 rfl (lv_at hl 0 rfl) ?_
            refine x_iconst (v := nI 3) X dX6_copy_99 (by decide) ?_
            refine x_callVi0 X hW (As := [.int (nI 3)]) (rest := []) (c_X6_failed l D cI cZ cO mq ma mg mh mF mE _ 3) (cwV 1 X.2.2.2.2.2.1 gX6_copy_X6_failed rfl rfl rfl (by decide +kernel) ⟨Nat.le_of_ble_eq_true rfl, Nat.le_of_ble_eq_true rfl⟩) 0 5 rfl rfl rfl rfl hl.1 rfl (Nat.le_of_ble_eq_true rfl) ⟨Nat.le_of_ble_eq_true rfl, Nat.le_of_ble_eq_true rfl⟩ dX6_copy_100 (fun r17 u18 H locs w100 hW => ?_)
            have hW : Wd D A s.heap H locs (wM cI cZ mq ma (sF mg 0 3) mh mF mE) := hW
            replace w100 : r17 = (-10) - nI 3 := w100
            subst w100
            exact x_iret X hW rfl (mE 28) ((by unfold aCopy; (try rw [onR_in hk (by omega)]); (try rw [onR_in ho (by omega)]); (try rw [if_neg (by rw [hcf]; decide)]); (try rw [hcf]); (try rfl); (try exact (fl0 hcf _).symm); (try exact fl1 hcf (by decide) _))) (Eq.trans (congrArg (fun z => (wM cI cZ mq ma (sF mg 0 z) mh mF mE)) (show 3 = (fCopy th (mF 26) ct (nI k) i0 (nI o) j0 n0) from by unfold fCopy; (try rw [onR_in hk (by omega)]); (try rw [onR_in ho (by omega)]); (try rw [if_neg (by rw [hcf]; decide)]); (try rw [hcf]); (try rfl))) (congrArg (fun z => (wM cI cZ mq ma (sF mg 0 (fCopy th (mF 26) ct (nI k) i0 (nI o) j0 n0)) mh mF (sF mE 27 z))) (show (mE 27) = (sCopy th (mF 26) ct (nI k) i0 (nI o) j0 n0 (mE 27)) from by unfold sCopy; (try rw [onR_in hk (by omega)]); (try rw [onR_in ho (by omega)]); (try rw [if_neg (by rw [hcf]; decide)]); (try rw [hcf]); (try rfl)))) dX6_copy_103
          · subst w75
            refine n_if_ne X 98 dX6_copy_78 (by decide) (by decide) (fun c78 => by exact absurd c78 (by decide)) (fun c78 => ?_)
            refine x_iload X dX6_copy_81 (lv_at hl 4 rfl) ?_
            refine x_iload X dX6_copy_83 (lv_at hl 5 rfl) ?_
            refine x_i2l (v := n0.toInt64) X dX6_copy_85 rfl ?_
            refine x_aload_n X dX6_copy_86 rfl (lv_at hl 0 rfl) ?_
            refine x_get X hW (v := .ref (ma 25)) hi6 0 rfl rfl 25 (by decide) (List.mem_of_getElem? (i := 1) rfl) rfl rfl dX6_copy_87 ?_
            refine x_iload_n X dX6_copy_90 rfl (lv_at hl 3 rfl) ?_
            refine i_iald X hW (f := mE 25) 14 0 rfl rfl (by omega) (by decide) dX6_copy_91 ?_
            refine i_as0 (b := nI (ct o)) hs2 ?_
            refine x_callSie X hW (As := [.int j0, .long n0.toInt64, .int (nI (ct o))]) (rest := []) (c_X6_isBeyond l D cI cZ cO  _ j0 n0.toInt64 (nI (ct o)) (show -2147483648 ≤ n0.toInt64.toInt ∧ n0.toInt64.toInt < 2147483648 from (wrng n0))) (va_cwS 3 X.2.2.2.2.2.1 gX6_copy_X6_isBeyond rfl rfl rfl (by decide +kernel) ⟨Nat.le_of_ble_eq_true rfl, Nat.le_of_ble_eq_true rfl⟩) rfl hl.1 rfl (Nat.le_of_ble_eq_true rfl) ⟨Nat.le_of_ble_eq_true rfl, Nat.le_of_ble_eq_true rfl⟩ dX6_copy_92 (fun r19 u20 H locs w92 hW => ?_)
            have hW : Wd D A s.heap H locs (wM cI cZ mq ma mg mh mF mE) := hW
            replace w92 : (r19 = nI 1 ∧ (j0.toInt < 0 ∨ n0.toInt64.toInt < 0 ∨ (nI (ct o)).toInt < j0.toInt + n0.toInt64.toInt) ∨ r19 = nI 0 ∧ ¬ (j0.toInt < 0 ∨ n0.toInt64.toInt < 0 ∨ (nI (ct o)).toInt < j0.toInt + n0.toInt64.toInt)) := w92
            rcases w92 with ⟨w92, h92⟩ | ⟨w92, h92⟩
            · subst w92
              refine n_if_eq X 104 dX6_copy_95 (by decide) (by decide) (fun c95 => by exact absurd c95 (by decide)) (fun c95 => ?_)
              have hcf : copF th (mF 26) ct k o i0 j0 n0 = 3 := by unfold copF; rw [if_neg (by omega), if_neg (not_not_intro c56), if_pos (by first | (have z1 := h75; rw [wide, nI_toInt (by omega)] at z1; omega) | (have z1 := h92; rw [wide, nI_toInt (by omega)] at z1; omega))]
              refine x_aload_n X dX6_copy_98 rfl (lv_at hl 0 rfl) ?_
              refine x_iconst (v := nI 3) X dX6_copy_99 (by decide) ?_
              refine x_callVi0 X hW (As := [.int (nI 3)]) (rest := []) (c_X6_failed l D cI cZ cO mq ma mg mh mF mE _ 3) (cwV 1 X.2.2.2.2.2.1 gX6_copy_X6_failed rfl rfl rfl (by decide +kernel) ⟨Nat.le_of_ble_eq_true rfl, Nat.le_of_ble_eq_true rfl⟩) 0 5 rfl rfl rfl rfl hl.1 rfl (Nat.le_of_ble_eq_true rfl) ⟨Nat.le_of_ble_eq_true rfl, Nat.le_of_ble_eq_true rfl⟩ dX6_copy_100 (fun r21 u22 H locs w100 hW => ?_)
              have hW : Wd D A s.heap H locs (wM cI cZ mq ma (sF mg 0 3) mh mF mE) := hW
              replace w100 : r21 = (-10) - nI 3 := w100
              subst w100
              exact x_iret X hW rfl (mE 28) ((by unfold aCopy; (try rw [onR_in hk (by omega)]); (try rw [onR_in ho (by omega)]); (try rw [if_neg (by rw [hcf]; decide)]); (try rw [hcf]); (try rfl); (try exact (fl0 hcf _).symm); (try exact fl1 hcf (by decide) _))) (Eq.trans (congrArg (fun z => (wM cI cZ mq ma (sF mg 0 z) mh mF mE)) (show 3 = (fCopy th (mF 26) ct (nI k) i0 (nI o) j0 n0) from by unfold fCopy; (try rw [onR_in hk (by omega)]); (try rw [onR_in ho (by omega)]); (try rw [if_neg (by rw [hcf]; decide)]); (try rw [hcf]); (try rfl))) (congrArg (fun z => (wM cI cZ mq ma (sF mg 0 (fCopy th (mF 26) ct (nI k) i0 (nI o) j0 n0)) mh mF (sF mE 27 z))) (show (mE 27) = (sCopy th (mF 26) ct (nI k) i0 (nI o) j0 n0 (mE 27)) from by unfold sCopy; (try rw [onR_in hk (by omega)]); (try rw [onR_in ho (by omega)]); (try rw [if_neg (by rw [hcf]; decide)]); (try rw [hcf]); (try rfl)))) dX6_copy_103
            · subst w92
              refine n_if_eq X 104 dX6_copy_95 (by decide) (by decide) (fun c95 => ?_) (fun c95 => by exact absurd c95 (by decide))
              have hcf : copF th (mF 26) ct k o i0 j0 n0 = 0 := by unfold copF; rw [if_neg (by omega), if_neg (not_not_intro c56), if_neg (by have z1 := h75; have z2 := h92; rw [wide, nI_toInt (by omega)] at z1 z2; omega)]
              obtain ⟨-, -, -, q1, q2, q3, q4, q5⟩ := cop_0 hcf
              obtain ⟨ii, hii, rfl⟩ := inR_ex (x := i0) (n := ct k + 1) ⟨q1, by omega⟩ (by omega)
              obtain ⟨jj, hjj, rfl⟩ := inR_ex (x := j0) (n := ct o + 1) ⟨q2, by omega⟩ (by omega)
              obtain ⟨nn, hnn, rfl⟩ := inR_ex (x := n0) (n := ct k + 1) ⟨q3, by omega⟩ (by omega)
              rw [nI_toInt (by omega), nI_toInt (by omega)] at q4 q5
              refine x_iconst (v := nI 0) X dX6_copy_104 (by decide) ?_
              refine x_istore X [(6, .int (nI 0)), (0, .ref mq), (1, .int (nI k)), (2, .int (nI ii)), (3, .int (nI o)), (4, .int (nI jj)), (5, .int (nI nn))] dX6_copy_105 hl (by decide) rfl (fun ls hl => ?_)
              refine W.loop (σ := (Nat)) (fun u H locs ls => (u ≤ nn) ∧ Wd D A s.heap H locs (wM cI cZ mq ma mg mh mF (sF mE 28 (mv (mE 28) (mE 27) 0 (60 * k + ii) u))) ∧ lv_has ls 7 [(6, .int (nI u)), (0, .ref mq), (1, .int (nI k)), (2, .int (nI ii)), (3, .int (nI o)), (4, .int (nI jj)), (5, .int (nI nn))]) (fun u => nn - u) (fun u H locs ls hI ih => ?_) 0 ⟨(show 0 ≤ nn from (by omega)), (hW.eq (congrArg (fun z => (wM cI cZ mq ma mg mh mF (sF mE 28 z))) (show (mE 28) = (mv (mE 28) (mE 27) 0 (60 * k + ii) 0) from by first | exact mv_0 _ _ _ _ | exact mv0_s rfl))), hl⟩
              obtain ⟨x, xe⟩ : ∃ z, z = u := ⟨_, rfl⟩
              subst xe
              obtain ⟨hv, hW, hl⟩ := hI
              have hv : x ≤ nn := hv
              have hW : Wd D A s.heap H locs (wM cI cZ mq ma mg mh mF (sF mE 28 (mv (mE 28) (mE 27) 0 (60 * k + ii) x))) := hW
              have hl : lv_has ls 7 [(6, .int (nI x)), (0, .ref mq), (1, .int (nI k)), (2, .int (nI ii)), (3, .int (nI o)), (4, .int (nI jj)), (5, .int (nI nn))] := hl
              have ih107 := ih
              refine x_iload X dX6_copy_107 (lv_at hl 0 rfl) ?_
              refine x_iload X dX6_copy_109 (lv_at hl 6 rfl) ?_
              refine n_icmp_ge X 141 dX6_copy_111 (by decide) (by omega) (by omega) (fun c111 => ?_) (fun c111 => ?_)
              · have ex : x = nn := by omega
                refine x_iconst (v := nI 0) X dX6_copy_141 (by decide) ?_
                refine x_istore X [(6, .int (nI 0)), (0, .ref mq), (1, .int (nI k)), (2, .int (nI ii)), (3, .int (nI o)), (4, .int (nI jj)), (5, .int (nI nn))] dX6_copy_142 hl (by decide) rfl (fun ls hl => ?_)
                refine W.loop (σ := (Nat)) (fun u H locs ls => (u ≤ nn) ∧ Wd D A s.heap H locs (wM cI cZ mq ma mg mh mF (sF (sF mE 27 (mv (mE 27) (mE 27) (60 * o + jj) (60 * k + ii) u)) 28 (mv (mE 28) (mE 27) 0 (60 * k + ii) x))) ∧ lv_has ls 7 [(6, .int (nI u)), (0, .ref mq), (1, .int (nI k)), (2, .int (nI ii)), (3, .int (nI o)), (4, .int (nI jj)), (5, .int (nI nn))]) (fun u => nn - u) (fun u H locs ls hI ih => ?_) 0 ⟨(show 0 ≤ nn from (by omega)), (hW.eq (congrArg (fun z => (wM cI cZ mq ma mg mh mF (sF (sF mE 27 z) 28 (mv (mE 28) (mE 27) 0 (60 * k + ii) x)))) (show (mE 27) = (mv (mE 27) (mE 27) (60 * o + jj) (60 * k + ii) 0) from by first | exact mv_0 _ _ _ _ | exact mv_s rfl))), hl⟩
                obtain ⟨y, ye⟩ : ∃ z, z = u := ⟨_, rfl⟩
                subst ye
                obtain ⟨hv, hW, hl⟩ := hI
                have hv : y ≤ nn := hv
                have hW : Wd D A s.heap H locs (wM cI cZ mq ma mg mh mF (sF (sF mE 27 (mv (mE 27) (mE 27) (60 * o + jj) (60 * k + ii) y)) 28 (mv (mE 28) (mE 27) 0 (60 * k + ii) x))) := hW
                have hl : lv_has ls 7 [(6, .int (nI y)), (0, .ref mq), (1, .int (nI k)), (2, .int (nI ii)), (3, .int (nI o)), (4, .int (nI jj)), (5, .int (nI nn))] := hl
                have ih144 := ih
                refine x_iload X dX6_copy_144 (lv_at hl 0 rfl) ?_
                refine x_iload X dX6_copy_146 (lv_at hl 6 rfl) ?_
                refine n_icmp_ge X 179 dX6_copy_148 (by decide) (by omega) (by omega) (fun c148 => ?_) (fun c148 => ?_)
                · have ey : y = nn := by omega
                  refine x_aload_n X dX6_copy_179 rfl (lv_at hl 1 rfl) ?_
                  refine x_iload X dX6_copy_180 (lv_at hl 6 rfl) ?_
                  refine x_callVi0 X hW (As := [.int (nI nn)]) (rest := []) (c_X6_refused l D cI cZ cO mq ma mg mh mF (sF (sF mE 27 (mv (mE 27) (mE 27) (60 * o + jj) (60 * k + ii) y)) 28 (mv (mE 28) (mE 27) 0 (60 * k + ii) x)) _ (nI nn)) (cwV 1 X.2.2.2.2.2.1 gX6_copy_X6_refused rfl rfl rfl (by decide +kernel) ⟨Nat.le_of_ble_eq_true rfl, Nat.le_of_ble_eq_true rfl⟩) 0 5 rfl rfl rfl rfl hl.1 rfl (Nat.le_of_ble_eq_true rfl) ⟨Nat.le_of_ble_eq_true rfl, Nat.le_of_ble_eq_true rfl⟩ dX6_copy_182 (fun r23 u24 H locs w182 hW => ?_)
                  have hW : Wd D A s.heap H locs (wM cI cZ mq ma (sF mg 0 0) mh mF (sF (sF mE 27 (mv (mE 27) (mE 27) (60 * o + jj) (60 * k + ii) y)) 28 (mv (mE 28) (mE 27) 0 (60 * k + ii) x))) := hW
                  replace w182 : r23 = (nI nn) := w182
                  subst w182
                  exact x_iret X hW rfl (mv (mE 28) (mE 27) 0 (60 * k + ii) x) ((by unfold aCopy; (try rw [onR_in hk (by omega)]); (try rw [onR_in ho (by omega)]); (try rw [if_pos hcf]); (try rw [hcf]); (try rw [nI_clamp (show nn < 2 ^ 31 by omega)]); (try rw [nI_clamp (show ii < 2 ^ 31 by omega)]); (try rw [nI_clamp (show jj < 2 ^ 31 by omega)]); (try rfl); (try exact (fl0 hcf _).symm); (try exact fl1 hcf (by decide) _))) (Eq.trans (congrArg (fun z => (wM cI cZ mq ma (sF mg 0 z) mh mF (sF (sF mE 27 (mv (mE 27) (mE 27) (60 * o + jj) (60 * k + ii) y)) 28 (mv (mE 28) (mE 27) 0 (60 * k + ii) x)))) (show 0 = (fCopy th (mF 26) ct (nI k) (nI ii) (nI o) (nI jj) (nI nn)) from by unfold fCopy; (try rw [onR_in hk (by omega)]); (try rw [onR_in ho (by omega)]); (try rw [if_pos hcf]); (try rw [hcf]); (try rw [nI_clamp (show nn < 2 ^ 31 by omega)]); (try rw [nI_clamp (show ii < 2 ^ 31 by omega)]); (try rw [nI_clamp (show jj < 2 ^ 31 by omega)]); (try rfl))) (congrArg (fun z => (wM cI cZ mq ma (sF mg 0 (fCopy th (mF 26) ct (nI k) (nI ii) (nI o) (nI jj) (nI nn))) mh mF (sF (sF mE 27 z) 28 (mv (mE 28) (mE 27) 0 (60 * k + ii) x)))) (show (mv (mE 27) (mE 27) (60 * o + jj) (60 * k + ii) y) = (sCopy th (mF 26) ct (nI k) (nI ii) (nI o) (nI jj) (nI nn) (mE 27)) from by rw [ey]; unfold sCopy; (try rw [onR_in hk (by omega)]); (try rw [onR_in ho (by omega)]); (try rw [if_pos hcf]); (try rw [hcf]); (try rw [nI_clamp (show nn < 2 ^ 31 by omega)]); (try rw [nI_clamp (show ii < 2 ^ 31 by omega)]); (try rw [nI_clamp (show jj < 2 ^ 31 by omega)]); (try rfl)))) dX6_copy_185
                · refine x_aload_n X dX6_copy_151 rfl (lv_at hl 1 rfl) ?_
                  refine x_get X hW (v := .ref (ma 27)) hi6 0 rfl rfl 27 (by decide) (List.mem_of_getElem? (i := 4) rfl) rfl rfl dX6_copy_152 ?_
                  refine x_bipush (v := nI 60) X dX6_copy_155 (by decide) ?_
                  refine x_iload_n X dX6_copy_157 rfl (lv_at hl 4 rfl) ?_
                  refine n_imul X dX6_copy_158 ?_
                  refine x_iload X dX6_copy_159 (lv_at hl 5 rfl) ?_
                  refine n_iadd X dX6_copy_161 ?_
                  refine x_iload X dX6_copy_162 (lv_at hl 0 rfl) ?_
                  refine n_iadd X dX6_copy_164 ?_
                  refine x_aload_n X dX6_copy_165 rfl (lv_at hl 1 rfl) ?_
                  refine x_get X hW (v := .ref (ma 28)) hi6 0 rfl rfl 28 (by decide) (List.mem_of_getElem? (i := 3) rfl) rfl rfl dX6_copy_166 ?_
                  refine x_iload X dX6_copy_169 (lv_at hl 0 rfl) ?_
                  refine i_iald X hW (f := mv (mE 28) (mE 27) 0 (60 * k + ii) x) 17 0 rfl rfl (by omega) (by decide) dX6_copy_171 ?_
                  refine i_as0 (b := mE 27 (60 * k + ii + y)) (mv_in0 (by omega)) ?_
                  refine i_iast X hW (f := mv (mE 27) (mE 27) (60 * o + jj) (60 * k + ii) y) 16 0 rfl rfl (by omega) (by decide) dX6_copy_172 (wM cI cZ mq ma mg mh mF (sF (sF mE 27 (sF (mv (mE 27) (mE 27) (60 * o + jj) (60 * k + ii) y) (((60 * o) + jj) + y) (mE 27 (60 * k + ii + y)))) 28 (mv (mE 28) (mE 27) 0 (60 * k + ii) x))) rfl (fun H locs hW => ?_)
                  refine x_iinc X [(6, .int (nI (y + 1))), (0, .ref mq), (1, .int (nI k)), (2, .int (nI ii)), (3, .int (nI o)), (4, .int (nI jj)), (5, .int (nI nn))] (k := 0) dX6_copy_173 hl rfl (nI_inc1 y) (by decide) rfl (fun ls hl => ?_)
                  refine x_goto X 144 dX6_copy_176 (by decide) ?_
                  exact ih144 (y + 1) _ _ _ ⟨(show (y + 1) ≤ nn from (by omega)), (hW.eq (congrArg (fun z => (wM cI cZ mq ma mg mh mF (sF (sF mE 27 z) 28 (mv (mE 28) (mE 27) 0 (60 * k + ii) x)))) (show (sF (mv (mE 27) (mE 27) (60 * o + jj) (60 * k + ii) y) (((60 * o) + jj) + y) (mE 27 (60 * k + ii + y))) = (mv (mE 27) (mE 27) (60 * o + jj) (60 * k + ii) (y + 1)) from by first | exact mv_0 _ _ _ _ | exact mv_s rfl))), lv_sub hl [0, 1, 2, 3, 4, 5, 6] rfl⟩ (by omega)
              · refine x_aload_n X dX6_copy_114 rfl (lv_at hl 1 rfl) ?_
                refine x_get X hW (v := .ref (ma 28)) hi6 0 rfl rfl 28 (by decide) (List.mem_of_getElem? (i := 3) rfl) rfl rfl dX6_copy_115 ?_
                refine x_iload X dX6_copy_118 (lv_at hl 0 rfl) ?_
                refine x_aload_n X dX6_copy_120 rfl (lv_at hl 1 rfl) ?_
                refine x_get X hW (v := .ref (ma 27)) hi6 0 rfl rfl 27 (by decide) (List.mem_of_getElem? (i := 4) rfl) rfl rfl dX6_copy_121 ?_
                refine x_bipush (v := nI 60) X dX6_copy_124 (by decide) ?_
                refine x_iload_n X dX6_copy_126 rfl (lv_at hl 2 rfl) ?_
                refine n_imul X dX6_copy_127 ?_
                refine x_iload_n X dX6_copy_128 rfl (lv_at hl 3 rfl) ?_
                refine n_iadd X dX6_copy_129 ?_
                refine x_iload X dX6_copy_130 (lv_at hl 0 rfl) ?_
                refine n_iadd X dX6_copy_132 ?_
                refine i_iald X hW (f := mE 27) 16 0 rfl rfl (by omega) (by decide) dX6_copy_133 ?_
                refine i_iast X hW (f := mv (mE 28) (mE 27) 0 (60 * k + ii) x) 17 0 rfl rfl (by omega) (by decide) dX6_copy_134 (wM cI cZ mq ma mg mh mF (sF mE 28 (sF (mv (mE 28) (mE 27) 0 (60 * k + ii) x) x (mE 27 (((60 * k) + ii) + x))))) rfl (fun H locs hW => ?_)
                refine x_iinc X [(6, .int (nI (x + 1))), (0, .ref mq), (1, .int (nI k)), (2, .int (nI ii)), (3, .int (nI o)), (4, .int (nI jj)), (5, .int (nI nn))] (k := 0) dX6_copy_135 hl rfl (nI_inc1 x) (by decide) rfl (fun ls hl => ?_)
                refine x_goto X 107 dX6_copy_138 (by decide) ?_
                exact ih107 (x + 1) _ _ _ ⟨(show (x + 1) ≤ nn from (by omega)), (hW.eq (congrArg (fun z => (wM cI cZ mq ma mg mh mF (sF mE 28 z))) (show (sF (mv (mE 28) (mE 27) 0 (60 * k + ii) x) x (mE 27 (((60 * k) + ii) + x))) = (mv (mE 28) (mE 27) 0 (60 * k + ii) (x + 1)) from by first | exact mv_0 _ _ _ _ | exact mv0_s rfl))), lv_sub hl [0, 1, 2, 3, 4, 5, 6] rfl⟩ (by omega)
        · have hcf : copF th (mF 26) ct k o i0 j0 n0 = 2 := by unfold copF; rw [if_neg (by omega), if_pos c56]
          refine x_aload_n X dX6_copy_59 rfl (lv_at hl 0 rfl) ?_
          refine x_iconst (v := nI 2) X dX6_copy_60 (by decide) ?_
          refine x_callVi0 X hW (As := [.int (nI 2)]) (rest := []) (c_X6_failed l D cI cZ cO mq ma mg mh mF mE _ 2) (cwV 1 X.2.2.2.2.2.1 gX6_copy_X6_failed rfl rfl rfl (by decide +kernel) ⟨Nat.le_of_ble_eq_true rfl, Nat.le_of_ble_eq_true rfl⟩) 0 5 rfl rfl rfl rfl hl.1 rfl (Nat.le_of_ble_eq_true rfl) ⟨Nat.le_of_ble_eq_true rfl, Nat.le_of_ble_eq_true rfl⟩ dX6_copy_61 (fun r25 u26 H locs w61 hW => ?_)
          have hW : Wd D A s.heap H locs (wM cI cZ mq ma (sF mg 0 2) mh mF mE) := hW
          replace w61 : r25 = (-10) - nI 2 := w61
          subst w61
          exact x_iret X hW rfl (mE 28) ((by unfold aCopy; (try rw [onR_in hk (by omega)]); (try rw [onR_in ho (by omega)]); (try rw [if_neg (by rw [hcf]; decide)]); (try rw [hcf]); (try rfl); (try exact (fl0 hcf _).symm); (try exact fl1 hcf (by decide) _))) (Eq.trans (congrArg (fun z => (wM cI cZ mq ma (sF mg 0 z) mh mF mE)) (show 2 = (fCopy th (mF 26) ct (nI k) i0 (nI o) j0 n0) from by unfold fCopy; (try rw [onR_in hk (by omega)]); (try rw [onR_in ho (by omega)]); (try rw [if_neg (by rw [hcf]; decide)]); (try rw [hcf]); (try rfl))) (congrArg (fun z => (wM cI cZ mq ma (sF mg 0 (fCopy th (mF 26) ct (nI k) i0 (nI o) j0 n0)) mh mF (sF mE 27 z))) (show (mE 27) = (sCopy th (mF 26) ct (nI k) i0 (nI o) j0 n0 (mE 27)) from by unfold sCopy; (try rw [onR_in hk (by omega)]); (try rw [onR_in ho (by omega)]); (try rw [if_neg (by rw [hcf]; decide)]); (try rw [hcf]); (try rfl)))) dX6_copy_64
