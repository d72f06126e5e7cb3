/-! acts told: a run of them, its silence, how often a gate is opened -/
def stepO (n rn : Nat) (kd lm lv : Nat → Nat) (a : Nat) : Option (Nat → Nat) := if canN n kd lm lv a then some (actN n rn kd lm lv a) else none
def runA (st : (Nat → Nat) → Nat → Option (Nat → Nat)) (ac : Nat → Nat) : Nat → Nat → (Nat → Nat) → Option Nat × (Nat → Nat)
  | 0, _, lv => (none, lv)
  | r + 1, k, lv => match st lv (ac k) with
    | none => (some k, lv)
    | some lv' => runA st ac r (k + 1) lv'
theorem runA_y {n rn : Nat} {kd lm lv ac : Nat → Nat} {r k : Nat} (h : canN n kd lm lv (ac k)) : runA (stepO n rn kd lm) ac (r + 1) k lv = runA (stepO n rn kd lm) ac r (k + 1) (actN n rn kd lm lv (ac k)) := by
  show (match stepO n rn kd lm lv (ac k) with | none => (some k, lv) | some lv' => runA (stepO n rn kd lm) ac r (k + 1) lv') = _
  unfold stepO; rw [if_pos h]
theorem runA_n {n rn : Nat} {kd lm lv ac : Nat → Nat} {r k : Nat} (h : ¬ canN n kd lm lv (ac k)) : runA (stepO n rn kd lm) ac (r + 1) k lv = (some k, lv) := by
  show (match stepO n rn kd lm lv (ac k) with | none => (some k, lv) | some lv' => runA (stepO n rn kd lm) ac r (k + 1) lv') = _
  unfold stepO; rw [if_neg h]
theorem canN_cong {kd lm f g : Nat → Nat} {n a : Nat} (ha : a < n) (h : ∀ i, i < n → f i = g i) : canN n kd lm f a ↔ canN n kd lm g a := by
  unfold canN
  by_cases q : a = n - 1
  · exact ⟨fun _ => Or.inl q, fun _ => Or.inl q⟩
  · constructor
    · intro z; exact z.elim Or.inl (fun w => Or.inr ((mayN_cong h (by omega)).mp w))
    · intro z; exact z.elim Or.inl (fun w => Or.inr ((mayN_cong h (by omega)).mpr w))
/-- how many of the first k acts open a gate -/
def opsN (n : Nat) (ac : Nat → Nat) : Nat → Nat
  | 0 => 0
  | k + 1 => opsN n ac k + if ac k < n - 1 then 1 else 0
theorem opsN_le (n : Nat) (ac : Nat → Nat) : ∀ k, opsN n ac k ≤ k
  | 0 => Nat.le_refl _
  | k + 1 => by
    have := opsN_le n ac k
    show opsN n ac k + (if ac k < n - 1 then 1 else 0) ≤ k + 1
    split <;> omega
theorem opsN_y {n : Nat} {ac : Nat → Nat} {k : Nat} (h : ac k < n - 1) : opsN n ac (k + 1) = opsN n ac k + 1 := by
  show opsN n ac k + (if ac k < n - 1 then 1 else 0) = _
  rw [if_pos h]
theorem opsN_n {n : Nat} {ac : Nat → Nat} {k : Nat} (h : ¬ ac k < n - 1) : opsN n ac (k + 1) = opsN n ac k + 0 := by
  show opsN n ac k + (if ac k < n - 1 then 1 else 0) = _
  rw [if_neg h]
def silI (o : Option Nat) : Int32 := match o with
  | none => -9
  | some k => nI k
/-- what acts answers, by what is asked -/
noncomputable def actsAns (n rn : Nat) (kd lv lm ac : Nat → Nat) (N v : Nat) : Int32 :=
  let R := runA (stepO n rn kd lm) ac N 0 lv
  if v = 1 then silI R.1 else match R.1 with
    | some k => (-100) - nI k
    | none => if 9 < v then (if v - 10 < n then nI (R.2 (v - 10)) else -9) else if v = 0 then nI (smN R.2 n) else if v = 2 then nI (opsN n ac N) else setI (mayN kd R.2 lm) (n - 1)
def whatOK (w : Int32) : Prop := inR w 4 ∨ (10 ≤ w.toInt ∧ w.toInt ≤ 13)
theorem what_ex {w : Int32} (h : whatOK w) : ∃ v : Nat, v ≤ 13 ∧ (v ≤ 3 ∨ 10 ≤ v) ∧ w = nI v := by
  rcases h with h | ⟨h1, h2⟩
  · obtain ⟨j, hj, e⟩ := inR_ex h (by decide)
    exact ⟨j, by omega, Or.inl (by omega), e⟩
  · obtain ⟨j, hj, e⟩ := inR_ex (x := w) (n := 14) ⟨by omega, by omega⟩ (by decide)
    refine ⟨j, by omega, Or.inr ?_, e⟩
    rw [e, nI_toInt (by omega)] at h1; omega
theorem barF_0 {th ln ct : Nat} {lane i n : Int32} (h : barF th ln ct lane i n = 0) : th ≠ 0 ∧ nI ln = lane ∧ 0 ≤ n.toInt ∧ 0 ≤ i.toInt ∧ i.toInt + n.toInt ≤ ct := by
  unfold barF at h
  by_cases h1 : th = 0
  · rw [if_pos h1] at h; omega
  · rw [if_neg h1] at h
    by_cases h2 : nI ln = lane
    · rw [if_neg (not_not_intro h2)] at h
      by_cases h3 : n.toInt < 0
      · rw [if_pos h3] at h; omega
      · rw [if_neg h3] at h
        by_cases h4 : i.toInt < 0 ∨ (ct : Int) < i.toInt + n.toInt
        · rw [if_pos h4] at h; omega
        · exact ⟨h1, h2, by omega, by omega, by omega⟩
    · rw [if_pos h2] at h; omega
def allA (cf : Nat → Int32) (i N n : Nat) : Prop := ∀ x, x < N → inR (cf (i + x)) n
/-- acts, whole -/
noncomputable def actsJ (n rn : Nat) (kd lv lm : Nat → Nat) (cf : Nat → Int32) (i : Int32) (N : Nat) (w : Int32) : Int32 :=
  @ite _ (allA cf i.toNatClampNeg N n) (Classical.propDecidable _) (actsAns n rn kd lv lm (fun x => (cf (i.toNatClampNeg + x)).toNatClampNeg) N w.toNatClampNeg) (-2)
noncomputable def aActs (n rn : Nat) (kd lv lm : Nat → Nat) (th ln ct : Nat → Nat) (cs : Nat → Nat → Int32) (k lane i n0 w : Int32) : Int32 :=
  onR k 4 (-1) (fun j => onR lane 3 (-2) (fun _ => onR n0 41 (-2) (fun N => @ite _ (whatOK w) (Classical.propDecidable _) (if n = 0 then -3 else if barF (th j) (ln j) (ct j) lane i n0 = 0 then actsJ n rn kd lv lm (cs j) i N w else (-10) - nI (barF (th j) (ln j) (ct j) lane i n0)) (-2))))
noncomputable def fActs (n : Nat) (th ln ct : Nat → Nat) (k lane i n0 w : Int32) : Nat :=
  onR k 4 0 (fun j => onR lane 3 0 (fun _ => onR n0 41 0 (fun _ => @ite _ (whatOK w) (Classical.propDecidable _) (if n = 0 then 0 else barF (th j) (ln j) (ct j) lane i n0) 0)))
theorem allA_s {cf : Nat → Int32} {i N n : Nat} (h : allA cf i N n) (h2 : inR (cf (i + N)) n) : allA cf i (N + 1) n := by
  intro x hx
  by_cases q : x = N
  · rw [q]; exact h2
  · exact h x (by omega)

theorem actN_id {n rn a : Nat} {kd lm f : Nat → Nat} (h : ¬ canN n kd lm f a) : actN n rn kd lm f a = f := by
  unfold actN; rw [if_neg (fun q => h (Or.inl q)), if_neg (fun q => h (Or.inr q))]
theorem actN_id_le {n rn a : Nat} {kd lm f : Nat → Nat} (hf : ∀ i, f i ≤ 9) (h : ¬ canN n kd lm f a) : ∀ i, actN n rn kd lm f a i ≤ 9 := by rw [actN_id h]; exact hf
theorem actN_id_ag {n rn a m : Nat} {kd lm f g : Nat → Nat} (hf : ∀ i, i < m → f i = g i) (h : ¬ canN n kd lm f a) : ∀ i, i < m → actN n rn kd lm f a i = g i := by rw [actN_id h]; exact hf

set_option maxHeartbeats 4000000 in
set_option maxRecDepth 100000 in
theorem c_X6_goActs (l : Launch) (D : va_G) (cI cZ cO : ClassId) (mq : Nat) (ma : Nat → Nat) (mg : Nat → Nat) (mh : Nat → Int32) (mF : Nat → Nat → Nat) (mE : Nat → Nat → Int32) (sz : Nat) (fr : Nat) (nn : Nat) (ac : Nat → Nat) (lv0 : Nat → Nat) (hfr : fr + nn ≤ 240) (hnn : nn ≤ 40) (hac : ∀ z0, z0 < nn → mE 27 (fr + z0) = nI (ac z0) ∧ ac z0 < mg 2) (hlv0 : mF 4 = lv0) (h2 : 2 ≤ mg 2) (hn : mg 2 ≤ 4) (hk : ∀ z0, mF 3 z0 ≤ 2) (hlv : ∀ z0, mF 4 z0 ≤ 9) (hm : ∀ z0, mF 5 z0 ≤ 9) (hw : ∀ z0, mF 12 z0 ≤ 9) (hrn : mg 1 ≤ 3) : Met l yX6_goActs wsX6_goActs ({ frames := 3, cells := 0, slots := 0, locals := 64 }) (va_Pc [.ref mq, .int (nI fr), .int (nI nn)] (st_W D (ty3 cI cZ cO) (wM cI cZ mq ma mg mh mF mE) sz)) (va_Qv (fun (u : (Nat → Nat) × (Int32) × (Nat)) => (∀ z0, u.1 z0 ≤ 9) ∧ (∀ z0, z0 < mg 2 → u.1 z0 = (runA (stepO (mg 2) (mg 1) (mF 3) (mF 5)) ac nn 0 lv0).2 z0) ∧ u.2.1 = silI (runA (stepO (mg 2) (mg 1) (mF 3) (mF 5)) ac nn 0 lv0).1 ∧ ((runA (stepO (mg 2) (mg 1) (mF 3) (mF 5)) ac nn 0 lv0).1 = none → u.2.2 = opsN (mg 2) ac nn) ∧ (∀ kk, (runA (stepO (mg 2) (mg 1) (mF 3) (mF 5)) ac nn 0 lv0).1 = some kk → kk < nn)) (fun u t => at_W D (ty3 cI cZ cO) (va_A (wM cI cZ mq ma mg mh mF mE) sz) (wM cI cZ mq ma (sF mg 14 u.2.2) (sF mh 13 u.2.1) (sF mF 12 u.1) mE) t) (va_A (wM cI cZ mq ma mg mh mF mE) sz)) 0 0 (va_A (wM cI cZ mq ma mg mh mF mE) sz) := by
  refine Met.gov (cc := cX6_goActs) (maxL := 5) (ret := none) (by decide) rfl (Nat.le_of_ble_eq_true rfl) (fun p e s m below meth c A ls X hW hl => ?_)
  have hi6 : ∀ w ∈ wsX60, w ∈ wsX6_goActs := fun w h => List.mem_cons_of_mem _ (List.mem_append_right _ h)
  have hl : lv_has ls 5 [(0, .ref mq), (1, .int (nI fr)), (2, .int (nI nn))] := hl
  refine x_aload_n X dX6_goActs_0 rfl (lv_at hl 0 rfl) ?_
  refine x_bipush (v := (-9 : Int32)) X dX6_goActs_1 (by decide) ?_
  refine x_put X hW (v := .int (-9 : Int32)) hi6 tyX6 tyX6_ok nmX6 0 rfl rfl 13 (by decide) (List.mem_of_getElem? (i := 1) rfl) rfl rfl rfl rfl (Nat.le_of_ble_eq_true rfl) dX6_goActs_3 (wM cI cZ mq ma mg (sF mh 13 (-9 : Int32)) mF mE) rfl (fun H locs hW => ?_)
  refine x_aload_n X dX6_goActs_6 rfl (lv_at hl 0 rfl) ?_
  refine x_iconst (v := nI 0) X dX6_goActs_7 (by decide) ?_
  refine x_put X hW (v := .int (nI 0)) hi6 tyX6 tyX6_ok nmX6 0 rfl rfl 14 (by decide) (List.mem_of_getElem? (i := 2) rfl) rfl rfl rfl rfl (Nat.le_of_ble_eq_true rfl) dX6_goActs_8 (wM cI cZ mq ma (sF mg 14 0) (sF mh 13 (-9 : Int32)) mF mE) rfl (fun H locs hW => ?_)
  refine x_aload_n X dX6_goActs_11 rfl (lv_at hl 0 rfl) ?_
  refine x_callVv0 X hW (As := []) (rest := []) (c_X6_begin l D cI cZ cO mq ma (sF mg 14 0) (sF mh 13 (-9 : Int32)) mF mE _ (show (mg 2) ≤ 4 from (by first | assumption | omega))) (cwV 0 X.2.2.2.2.2.1 gX6_goActs_X6_begin rfl rfl rfl (by decide +kernel) ⟨Nat.le_of_ble_eq_true rfl, Nat.le_of_ble_eq_true rfl⟩) 0 5 rfl rfl rfl rfl hl.1 rfl (Nat.le_of_ble_eq_true rfl) ⟨Nat.le_of_ble_eq_true rfl, Nat.le_of_ble_eq_true rfl⟩ dX6_goActs_12 (fun u2 H locs w12 hW => ?_)
  have hW : Wd D A s.heap H locs (wM cI cZ mq ma (sF mg 14 0) (sF mh 13 (-9 : Int32)) (sF mF 12 (cpN ((mg 2)) ((mF 4)) ((mF 12)))) mE) := hW
  have w12 : True := w12
  refine x_iconst (v := nI 0) X dX6_goActs_15 (by decide) ?_
  refine x_istore_n X [(3, .int (nI 0)), (0, .ref mq), (1, .int (nI fr)), (2, .int (nI nn))] dX6_goActs_16 rfl hl (by decide) rfl (fun ls hl => ?_)
  have hw0 : ∀ z0, cpN (mg 2) (mF 4) (mF 12) z0 ≤ 9 := cpN_le hlv hw
  have hag : ∀ z0, z0 < mg 2 → cpN (mg 2) (mF 4) (mF 12) z0 = lv0 z0 := fun _ q => by rw [cpN_in q, hlv0]
  refine W.loop (σ := (Nat) × (Nat → Nat) × (Nat → Nat) × (Int32) × (Nat)) (fun u H locs ls => (u.1 ≤ nn ∧ (∀ z0, u.2.2.1 z0 ≤ 9) ∧ (∀ z0, z0 < mg 2 → u.2.2.1 z0 = u.2.1 z0) ∧ ((u.2.2.2.1 = (-9 : Int32) ∧ u.2.2.2.2 = opsN (mg 2) ac u.1 ∧ (runA (stepO (mg 2) (mg 1) (mF 3) (mF 5)) ac nn 0 lv0) = runA (stepO (mg 2) (mg 1) (mF 3) (mF 5)) ac (nn - u.1) u.1 u.2.1) ∨ (∃ kk, kk < nn ∧ u.2.2.2.1 = nI kk ∧ u.2.2.2.2 ≤ nn ∧ (runA (stepO (mg 2) (mg 1) (mF 3) (mF 5)) ac nn 0 lv0) = (some kk, u.2.1)))) ∧ Wd D A s.heap H locs (wM cI cZ mq ma (sF mg 14 u.2.2.2.2) (sF mh 13 u.2.2.2.1) (sF mF 12 u.2.2.1) mE) ∧ lv_has ls 5 [(3, .int (nI u.1)), (0, .ref mq), (1, .int (nI fr)), (2, .int (nI nn))]) (fun u => nn - u.1) (fun u H locs ls hI ih => ?_) (0, lv0, (cpN ((mg 2)) ((mF 4)) ((mF 12))), (-9 : Int32), 0) ⟨(show 0 ≤ nn ∧ (∀ z0, (cpN ((mg 2)) ((mF 4)) ((mF 12))) z0 ≤ 9) ∧ (∀ z0, z0 < mg 2 → (cpN ((mg 2)) ((mF 4)) ((mF 12))) z0 = lv0 z0) ∧ (((-9 : Int32) = (-9 : Int32) ∧ 0 = opsN (mg 2) ac 0 ∧ (runA (stepO (mg 2) (mg 1) (mF 3) (mF 5)) ac nn 0 lv0) = runA (stepO (mg 2) (mg 1) (mF 3) (mF 5)) ac (nn - 0) 0 lv0) ∨ (∃ kk, kk < nn ∧ (-9 : Int32) = nI kk ∧ 0 ≤ nn ∧ (runA (stepO (mg 2) (mg 1) (mF 3) (mF 5)) ac nn 0 lv0) = (some kk, lv0))) from ⟨by omega, hw0, hag, Or.inl ⟨rfl, rfl, rfl⟩⟩), hW, hl⟩
  obtain ⟨x, lvx, L, si, op⟩ := u
  obtain ⟨hv, hW, hl⟩ := hI
  have hv : x ≤ nn ∧ (∀ z0, L z0 ≤ 9) ∧ (∀ z0, z0 < mg 2 → L z0 = lvx z0) ∧ ((si = (-9 : Int32) ∧ op = opsN (mg 2) ac x ∧ (runA (stepO (mg 2) (mg 1) (mF 3) (mF 5)) ac nn 0 lv0) = runA (stepO (mg 2) (mg 1) (mF 3) (mF 5)) ac (nn - x) x lvx) ∨ (∃ kk, kk < nn ∧ si = nI kk ∧ op ≤ nn ∧ (runA (stepO (mg 2) (mg 1) (mF 3) (mF 5)) ac nn 0 lv0) = (some kk, lvx))) := hv
  have hW : Wd D A s.heap H locs (wM cI cZ mq ma (sF mg 14 op) (sF mh 13 si) (sF mF 12 L) mE) := hW
  have hl : lv_has ls 5 [(3, .int (nI x)), (0, .ref mq), (1, .int (nI fr)), (2, .int (nI nn))] := hl
  have ih17 := ih
  refine x_iload_n X dX6_goActs_17 rfl (lv_at hl 0 rfl) ?_
  refine x_iload_n X dX6_goActs_18 rfl (lv_at hl 3 rfl) ?_
  refine n_icmp_ge X 87 dX6_goActs_19 (by decide) (by omega) (by omega) (fun c19 => ?_) (fun c19 => ?_)
  · have hfin : (∀ z0, L z0 ≤ 9) ∧ (∀ z0, z0 < mg 2 → L z0 = (runA (stepO (mg 2) (mg 1) (mF 3) (mF 5)) ac nn 0 lv0).2 z0) ∧ si = silI (runA (stepO (mg 2) (mg 1) (mF 3) (mF 5)) ac nn 0 lv0).1 ∧ ((runA (stepO (mg 2) (mg 1) (mF 3) (mF 5)) ac nn 0 lv0).1 = none → op = opsN (mg 2) ac nn) ∧ (∀ kk, (runA (stepO (mg 2) (mg 1) (mF 3) (mF 5)) ac nn 0 lv0).1 = some kk → kk < nn) := by
      refine ⟨hv.2.1, ?_⟩
      first
        | (rw [hR]; exact ⟨hv.2.2.1, rfl, fun q => (by cases q), fun _ q => by cases q; exact hkk⟩)
        | (have ex : x = nn := by omega
           subst ex; rw [hR, Nat.sub_self]; exact ⟨hv.2.2.1, rfl, fun _ => hop, fun _ q => by cases q⟩)
        | (have ex : x = nn := by omega
           subst ex; rcases hv.2.2.2 with ⟨hs, hop, hR⟩ | ⟨kk, hkk, hs, hop, hR⟩
           · rw [hR, Nat.sub_self]; exact ⟨hv.2.2.1, hs, fun _ => hop, fun _ q => by cases q⟩
           · rw [hR]; exact ⟨hv.2.2.1, hs, fun q => (by cases q), fun _ q => by cases q; exact hkk⟩)
    exact x_vret X hW rfl (L, si, op) (hfin) rfl dX6_goActs_87
  · refine x_aload_n X dX6_goActs_22 rfl (lv_at hl 1 rfl) ?_
    refine x_get X hW (v := .int si) hi6 0 rfl rfl 13 (by decide) (List.mem_of_getElem? (i := 1) rfl) rfl rfl dX6_goActs_23 ?_
    rcases hv.2.2.2 with ⟨hs, hop, hR⟩ | hex
    · subst hs
      refine x_if_ge X 87 dX6_goActs_26 (by decide) (fun c26 => by first | exact absurd c26 (by decide) | exact absurd (by decide) c26) (fun c26 => ?_)
      refine x_aload_n X dX6_goActs_29 rfl (lv_at hl 1 rfl) ?_
      refine x_get X hW (v := .ref (ma 27)) hi6 0 rfl rfl 27 (by decide) (List.mem_of_getElem? (i := 3) rfl) rfl rfl dX6_goActs_30 ?_
      refine x_iload_n X dX6_goActs_33 rfl (lv_at hl 2 rfl) ?_
      refine x_iload_n X dX6_goActs_34 rfl (lv_at hl 0 rfl) ?_
      refine n_iadd X dX6_goActs_35 ?_
      refine i_iald X hW (f := mE 27) 16 0 rfl rfl (by omega) (by decide) dX6_goActs_36 ?_
      have hacx := (hac x (by omega)).2
      refine i_as0 (b := nI (ac x)) (hac x (by omega)).1 ?_
      refine x_istore X [(4, .int (nI (ac x))), (3, .int (nI x)), (0, .ref mq), (1, .int (nI fr)), (2, .int (nI nn))] dX6_goActs_37 hl (by decide) rfl (fun ls hl => ?_)
      refine x_aload_n X dX6_goActs_39 rfl (lv_at hl 2 rfl) ?_
      refine x_iload X dX6_goActs_40 (lv_at hl 0 rfl) ?_
      refine x_callVi0 X hW (As := [.int (nI (ac x))]) (rest := []) (c_X6_does l D cI cZ cO mq ma (sF mg 14 op) (sF mh 13 (-9 : Int32)) (sF mF 12 L) mE _ (ac x) (show (ac x) < (mg 2) from (hac x (by omega)).2) (show 2 ≤ (mg 2) from (by first | assumption | omega)) (show (mg 2) ≤ 4 from (by first | assumption | omega)) (show ∀ z0, (mF 3) z0 ≤ 2 from (by first | assumption | omega)) (show ∀ z0, (mF 5) z0 ≤ 9 from (by first | assumption | omega)) (show ∀ z0, L z0 ≤ 9 from hv.2.1) (show (mg 1) ≤ 3 from (by first | assumption | omega))) (cwV 1 X.2.2.2.2.2.1 gX6_goActs_X6_does rfl rfl rfl (by decide +kernel) ⟨Nat.le_of_ble_eq_true rfl, Nat.le_of_ble_eq_true rfl⟩) 0 5 rfl rfl rfl rfl hl.1 rfl (Nat.le_of_ble_eq_true rfl) ⟨Nat.le_of_ble_eq_true rfl, Nat.le_of_ble_eq_true rfl⟩ dX6_goActs_42 (fun r3 u4 H locs w42 hW => ?_)
      have hW : Wd D A s.heap H locs (wM cI cZ mq ma (sF mg 14 op) (sF mh 13 (-9 : Int32)) (sF mF 12 (actN ((mg 2)) ((mg 1)) ((mF 3)) ((mF 5)) (L) (ac x))) mE) := hW
      have w42 : (r3 = nI 1 ∧ (canN ((mg 2)) ((mF 3)) ((mF 5)) (L) (ac x)) ∨ r3 = nI 0 ∧ ¬ (canN ((mg 2)) ((mF 3)) ((mF 5)) (L) (ac x))) := w42
      rcases w42 with ⟨w42, h42⟩ | ⟨w42, h42⟩
      · subst w42
        have hcan := (canN_cong (hac x (by omega)).2 hv.2.2.1).mp h42
        refine n_if_eq X 76 dX6_goActs_45 (by decide) (by decide) (fun c45 => by exact absurd c45 (by decide)) (fun c45 => ?_)
        refine x_aload_n X dX6_goActs_48 rfl (lv_at hl 2 rfl) ?_
        refine x_dup X dX6_goActs_49 rfl ?_
        refine x_get X hW (v := .int (nI op)) hi6 0 rfl rfl 14 (by decide) (List.mem_of_getElem? (i := 2) rfl) rfl rfl dX6_goActs_50 ?_
        refine x_iload X dX6_goActs_53 (lv_at hl 0 rfl) ?_
        refine x_aload_n X dX6_goActs_55 rfl (lv_at hl 2 rfl) ?_
        refine x_get X hW (v := .int (nI (mg 2))) hi6 0 rfl rfl 2 (by decide) (List.mem_of_getElem? (i := 4) rfl) rfl rfl dX6_goActs_56 ?_
        refine x_iconst (v := nI 1) X dX6_goActs_59 (by decide) ?_
        refine n_isub X dX6_goActs_60 (by omega) ?_
        have hopb := opsN_le (mg 2) ac x
        refine n_icmp_ge X 68 dX6_goActs_61 (by decide) (by omega) (by omega) (fun c61 => ?_) (fun c61 => ?_)
        · have c61x : ¬ ac x < mg 2 - 1 := by omega
          refine x_iconst (v := nI 0) X dX6_goActs_68 (by decide) ?_
          refine n_iadd X dX6_goActs_69 ?_
          refine x_put X hW (v := .int (nI (op + 0))) hi6 tyX6 tyX6_ok nmX6 0 rfl rfl 14 (by decide) (List.mem_of_getElem? (i := 2) rfl) rfl rfl rfl rfl (Nat.le_of_ble_eq_true rfl) dX6_goActs_70 (wM cI cZ mq ma (sF mg 14 (op + 0)) (sF mh 13 (-9 : Int32)) (sF mF 12 (actN ((mg 2)) ((mg 1)) ((mF 3)) ((mF 5)) (L) (ac x))) mE) rfl (fun H locs hW => ?_)
          refine x_goto X 81 dX6_goActs_73 (by decide) ?_
          refine x_iinc X [(3, .int (nI (x + 1))), (4, .int (nI (ac x))), (0, .ref mq), (1, .int (nI fr)), (2, .int (nI nn))] (k := 1) dX6_goActs_81 hl rfl (nI_inc1 x) (by decide) rfl (fun ls hl => ?_)
          refine x_goto X 17 dX6_goActs_84 (by decide) ?_
          exact ih17 ((x + 1), (actN (mg 2) (mg 1) (mF 3) (mF 5) lvx (ac x)), (actN ((mg 2)) ((mg 1)) ((mF 3)) ((mF 5)) (L) (ac x)), (-9 : Int32), (op + 0)) _ _ _ ⟨(show (x + 1) ≤ nn ∧ (∀ z0, (actN ((mg 2)) ((mg 1)) ((mF 3)) ((mF 5)) (L) (ac x)) z0 ≤ 9) ∧ (∀ z0, z0 < mg 2 → (actN ((mg 2)) ((mg 1)) ((mF 3)) ((mF 5)) (L) (ac x)) z0 = (actN (mg 2) (mg 1) (mF 3) (mF 5) lvx (ac x)) z0) ∧ (((-9 : Int32) = (-9 : Int32) ∧ (op + 0) = opsN (mg 2) ac (x + 1) ∧ (runA (stepO (mg 2) (mg 1) (mF 3) (mF 5)) ac nn 0 lv0) = runA (stepO (mg 2) (mg 1) (mF 3) (mF 5)) ac (nn - (x + 1)) (x + 1) (actN (mg 2) (mg 1) (mF 3) (mF 5) lvx (ac x))) ∨ (∃ kk, kk < nn ∧ (-9 : Int32) = nI kk ∧ (op + 0) ≤ nn ∧ (runA (stepO (mg 2) (mg 1) (mF 3) (mF 5)) ac nn 0 lv0) = (some kk, (actN (mg 2) (mg 1) (mF 3) (mF 5) lvx (ac x))))) from ⟨by omega, actN_le hv.2.1 hm, actN_cong (by omega) (hac x (by omega)).2 hv.2.2.1, Or.inl ⟨rfl, by first | (rw [opsN_y c61x, hop]) | (rw [opsN_n c61x, hop]), by rw [hR, show nn - x = (nn - (x + 1)) + 1 by omega, runA_y hcan]⟩⟩), hW, lv_sub hl [0, 2, 3, 4] rfl⟩ (by omega)
        · have c61x : ac x < mg 2 - 1 := by omega
          refine x_iconst (v := nI 1) X dX6_goActs_64 (by decide) ?_
          refine x_goto X 69 dX6_goActs_65 (by decide) ?_
          refine n_iadd X dX6_goActs_69 ?_
          refine x_put X hW (v := .int (nI (op + 1))) hi6 tyX6 tyX6_ok nmX6 0 rfl rfl 14 (by decide) (List.mem_of_getElem? (i := 2) rfl) rfl rfl rfl rfl (Nat.le_of_ble_eq_true rfl) dX6_goActs_70 (wM cI cZ mq ma (sF mg 14 (op + 1)) (sF mh 13 (-9 : Int32)) (sF mF 12 (actN ((mg 2)) ((mg 1)) ((mF 3)) ((mF 5)) (L) (ac x))) mE) rfl (fun H locs hW => ?_)
          refine x_goto X 81 dX6_goActs_73 (by decide) ?_
          refine x_iinc X [(3, .int (nI (x + 1))), (4, .int (nI (ac x))), (0, .ref mq), (1, .int (nI fr)), (2, .int (nI nn))] (k := 1) dX6_goActs_81 hl rfl (nI_inc1 x) (by decide) rfl (fun ls hl => ?_)
          refine x_goto X 17 dX6_goActs_84 (by decide) ?_
          exact ih17 ((x + 1), (actN (mg 2) (mg 1) (mF 3) (mF 5) lvx (ac x)), (actN ((mg 2)) ((mg 1)) ((mF 3)) ((mF 5)) (L) (ac x)), (-9 : Int32), (op + 1)) _ _ _ ⟨(show (x + 1) ≤ nn ∧ (∀ z0, (actN ((mg 2)) ((mg 1)) ((mF 3)) ((mF 5)) (L) (ac x)) z0 ≤ 9) ∧ (∀ z0, z0 < mg 2 → (actN ((mg 2)) ((mg 1)) ((mF 3)) ((mF 5)) (L) (ac x)) z0 = (actN (mg 2) (mg 1) (mF 3) (mF 5) lvx (ac x)) z0) ∧ (((-9 : Int32) = (-9 : Int32) ∧ (op + 1) = opsN (mg 2) ac (x + 1) ∧ (runA (stepO (mg 2) (mg 1) (mF 3) (mF 5)) ac nn 0 lv0) = runA (stepO (mg 2) (mg 1) (mF 3) (mF 5)) ac (nn - (x + 1)) (x + 1) (actN (mg 2) (mg 1) (mF 3) (mF 5) lvx (ac x))) ∨ (∃ kk, kk < nn ∧ (-9 : Int32) = nI kk ∧ (op + 1) ≤ nn ∧ (runA (stepO (mg 2) (mg 1) (mF 3) (mF 5)) ac nn 0 lv0) = (some kk, (actN (mg 2) (mg 1) (mF 3) (mF 5) lvx (ac x))))) from ⟨by omega, actN_le hv.2.1 hm, actN_cong (by omega) (hac x (by omega)).2 hv.2.2.1, Or.inl ⟨rfl, by first | (rw [opsN_y c61x, hop]) | (rw [opsN_n c61x, hop]), by rw [hR, show nn - x = (nn - (x + 1)) + 1 by omega, runA_y hcan]⟩⟩), hW, lv_sub hl [0, 2, 3, 4] rfl⟩ (by omega)
      · subst w42
        have hcan := fun q => h42 ((canN_cong (hac x (by omega)).2 hv.2.2.1).mpr q)
        refine n_if_eq X 76 dX6_goActs_45 (by decide) (by decide) (fun c45 => ?_) (fun c45 => by exact absurd c45 (by decide))
        refine x_aload_n X dX6_goActs_76 rfl (lv_at hl 2 rfl) ?_
        refine x_iload_n X dX6_goActs_77 rfl (lv_at hl 1 rfl) ?_
        refine x_put X hW (v := .int (nI x)) hi6 tyX6 tyX6_ok nmX6 0 rfl rfl 13 (by decide) (List.mem_of_getElem? (i := 1) rfl) rfl rfl rfl rfl (Nat.le_of_ble_eq_true rfl) dX6_goActs_78 (wM cI cZ mq ma (sF mg 14 op) (sF mh 13 (nI x)) (sF mF 12 (actN ((mg 2)) ((mg 1)) ((mF 3)) ((mF 5)) (L) (ac x))) mE) rfl (fun H locs hW => ?_)
        refine x_iinc X [(3, .int (nI (x + 1))), (4, .int (nI (ac x))), (0, .ref mq), (1, .int (nI fr)), (2, .int (nI nn))] (k := 1) dX6_goActs_81 hl rfl (nI_inc1 x) (by decide) rfl (fun ls hl => ?_)
        refine x_goto X 17 dX6_goActs_84 (by decide) ?_
        exact ih17 ((x + 1), lvx, (actN ((mg 2)) ((mg 1)) ((mF 3)) ((mF 5)) (L) (ac x)), (nI x), op) _ _ _ ⟨(show (x + 1) ≤ nn ∧ (∀ z0, (actN ((mg 2)) ((mg 1)) ((mF 3)) ((mF 5)) (L) (ac x)) z0 ≤ 9) ∧ (∀ z0, z0 < mg 2 → (actN ((mg 2)) ((mg 1)) ((mF 3)) ((mF 5)) (L) (ac x)) z0 = lvx z0) ∧ (((nI x) = (-9 : Int32) ∧ op = opsN (mg 2) ac (x + 1) ∧ (runA (stepO (mg 2) (mg 1) (mF 3) (mF 5)) ac nn 0 lv0) = runA (stepO (mg 2) (mg 1) (mF 3) (mF 5)) ac (nn - (x + 1)) (x + 1) lvx) ∨ (∃ kk, kk < nn ∧ (nI x) = nI kk ∧ op ≤ nn ∧ (runA (stepO (mg 2) (mg 1) (mF 3) (mF 5)) ac nn 0 lv0) = (some kk, lvx))) from ⟨by omega, actN_id_le hv.2.1 h42, actN_id_ag hv.2.2.1 h42, Or.inr ⟨x, by omega, rfl, by have := opsN_le (mg 2) ac x; omega, by rw [hR, show nn - x = (nn - (x + 1)) + 1 by omega, runA_n hcan]⟩⟩), hW, lv_sub hl [0, 2, 3, 4] rfl⟩ (by omega)
    · obtain ⟨kk, hkk, hs, hop, hR⟩ := hex
      subst hs
      refine n_if_ge X 87 dX6_goActs_26 (by decide) (by omega) ?_
      have hfin : (∀ z0, L z0 ≤ 9) ∧ (∀ z0, z0 < mg 2 → L z0 = (runA (stepO (mg 2) (mg 1) (mF 3) (mF 5)) ac nn 0 lv0).2 z0) ∧ (nI kk) = silI (runA (stepO (mg 2) (mg 1) (mF 3) (mF 5)) ac nn 0 lv0).1 ∧ ((runA (stepO (mg 2) (mg 1) (mF 3) (mF 5)) ac nn 0 lv0).1 = none → op = opsN (mg 2) ac nn) ∧ (∀ kk, (runA (stepO (mg 2) (mg 1) (mF 3) (mF 5)) ac nn 0 lv0).1 = some kk → kk < nn) := by
        refine ⟨hv.2.1, ?_⟩
        first
          | (rw [hR]; exact ⟨hv.2.2.1, rfl, fun q => (by cases q), fun _ q => by cases q; exact hkk⟩)
          | (have ex : x = nn := by omega
             subst ex; rw [hR, Nat.sub_self]; exact ⟨hv.2.2.1, rfl, fun _ => hop, fun _ q => by cases q⟩)
          | (have ex : x = nn := by omega
             subst ex; rcases hv.2.2.2 with ⟨hs, hop, hR⟩ | ⟨kk, hkk, hs, hop, hR⟩
             · rw [hR, Nat.sub_self]; exact ⟨hv.2.2.1, hs, fun _ => hop, fun _ q => by cases q⟩
             · rw [hR]; exact ⟨hv.2.2.1, hs, fun q => (by cases q), fun _ q => by cases q; exact hkk⟩)
      exact x_vret X hW rfl (L, (nI kk), op) (hfin) rfl dX6_goActs_87
set_option maxHeartbeats 4000000 in
set_option maxRecDepth 100000 in
theorem c_X6_levelsNow (l : Launch) (D : va_G) (cI cZ cO : ClassId) (mq : Nat) (ma : Nat → Nat) (mg : Nat → Nat) (mh : Nat → Int32) (mF : Nat → Nat → Nat) (mE : Nat → Nat → Int32) (sz : Nat)   (hn : mg 2 ≤ 4) (hw : ∀ z0, mF 12 z0 ≤ 9) : Met l yX6_levelsNow wsX6_levelsNow ({ frames := 0, cells := 0, slots := 0, locals := 0 }) (va_Pc [.ref mq] (st_W D (ty3 cI cZ cO) (wM cI cZ mq ma mg mh mF mE) sz)) (va_Qi (fun (rr : Int32) (u : Unit) => rr = nI (smN (mF 12) (mg 2))) (fun u t => at_W D (ty3 cI cZ cO) (va_A (wM cI cZ mq ma mg mh mF mE) sz) (wM cI cZ mq ma mg mh mF mE) t) (va_A (wM cI cZ mq ma mg mh mF mE) sz)) 0 0 (va_A (wM cI cZ mq ma mg mh mF mE) sz) := by
  refine Met.goi (cc := cX6_levelsNow) (maxL := 3) (ret := (some .int)) (by decide) rfl (Nat.le_of_ble_eq_true rfl) (fun p e s m below meth c A ls X hW hl => ?_)
  have hi6 : ∀ w ∈ wsX60, w ∈ wsX6_levelsNow := fun w h => List.mem_cons_of_mem _ (List.mem_append_right _ h)
  have hl : lv_has ls 3 [(0, .ref mq)] := hl
  refine x_iconst (v := nI 0) X dX6_levelsNow_0 (by decide) ?_
  refine x_istore_n X [(1, .int (nI 0)), (0, .ref mq)] dX6_levelsNow_1 rfl hl (by decide) rfl (fun ls hl => ?_)
  refine x_iconst (v := nI 0) X dX6_levelsNow_2 (by decide) ?_
  refine x_istore_n X [(2, .int (nI 0)), (1, .int (nI 0)), (0, .ref mq)] dX6_levelsNow_3 rfl hl (by decide) rfl (fun ls hl => ?_)
  refine W.loop (σ := (Nat)) (fun u H locs ls => (u ≤ mg 2) ∧ Wd D A s.heap H locs (wM cI cZ mq ma mg mh mF mE) ∧ lv_has ls 3 [(2, .int (nI u)), (1, .int (nI (smN (mF 12) u))), (0, .ref mq)]) (fun u => mg 2 - u) (fun u H locs ls hI ih => ?_) 0 ⟨(show 0 ≤ mg 2 from (by omega)), hW, hl⟩
  obtain ⟨i, ie⟩ : ∃ z, z = u := ⟨_, rfl⟩
  subst ie
  obtain ⟨hv, hW, hl⟩ := hI
  have hv : i ≤ mg 2 := hv
  have hW : Wd D A s.heap H locs (wM cI cZ mq ma mg mh mF mE) := hW
  have hl : lv_has ls 3 [(2, .int (nI i)), (1, .int (nI (smN (mF 12) i))), (0, .ref mq)] := hl
  have ih4 := ih
  refine x_iload_n X dX6_levelsNow_4 rfl (lv_at hl 0 rfl) ?_
  refine x_aload_n X dX6_levelsNow_5 rfl (lv_at hl 2 rfl) ?_
  refine x_get X hW (v := .int (nI (mg 2))) hi6 0 rfl rfl 2 (by decide) (List.mem_of_getElem? (i := 1) rfl) rfl rfl dX6_levelsNow_6 ?_
  refine n_icmp_ge X 27 dX6_levelsNow_9 (by decide) (by omega) (by omega) (fun c9 => ?_) (fun c9 => ?_)
  · have ei : i = mg 2 := by omega
    refine x_iload_n X dX6_levelsNow_27 rfl (lv_at hl 1 rfl) ?_
    exact x_iret X hW rfl () ((congrArg nI (show smN (mF 12) i = smN (mF 12) (mg 2) from by rw [ei]))) rfl dX6_levelsNow_28
  · refine x_iload_n X dX6_levelsNow_12 rfl (lv_at hl 1 rfl) ?_
    refine x_aload_n X dX6_levelsNow_13 rfl (lv_at hl 2 rfl) ?_
    refine x_get X hW (v := .ref (ma 12)) hi6 0 rfl rfl 12 (by decide) (List.mem_of_getElem? (i := 2) rfl) rfl rfl dX6_levelsNow_14 ?_
    refine x_iload_n X dX6_levelsNow_17 rfl (lv_at hl 0 rfl) ?_
    refine n_iald X hW (f := mF 12) 7 0 rfl rfl (by omega) (by decide) dX6_levelsNow_18 ?_
    refine n_iadd X dX6_levelsNow_19 ?_
    refine x_istore_n X [(1, .int (nI ((smN (mF 12) i) + (mF 12 i)))), (2, .int (nI i)), (0, .ref mq)] dX6_levelsNow_20 rfl hl (by decide) rfl (fun ls hl => ?_)
    refine x_iinc X [(2, .int (nI (i + 1))), (1, .int (nI ((smN (mF 12) i) + (mF 12 i)))), (0, .ref mq)] (k := 1) dX6_levelsNow_21 hl rfl (nI_inc1 i) (by decide) rfl (fun ls hl => ?_)
    refine x_goto X 4 dX6_levelsNow_24 (by decide) ?_
    exact ih4 (i + 1) _ _ _ ⟨(show (i + 1) ≤ mg 2 from (by omega)), hW, lv_sub hl [0, 1, 2] rfl⟩ (by omega)
