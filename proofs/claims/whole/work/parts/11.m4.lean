/-! acts told: a run of them, its silence, how often a gate is opened -/
def stepO (n rn : Nat) (kd lm lv : Nat → Nat) (a : Nat) : Option (Nat → Nat) := if canN n kd lm lv a then some (actN n rn kd lm lv a) else none
def runA (st : (Nat → Nat) → Nat → Option (Nat → Nat)) (ac : Nat → Nat) : Nat → Nat → (Nat → Nat) → Option Nat × (Nat → Nat)
  | 0, _, lv => (none, lv)
  | r + 1, k, lv => match st lv (ac k) with
    | none => (some k, lv)
    | some lv' => runA st ac r (k + 1) lv'
theorem runA_y {n rn : Nat} {kd lm lv ac : Nat → Nat} {r k : Nat} (h : canN n kd lm lv (ac k)) : runA (stepO n rn kd lm) ac (r + 1) k lv = runA (stepO n rn kd lm) ac r (k + 1) (actN n rn kd lm lv (ac k)) := by
  show (match stepO n rn kd lm lv (ac k) with | none => (some k, lv) | some lv' => runA (stepO n rn kd lm) ac r (k + 1) lv') = _
  unfold stepO; rw [if_pos h]
theorem runA_n {n rn : Nat} {kd lm lv ac : Nat → Nat} {r k : Nat} (h : ¬ canN n kd lm lv (ac k)) : runA (stepO n rn kd lm) ac (r + 1) k lv = (some k, lv) := by
  show (match stepO n rn kd lm lv (ac k) with | none => (some k, lv) | some lv' => runA (stepO n rn kd lm) ac r (k + 1) lv') = _
  unfold stepO; rw [if_neg h]
theorem canN_cong {kd lm f g : Nat → Nat} {n a : Nat} (ha : a < n) (h : ∀ i, i < n → f i = g i) : canN n kd lm f a ↔ canN n kd lm g a := by
  unfold canN
  by_cases q : a = n - 1
  · exact ⟨fun _ => Or.inl q, fun _ => Or.inl q⟩
  · constructor
    · intro z; exact z.elim Or.inl (fun w => Or.inr ((mayN_cong h (by omega)).mp w))
    · intro z; exact z.elim Or.inl (fun w => Or.inr ((mayN_cong h (by omega)).mpr w))
/-- how many of the first k acts open a gate -/
def opsN (n : Nat) (ac : Nat → Nat) : Nat → Nat
  | 0 => 0
  | k + 1 => opsN n ac k + if ac k < n - 1 then 1 else 0
theorem opsN_le (n : Nat) (ac : Nat → Nat) : ∀ k, opsN n ac k ≤ k
  | 0 => Nat.le_refl _
  | k + 1 => by
    have := opsN_le n ac k
    show opsN n ac k + (if ac k < n - 1 then 1 else 0) ≤ k + 1
    split <;> omega
theorem opsN_y {n : Nat} {ac : Nat → Nat} {k : Nat} (h : ac k < n - 1) : opsN n ac (k + 1) = opsN n ac k + 1 := by
  show opsN n ac k + (if ac k < n - 1 then 1 else 0) = _
  rw [if_pos h]
theorem opsN_n {n : Nat} {ac : Nat → Nat} {k : Nat} (h : ¬ ac k < n - 1) : opsN n ac (k + 1) = opsN n ac k + 0 := by
  show opsN n ac k + (if ac k < n - 1 then 1 else 0) = _
  rw [if_neg h]
def silI (o : Option Nat) : Int32 := match o with
  | none => -9
  | some k => nI k
/-- what acts answers, by what is asked -/
noncomputable def actsAns (n rn : Nat) (kd lv lm ac : Nat → Nat) (N v : Nat) : Int32 :=
  let R := runA (stepO n rn kd lm) ac N 0 lv
  if v = 1 then silI R.1 else match R.1 with
    | some k => (-100) - nI k
    | none => if 9 < v then (if v - 10 < n then nI (R.2 (v - 10)) else -9) else if v = 0 then nI (smN R.2 n) else if v = 2 then nI (opsN n ac N) else setI (mayN kd R.2 lm) (n - 1)
def whatOK (w : Int32) : Prop := inR w 4 ∨ (10 ≤ w.toInt ∧ w.toInt ≤ 13)
theorem what_ex {w : Int32} (h : whatOK w) : ∃ v : Nat, v ≤ 13 ∧ (v ≤ 3 ∨ 10 ≤ v) ∧ w = nI v := by
  rcases h with h | ⟨h1, h2⟩
  · obtain ⟨j, hj, e⟩ := inR_ex h (by decide)
    exact ⟨j, by omega, Or.inl (by omega), e⟩
  · obtain ⟨j, hj, e⟩ := inR_ex (x := w) (n := 14) ⟨by omega, by omega⟩ (by decide)
    refine ⟨j, by omega, Or.inr ?_, e⟩
    rw [e, nI_toInt (by omega)] at h1; omega
theorem barF_0 {th ln ct : Nat} {lane i n : Int32} (h : barF th ln ct lane i n = 0) : th ≠ 0 ∧ nI ln = lane ∧ 0 ≤ n.toInt ∧ 0 ≤ i.toInt ∧ i.toInt + n.toInt ≤ ct := by
  unfold barF at h
  by_cases h1 : th = 0
  · rw [if_pos h1] at h; omega
  · rw [if_neg h1] at h
    by_cases h2 : nI ln = lane
    · rw [if_neg (not_not_intro h2)] at h
      by_cases h3 : n.toInt < 0
      · rw [if_pos h3] at h; omega
      · rw [if_neg h3] at h
        by_cases h4 : i.toInt < 0 ∨ (ct : Int) < i.toInt + n.toInt
        · rw [if_pos h4] at h; omega
        · exact ⟨h1, h2, by omega, by omega, by omega⟩
    · rw [if_pos h2] at h; omega
def allA (cf : Nat → Int32) (i N n : Nat) : Prop := ∀ x, x < N → inR (cf (i + x)) n
/-- acts, whole -/
noncomputable def actsJ (n rn : Nat) (kd lv lm : Nat → Nat) (cf : Nat → Int32) (i : Int32) (N : Nat) (w : Int32) : Int32 :=
  @ite _ (allA cf i.toNatClampNeg N n) (Classical.propDecidable _) (actsAns n rn kd lv lm (fun x => (cf (i.toNatClampNeg + x)).toNatClampNeg) N w.toNatClampNeg) (-2)
noncomputable def aActs (n rn : Nat) (kd lv lm : Nat → Nat) (th ln ct : Nat → Nat) (cs : Nat → Nat → Int32) (k lane i n0 w : Int32) : Int32 :=
  onR k 4 (-1) (fun j => onR lane 3 (-2) (fun _ => onR n0 41 (-2) (fun N => @ite _ (whatOK w) (Classical.propDecidable _) (if n = 0 then -3 else if barF (th j) (ln j) (ct j) lane i n0 = 0 then actsJ n rn kd lv lm (cs j) i N w else (-10) - nI (barF (th j) (ln j) (ct j) lane i n0)) (-2))))
noncomputable def fActs (n : Nat) (th ln ct : Nat → Nat) (k lane i n0 w : Int32) : Nat :=
  onR k 4 0 (fun j => onR lane 3 0 (fun _ => onR n0 41 0 (fun _ => @ite _ (whatOK w) (Classical.propDecidable _) (if n = 0 then 0 else barF (th j) (ln j) (ct j) lane i n0) 0)))
theorem allA_s {cf : Nat → Int32} {i N n : Nat} (h : allA cf i N n) (h2 : inR (cf (i + N)) n) : allA cf i (N + 1) n := by
  intro x hx
  by_cases q : x = N
  · rw [q]; exact h2
  · exact h x (by omega)

theorem actN_id {n rn a : Nat} {kd lm f : Nat → Nat} (h : ¬ canN n kd lm f a) : actN n rn kd lm f a = f := by
  unfold actN; rw [if_neg (fun q => h (Or.inl q)), if_neg (fun q => h (Or.inr q))]
theorem actN_id_le {n rn a : Nat} {kd lm f : Nat → Nat} (hf : ∀ i, f i ≤ 9) (h : ¬ canN n kd lm f a) : ∀ i, actN n rn kd lm f a i ≤ 9 := by rw [actN_id h]; exact hf
theorem actN_id_ag {n rn a m : Nat} {kd lm f g : Nat → Nat} (hf : ∀ i, i < m → f i = g i) (h : ¬ canN n kd lm f a) : ∀ i, i < m → actN n rn kd lm f a i = g i := by rw [actN_id h]; exact hf

theorem actsAns_1 {n rn : Nat} {kd lv lm ac : Nat → Nat} {N : Nat} : actsAns n rn kd lv lm ac N 1 = silI (runA (stepO n rn kd lm) ac N 0 lv).1 := by
  unfold actsAns; exact if_pos rfl
theorem actsAns_s {n rn : Nat} {kd lv lm ac : Nat → Nat} {N v k : Nat} (hv : ¬ v = 1) (h : (runA (stepO n rn kd lm) ac N 0 lv).1 = some k) : actsAns n rn kd lv lm ac N v = (-100) - nI k := by
  unfold actsAns; simp only [h]; exact if_neg hv
theorem actsAns_n {n rn : Nat} {kd lv lm ac : Nat → Nat} {N v : Nat} (hv : ¬ v = 1) (h : (runA (stepO n rn kd lm) ac N 0 lv).1 = none) : actsAns n rn kd lv lm ac N v = (if 9 < v then (if v - 10 < n then nI ((runA (stepO n rn kd lm) ac N 0 lv).2 (v - 10)) else -9) else if v = 0 then nI (smN (runA (stepO n rn kd lm) ac N 0 lv).2 n) else if v = 2 then nI (opsN n ac N) else setI (mayN kd (runA (stepO n rn kd lm) ac N 0 lv).2 lm) (n - 1)) := by
  unfold actsAns; simp only [h]; exact if_neg hv
theorem in_1013 {w : Int32} : ((10 : Int64).toInt ≤ w.toInt64.toInt ∧ w.toInt64.toInt ≤ (13 : Int64).toInt) ↔ (10 ≤ w.toInt ∧ w.toInt ≤ 13) := by
  rw [wide]
  have e1 : (10 : Int64).toInt = 10 := by decide
  have e2 : (13 : Int64).toInt = 13 := by decide
  rw [e1, e2]
theorem ac_of {f : Nat → Int32} {a b c n : Nat} (h : inR (f (a + (b + c))) n) (hn : n ≤ 2 ^ 31) : f (a + b + c) = nI (f (a + (b + c))).toNatClampNeg ∧ (f (a + (b + c))).toNatClampNeg < n := by
  obtain ⟨j, hj, e⟩ := inR_ex h hn
  rw [Nat.add_assoc, e, nI_clamp (by omega)]
  exact ⟨rfl, hj⟩
theorem actsJ_y {n rn : Nat} {kd lv lm : Nat → Nat} {cf : Nat → Int32} {ii N v : Nat} (hi : ii < 2 ^ 31) (hv : v < 2 ^ 31) (h : allA cf ii N n) : actsJ n rn kd lv lm cf (nI ii) N (nI v) = actsAns n rn kd lv lm (fun x => (cf (ii + x)).toNatClampNeg) N v := by
  unfold actsJ; rw [nI_clamp hi, nI_clamp hv]; exact if_pos h
theorem actsJ_n {n rn : Nat} {kd lv lm : Nat → Nat} {cf : Nat → Int32} {ii N v : Nat} (hi : ii < 2 ^ 31) (h : ¬ allA cf ii N n) : actsJ n rn kd lv lm cf (nI ii) N (nI v) = -2 := by
  unfold actsJ; rw [nI_clamp hi]; exact if_neg h

set_option maxHeartbeats 4000000 in
set_option maxRecDepth 100000 in
theorem c_X6_goActs (l : Launch) (D : va_G) (cI cZ cO : ClassId) (mq : Nat) (ma : Nat → Nat) (mg : Nat → Nat) (mh : Nat → Int32) (mF : Nat → Nat → Nat) (mE : Nat → Nat → Int32) (sz : Nat) (fr : Nat) (nn : Nat) (ac : Nat → Nat) (lv0 : Nat → Nat) (hfr : fr + nn ≤ 240) (hnn : nn ≤ 40) (hac : ∀ z0, z0 < nn → mE 27 (fr + z0) = nI (ac z0) ∧ ac z0 < mg 2) (hlv0 : mF 4 = lv0) (h2 : 2 ≤ mg 2) (hn : mg 2 ≤ 4) (hk : ∀ z0, mF 3 z0 ≤ 2) (hlv : ∀ z0, mF 4 z0 ≤ 9) (hm : ∀ z0, mF 5 z0 ≤ 9) (hw : ∀ z0, mF 12 z0 ≤ 9) (hrn : mg 1 ≤ 3) : Met l yX6_goActs wsX6_goActs ({ frames := 3, cells := 0, slots := 0, locals := 64 }) (va_Pc [.ref mq, .int (nI fr), .int (nI nn)] (st_W D (ty3 cI cZ cO) (wM cI cZ mq ma mg mh mF mE) sz)) (va_Qv (fun (u : (Nat → Nat) × (Int32) × (Nat)) => (∀ z0, u.1 z0 ≤ 9) ∧ (∀ z0, z0 < mg 2 → u.1 z0 = (runA (stepO (mg 2) (mg 1) (mF 3) (mF 5)) ac nn 0 lv0).2 z0) ∧ u.2.1 = silI (runA (stepO (mg 2) (mg 1) (mF 3) (mF 5)) ac nn 0 lv0).1 ∧ ((runA (stepO (mg 2) (mg 1) (mF 3) (mF 5)) ac nn 0 lv0).1 = none → u.2.2 = opsN (mg 2) ac nn) ∧ (∀ kk, (runA (stepO (mg 2) (mg 1) (mF 3) (mF 5)) ac nn 0 lv0).1 = some kk → kk < nn)) (fun u t => at_W D (ty3 cI cZ cO) (va_A (wM cI cZ mq ma mg mh mF mE) sz) (wM cI cZ mq ma (sF mg 14 u.2.2) (sF mh 13 u.2.1) (sF mF 12 u.1) mE) t) (va_A (wM cI cZ mq ma mg mh mF mE) sz)) 0 0 (va_A (wM cI cZ mq ma mg mh mF mE) sz) := by
  refine Met.gov (cc := cX6_goActs) (maxL := 5) (ret := none) (by decide) rfl (Nat.le_of_ble_eq_true rfl) (fun p e s m below meth c A ls X hW hl => ?_)
  have hi6 : ∀ w ∈ wsX60, w ∈ wsX6_goActs := fun w h => List.mem_cons_of_mem _ (List.mem_append_right _ h)
  have hl : lv_has ls 5 [(0, .ref mq), (1, .int (nI fr)), (2, .int (nI nn))] := hl
  refine x_aload_n X dX6_goActs_0 rfl (lv_at hl 0 rfl) ?_
  refine x_bipush (v := (-9 : Int32)) X dX6_goActs_1 (by decide) ?_
  refine x_put X hW (v := .int (-9 : Int32)) hi6 tyX6 tyX6_ok nmX6 0 rfl rfl 13 (by decide) (List.mem_of_getElem? (i := 1) rfl) rfl rfl rfl rfl (Nat.le_of_ble_eq_true rfl) dX6_goActs_3 (wM cI cZ mq ma mg (sF mh 13 (-9 : Int32)) mF mE) rfl (fun H locs hW => ?_)
  refine x_aload_n X dX6_goActs_6 rfl (lv_at hl 0 rfl) ?_
  refine x_iconst (v := nI 0) X dX6_goActs_7 (by decide) ?_
  refine x_put X hW (v := .int (nI 0)) hi6 tyX6 tyX6_ok nmX6 0 rfl rfl 14 (by decide) (List.mem_of_getElem? (i := 2) rfl) rfl rfl rfl rfl (Nat.le_of_ble_eq_true rfl) dX6_goActs_8 (wM cI cZ mq ma (sF mg 14 0) (sF mh 13 (-9 : Int32)) mF mE) rfl (fun H locs hW => ?_)
  refine x_aload_n X dX6_goActs_11 rfl (lv_at hl 0 rfl) ?_
  refine x_callVv0 X hW (As := []) (rest := []) (c_X6_begin l D cI cZ cO mq ma (sF mg 14 0) (sF mh 13 (-9 : Int32)) mF mE _ (show (mg 2) ≤ 4 from (by first | assumption | omega))) (cwV 0 X.2.2.2.2.2.1 gX6_goActs_X6_begin rfl rfl rfl (by decide +kernel) ⟨Nat.le_of_ble_eq_true rfl, Nat.le_of_ble_eq_true rfl⟩) 0 5 rfl rfl rfl rfl hl.1 rfl (Nat.le_of_ble_eq_true rfl) ⟨Nat.le_of_ble_eq_true rfl, Nat.le_of_ble_eq_true rfl⟩ dX6_goActs_12 (fun u2 H locs w12 hW => ?_)
  have hW : Wd D A s.heap H locs (wM cI cZ mq ma (sF mg 14 0) (sF mh 13 (-9 : Int32)) (sF mF 12 (cpN ((mg 2)) ((mF 4)) ((mF 12)))) mE) := hW
  replace w12 : True := w12
  refine x_iconst (v := nI 0) X dX6_goActs_15 (by decide) ?_
  refine x_istore_n X [(3, .int (nI 0)), (0, .ref mq), (1, .int (nI fr)), (2, .int (nI nn))] dX6_goActs_16 rfl hl (by decide) rfl (fun ls hl => ?_)
  have hw0 : ∀ z0, cpN (mg 2) (mF 4) (mF 12) z0 ≤ 9 := cpN_le hlv hw
  have hag : ∀ z0, z0 < mg 2 → cpN (mg 2) (mF 4) (mF 12) z0 = lv0 z0 := fun _ q => by rw [cpN_in q, hlv0]
  refine W.loop (σ := (Nat) × (Nat → Nat) × (Nat → Nat) × (Int32) × (Nat)) (fun u H locs ls => (u.1 ≤ nn ∧ (∀ z0, u.2.2.1 z0 ≤ 9) ∧ (∀ z0, z0 < mg 2 → u.2.2.1 z0 = u.2.1 z0) ∧ ((u.2.2.2.1 = (-9 : Int32) ∧ u.2.2.2.2 = opsN (mg 2) ac u.1 ∧ (runA (stepO (mg 2) (mg 1) (mF 3) (mF 5)) ac nn 0 lv0) = runA (stepO (mg 2) (mg 1) (mF 3) (mF 5)) ac (nn - u.1) u.1 u.2.1) ∨ (∃ kk, kk < nn ∧ u.2.2.2.1 = nI kk ∧ u.2.2.2.2 ≤ nn ∧ (runA (stepO (mg 2) (mg 1) (mF 3) (mF 5)) ac nn 0 lv0) = (some kk, u.2.1)))) ∧ Wd D A s.heap H locs (wM cI cZ mq ma (sF mg 14 u.2.2.2.2) (sF mh 13 u.2.2.2.1) (sF mF 12 u.2.2.1) mE) ∧ lv_has ls 5 [(3, .int (nI u.1)), (0, .ref mq), (1, .int (nI fr)), (2, .int (nI nn))]) (fun u => nn - u.1) (fun u H locs ls hI ih => ?_) (0, lv0, (cpN ((mg 2)) ((mF 4)) ((mF 12))), (-9 : Int32), 0) ⟨(show 0 ≤ nn ∧ (∀ z0, (cpN ((mg 2)) ((mF 4)) ((mF 12))) z0 ≤ 9) ∧ (∀ z0, z0 < mg 2 → (cpN ((mg 2)) ((mF 4)) ((mF 12))) z0 = lv0 z0) ∧ (((-9 : Int32) = (-9 : Int32) ∧ 0 = opsN (mg 2) ac 0 ∧ (runA (stepO (mg 2) (mg 1) (mF 3) (mF 5)) ac nn 0 lv0) = runA (stepO (mg 2) (mg 1) (mF 3) (mF 5)) ac (nn - 0) 0 lv0) ∨ (∃ kk, kk < nn ∧ (-9 : Int32) = nI kk ∧ 0 ≤ nn ∧ (runA (stepO (mg 2) (mg 1) (mF 3) (mF 5)) ac nn 0 lv0) = (some kk, lv0))) from ⟨by omega, hw0, hag, Or.inl ⟨rfl, rfl, rfl⟩⟩), hW, hl⟩
  obtain ⟨x, lvx, L, si, op⟩ := u
  obtain ⟨hv, hW, hl⟩ := hI
  have hv : x ≤ nn ∧ (∀ z0, L z0 ≤ 9) ∧ (∀ z0, z0 < mg 2 → L z0 = lvx z0) ∧ ((si = (-9 : Int32) ∧ op = opsN (mg 2) ac x ∧ (runA (stepO (mg 2) (mg 1) (mF 3) (mF 5)) ac nn 0 lv0) = runA (stepO (mg 2) (mg 1) (mF 3) (mF 5)) ac (nn - x) x lvx) ∨ (∃ kk, kk < nn ∧ si = nI kk ∧ op ≤ nn ∧ (runA (stepO (mg 2) (mg 1) (mF 3) (mF 5)) ac nn 0 lv0) = (some kk, lvx))) := hv
  have hW : Wd D A s.heap H locs (wM cI cZ mq ma (sF mg 14 op) (sF mh 13 si) (sF mF 12 L) mE) := hW
  have hl : lv_has ls 5 [(3, .int (nI x)), (0, .ref mq), (1, .int (nI fr)), (2, .int (nI nn))] := hl
  have ih17 := ih
  refine x_iload_n X dX6_goActs_17 rfl (lv_at hl 0 rfl) ?_
  refine x_iload_n X dX6_goActs_18 rfl (lv_at hl 3 rfl) ?_
  refine n_icmp_ge X 87 dX6_goActs_19 (by decide) (by omega) (by omega) (fun c19 => ?_) (fun c19 => ?_)
  · have hfin : (∀ z0, L z0 ≤ 9) ∧ (∀ z0, z0 < mg 2 → L z0 = (runA (stepO (mg 2) (mg 1) (mF 3) (mF 5)) ac nn 0 lv0).2 z0) ∧ si = silI (runA (stepO (mg 2) (mg 1) (mF 3) (mF 5)) ac nn 0 lv0).1 ∧ ((runA (stepO (mg 2) (mg 1) (mF 3) (mF 5)) ac nn 0 lv0).1 = none → op = opsN (mg 2) ac nn) ∧ (∀ kk, (runA (stepO (mg 2) (mg 1) (mF 3) (mF 5)) ac nn 0 lv0).1 = some kk → kk < nn) := by
      refine ⟨hv.2.1, ?_⟩
      first
        | (rw [hR]; exact ⟨hv.2.2.1, rfl, fun q => (by cases q), fun _ q => by cases q; exact hkk⟩)
        | (have ex : x = nn := by omega
           subst ex; rw [hR, Nat.sub_self]; exact ⟨hv.2.2.1, rfl, fun _ => hop, fun _ q => by cases q⟩)
        | (have ex : x = nn := by omega
           subst ex; rcases hv.2.2.2 with ⟨hs, hop, hR⟩ | ⟨kk, hkk, hs, hop, hR⟩
           · rw [hR, Nat.sub_self]; exact ⟨hv.2.2.1, hs, fun _ => hop, fun _ q => by cases q⟩
           · rw [hR]; exact ⟨hv.2.2.1, hs, fun q => (by cases q), fun _ q => by cases q; exact hkk⟩)
    exact x_vret X hW rfl (L, si, op) (hfin) rfl dX6_goActs_87
  · refine x_aload_n X dX6_goActs_22 rfl (lv_at hl 1 rfl) ?_
    refine x_get X hW (v := .int si) hi6 0 rfl rfl 13 (by decide) (List.mem_of_getElem? (i := 1) rfl) rfl rfl dX6_goActs_23 ?_
    rcases hv.2.2.2 with ⟨hs, hop, hR⟩ | hex
    · subst hs
      refine x_if_ge X 87 dX6_goActs_26 (by decide) (fun c26 => by first | exact absurd c26 (by decide) | exact absurd (by decide) c26) (fun c26 => ?_)
      refine x_aload_n X dX6_goActs_29 rfl (lv_at hl 1 rfl) ?_
      refine x_get X hW (v := .ref (ma 27)) hi6 0 rfl rfl 27 (by decide) (List.mem_of_getElem? (i := 3) rfl) rfl rfl dX6_goActs_30 ?_
      refine x_iload_n X dX6_goActs_33 rfl (lv_at hl 2 rfl) ?_
      refine x_iload_n X dX6_goActs_34 rfl (lv_at hl 0 rfl) ?_
      refine n_iadd X dX6_goActs_35 ?_
      refine i_iald X hW (f := mE 27) 16 0 rfl rfl (by omega) (by decide) dX6_goActs_36 ?_
      have hacx := (hac x (by omega)).2
      refine i_as0 (b := nI (ac x)) (hac x (by omega)).1 ?_
      refine x_istore X [(4, .int (nI (ac x))), (3, .int (nI x)), (0, .ref mq), (1, .int (nI fr)), (2, .int (nI nn))] dX6_goActs_37 hl (by decide) rfl (fun ls hl => ?_)
      refine x_aload_n X dX6_goActs_39 rfl (lv_at hl 2 rfl) ?_
      refine x_iload X dX6_goActs_40 (lv_at hl 0 rfl) ?_
      refine x_callVi0 X hW (As := [.int (nI (ac x))]) (rest := []) (c_X6_does l D cI cZ cO mq ma (sF mg 14 op) (sF mh 13 (-9 : Int32)) (sF mF 12 L) mE _ (ac x) (show (ac x) < (mg 2) from (hac x (by omega)).2) (show 2 ≤ (mg 2) from (by first | assumption | omega)) (show (mg 2) ≤ 4 from (by first | assumption | omega)) (show ∀ z0, (mF 3) z0 ≤ 2 from (by first | assumption | omega)) (show ∀ z0, (mF 5) z0 ≤ 9 from (by first | assumption | omega)) (show ∀ z0, L z0 ≤ 9 from hv.2.1) (show (mg 1) ≤ 3 from (by first | assumption | omega))) (cwV 1 X.2.2.2.2.2.1 gX6_goActs_X6_does rfl rfl rfl (by decide +kernel) ⟨Nat.le_of_ble_eq_true rfl, Nat.le_of_ble_eq_true rfl⟩) 0 5 rfl rfl rfl rfl hl.1 rfl (Nat.le_of_ble_eq_true rfl) ⟨Nat.le_of_ble_eq_true rfl, Nat.le_of_ble_eq_true rfl⟩ dX6_goActs_42 (fun r3 u4 H locs w42 hW => ?_)
      have hW : Wd D A s.heap H locs (wM cI cZ mq ma (sF mg 14 op) (sF mh 13 (-9 : Int32)) (sF mF 12 (actN ((mg 2)) ((mg 1)) ((mF 3)) ((mF 5)) (L) (ac x))) mE) := hW
      replace w42 : (r3 = nI 1 ∧ (canN ((mg 2)) ((mF 3)) ((mF 5)) (L) (ac x)) ∨ r3 = nI 0 ∧ ¬ (canN ((mg 2)) ((mF 3)) ((mF 5)) (L) (ac x))) := w42
      rcases w42 with ⟨w42, h42⟩ | ⟨w42, h42⟩
      · subst w42
        have hcan := (canN_cong (hac x (by omega)).2 hv.2.2.1).mp h42
        refine n_if_eq X 76 dX6_goActs_45 (by decide) (by decide) (fun c45 => by exact absurd c45 (by decide)) (fun c45 => ?_)
        refine x_aload_n X dX6_goActs_48 rfl (lv_at hl 2 rfl) ?_
        refine x_dup X dX6_goActs_49 rfl ?_
        refine x_get X hW (v := .int (nI op)) hi6 0 rfl rfl 14 (by decide) (List.mem_of_getElem? (i := 2) rfl) rfl rfl dX6_goActs_50 ?_
        refine x_iload X dX6_goActs_53 (lv_at hl 0 rfl) ?_
        refine x_aload_n X dX6_goActs_55 rfl (lv_at hl 2 rfl) ?_
        refine x_get X hW (v := .int (nI (mg 2))) hi6 0 rfl rfl 2 (by decide) (List.mem_of_getElem? (i := 4) rfl) rfl rfl dX6_goActs_56 ?_
        refine x_iconst (v := nI 1) X dX6_goActs_59 (by decide) ?_
        refine n_isub X dX6_goActs_60 (by omega) ?_
        have hopb := opsN_le (mg 2) ac x
        refine n_icmp_ge X 68 dX6_goActs_61 (by decide) (by omega) (by omega) (fun c61 => ?_) (fun c61 => ?_)
        · have c61x : ¬ ac x < mg 2 - 1 := by omega
          refine x_iconst (v := nI 0) X dX6_goActs_68 (by decide) ?_
          refine n_iadd X dX6_goActs_69 ?_
          refine x_put X hW (v := .int (nI (op + 0))) hi6 tyX6 tyX6_ok nmX6 0 rfl rfl 14 (by decide) (List.mem_of_getElem? (i := 2) rfl) rfl rfl rfl rfl (Nat.le_of_ble_eq_true rfl) dX6_goActs_70 (wM cI cZ mq ma (sF mg 14 (op + 0)) (sF mh 13 (-9 : Int32)) (sF mF 12 (actN ((mg 2)) ((mg 1)) ((mF 3)) ((mF 5)) (L) (ac x))) mE) rfl (fun H locs hW => ?_)
          refine x_goto X 81 dX6_goActs_73 (by decide) ?_
          refine x_iinc X [(3, .int (nI (x + 1))), (4, .int (nI (ac x))), (0, .ref mq), (1, .int (nI fr)), (2, .int (nI nn))] (k := 1) dX6_goActs_81 hl rfl (nI_inc1 x) (by decide) rfl (fun ls hl => ?_)
          refine x_goto X 17 dX6_goActs_84 (by decide) ?_
          exact ih17 ((x + 1), (actN (mg 2) (mg 1) (mF 3) (mF 5) lvx (ac x)), (actN ((mg 2)) ((mg 1)) ((mF 3)) ((mF 5)) (L) (ac x)), (-9 : Int32), (op + 0)) _ _ _ ⟨(show (x + 1) ≤ nn ∧ (∀ z0, (actN ((mg 2)) ((mg 1)) ((mF 3)) ((mF 5)) (L) (ac x)) z0 ≤ 9) ∧ (∀ z0, z0 < mg 2 → (actN ((mg 2)) ((mg 1)) ((mF 3)) ((mF 5)) (L) (ac x)) z0 = (actN (mg 2) (mg 1) (mF 3) (mF 5) lvx (ac x)) z0) ∧ (((-9 : Int32) = (-9 : Int32) ∧ (op + 0) = opsN (mg 2) ac (x + 1) ∧ (runA (stepO (mg 2) (mg 1) (mF 3) (mF 5)) ac nn 0 lv0) = runA (stepO (mg 2) (mg 1) (mF 3) (mF 5)) ac (nn - (x + 1)) (x + 1) (actN (mg 2) (mg 1) (mF 3) (mF 5) lvx (ac x))) ∨ (∃ kk, kk < nn ∧ (-9 : Int32) = nI kk ∧ (op + 0) ≤ nn ∧ (runA (stepO (mg 2) (mg 1) (mF 3) (mF 5)) ac nn 0 lv0) = (some kk, (actN (mg 2) (mg 1) (mF 3) (mF 5) lvx (ac x))))) from ⟨by omega, actN_le hv.2.1 hm, actN_cong (by omega) (hac x (by omega)).2 hv.2.2.1, Or.inl ⟨rfl, by first | (rw [opsN_y c61x, hop]) | (rw [opsN_n c61x, hop]), by rw [hR, show nn - x = (nn - (x + 1)) + 1 by omega, runA_y hcan]⟩⟩), hW, lv_sub hl [0, 2, 3, 4] rfl⟩ (by omega)
        · have c61x : ac x < mg 2 - 1 := by omega
          refine x_iconst (v := nI 1) X dX6_goActs_64 (by decide) ?_
          refine x_goto X 69 dX6_goActs_65 (by decide) ?_
          refine n_iadd X dX6_goActs_69 ?_
          refine x_put X hW (v := .int (nI (op + 1))) hi6 tyX6 tyX6_ok nmX6 0 rfl rfl 14 (by decide) (List.mem_of_getElem? (i := 2) rfl) rfl rfl rfl rfl (Nat.le_of_ble_eq_true rfl) dX6_goActs_70 (wM cI cZ mq ma (sF mg 14 (op + 1)) (sF mh 13 (-9 : Int32)) (sF mF 12 (actN ((mg 2)) ((mg 1)) ((mF 3)) ((mF 5)) (L) (ac x))) mE) rfl (fun H locs hW => ?_)
          refine x_goto X 81 dX6_goActs_73 (by decide) ?_
          refine x_iinc X [(3, .int (nI (x + 1))), (4, .int (nI (ac x))), (0, .ref mq), (1, .int (nI fr)), (2, .int (nI nn))] (k := 1) dX6_goActs_81 hl rfl (nI_inc1 x) (by decide) rfl (fun ls hl => ?_)
          refine x_goto X 17 dX6_goActs_84 (by decide) ?_
          exact ih17 ((x + 1), (actN (mg 2) (mg 1) (mF 3) (mF 5) lvx (ac x)), (actN ((mg 2)) ((mg 1)) ((mF 3)) ((mF 5)) (L) (ac x)), (-9 : Int32), (op + 1)) _ _ _ ⟨(show (x + 1) ≤ nn ∧ (∀ z0, (actN ((mg 2)) ((mg 1)) ((mF 3)) ((mF 5)) (L) (ac x)) z0 ≤ 9) ∧ (∀ z0, z0 < mg 2 → (actN ((mg 2)) ((mg 1)) ((mF 3)) ((mF 5)) (L) (ac x)) z0 = (actN (mg 2) (mg 1) (mF 3) (mF 5) lvx (ac x)) z0) ∧ (((-9 : Int32) = (-9 : Int32) ∧ (op + 1) = opsN (mg 2) ac (x + 1) ∧ (runA (stepO (mg 2) (mg 1) (mF 3) (mF 5)) ac nn 0 lv0) = runA (stepO (mg 2) (mg 1) (mF 3) (mF 5)) ac (nn - (x + 1)) (x + 1) (actN (mg 2) (mg 1) (mF 3) (mF 5) lvx (ac x))) ∨ (∃ kk, kk < nn ∧ (-9 : Int32) = nI kk ∧ (op + 1) ≤ nn ∧ (runA (stepO (mg 2) (mg 1) (mF 3) (mF 5)) ac nn 0 lv0) = (some kk, (actN (mg 2) (mg 1) (mF 3) (mF 5) lvx (ac x))))) from ⟨by omega, actN_le hv.2.1 hm, actN_cong (by omega) (hac x (by omega)).2 hv.2.2.1, Or.inl ⟨rfl, by first | (rw [opsN_y c61x, hop]) | (rw [opsN_n c61x, hop]), by rw [hR, show nn - x = (nn - (x + 1)) + 1 by omega, runA_y hcan]⟩⟩), hW, lv_sub hl [0, 2, 3, 4] rfl⟩ (by omega)
      · subst w42
        have hcan := fun q => h42 ((canN_cong (hac x (by omega)).2 hv.2.2.1).mpr q)
        refine n_if_eq X 76 dX6_goActs_45 (by decide) (by decide) (fun c45 => ?_) (fun c45 => by exact absurd c45 (by decide))
        refine x_aload_n X dX6_goActs_76 rfl (lv_at hl 2 rfl) ?_
        refine x_iload_n X dX6_goActs_77 rfl (lv_at hl 1 rfl) ?_
        refine x_put X hW (v := .int (nI x)) hi6 tyX6 tyX6_ok nmX6 0 rfl rfl 13 (by decide) (List.mem_of_getElem? (i := 1) rfl) rfl rfl rfl rfl (Nat.le_of_ble_eq_true rfl) dX6_goActs_78 (wM cI cZ mq ma (sF mg 14 op) (sF mh 13 (nI x)) (sF mF 12 (actN ((mg 2)) ((mg 1)) ((mF 3)) ((mF 5)) (L) (ac x))) mE) rfl (fun H locs hW => ?_)
        refine x_iinc X [(3, .int (nI (x + 1))), (4, .int (nI (ac x))), (0, .ref mq), (1, .int (nI fr)), (2, .int (nI nn))] (k := 1) dX6_goActs_81 hl rfl (nI_inc1 x) (by decide) rfl (fun ls hl => ?_)
        refine x_goto X 17 dX6_goActs_84 (by decide) ?_
        exact ih17 ((x + 1), lvx, (actN ((mg 2)) ((mg 1)) ((mF 3)) ((mF 5)) (L) (ac x)), (nI x), op) _ _ _ ⟨(show (x + 1) ≤ nn ∧ (∀ z0, (actN ((mg 2)) ((mg 1)) ((mF 3)) ((mF 5)) (L) (ac x)) z0 ≤ 9) ∧ (∀ z0, z0 < mg 2 → (actN ((mg 2)) ((mg 1)) ((mF 3)) ((mF 5)) (L) (ac x)) z0 = lvx z0) ∧ (((nI x) = (-9 : Int32) ∧ op = opsN (mg 2) ac (x + 1) ∧ (runA (stepO (mg 2) (mg 1) (mF 3) (mF 5)) ac nn 0 lv0) = runA (stepO (mg 2) (mg 1) (mF 3) (mF 5)) ac (nn - (x + 1)) (x + 1) lvx) ∨ (∃ kk, kk < nn ∧ (nI x) = nI kk ∧ op ≤ nn ∧ (runA (stepO (mg 2) (mg 1) (mF 3) (mF 5)) ac nn 0 lv0) = (some kk, lvx))) from ⟨by omega, actN_id_le hv.2.1 h42, actN_id_ag hv.2.2.1 h42, Or.inr ⟨x, by omega, rfl, by have := opsN_le (mg 2) ac x; omega, by rw [hR, show nn - x = (nn - (x + 1)) + 1 by omega, runA_n hcan]⟩⟩), hW, lv_sub hl [0, 2, 3, 4] rfl⟩ (by omega)
    · obtain ⟨kk, hkk, hs, hop, hR⟩ := hex
      subst hs
      refine n_if_ge X 87 dX6_goActs_26 (by decide) (by omega) ?_
      have hfin : (∀ z0, L z0 ≤ 9) ∧ (∀ z0, z0 < mg 2 → L z0 = (runA (stepO (mg 2) (mg 1) (mF 3) (mF 5)) ac nn 0 lv0).2 z0) ∧ (nI kk) = silI (runA (stepO (mg 2) (mg 1) (mF 3) (mF 5)) ac nn 0 lv0).1 ∧ ((runA (stepO (mg 2) (mg 1) (mF 3) (mF 5)) ac nn 0 lv0).1 = none → op = opsN (mg 2) ac nn) ∧ (∀ kk, (runA (stepO (mg 2) (mg 1) (mF 3) (mF 5)) ac nn 0 lv0).1 = some kk → kk < nn) := by
        refine ⟨hv.2.1, ?_⟩
        first
          | (rw [hR]; exact ⟨hv.2.2.1, rfl, fun q => (by cases q), fun _ q => by cases q; exact hkk⟩)
          | (have ex : x = nn := by omega
             subst ex; rw [hR, Nat.sub_self]; exact ⟨hv.2.2.1, rfl, fun _ => hop, fun _ q => by cases q⟩)
          | (have ex : x = nn := by omega
             subst ex; rcases hv.2.2.2 with ⟨hs, hop, hR⟩ | ⟨kk, hkk, hs, hop, hR⟩
             · rw [hR, Nat.sub_self]; exact ⟨hv.2.2.1, hs, fun _ => hop, fun _ q => by cases q⟩
             · rw [hR]; exact ⟨hv.2.2.1, hs, fun q => (by cases q), fun _ q => by cases q; exact hkk⟩)
      exact x_vret X hW rfl (L, (nI kk), op) (hfin) rfl dX6_goActs_87
set_option maxHeartbeats 4000000 in
set_option maxRecDepth 100000 in
theorem c_X6_levelsNow (l : Launch) (D : va_G) (cI cZ cO : ClassId) (mq : Nat) (ma : Nat → Nat) (mg : Nat → Nat) (mh : Nat → Int32) (mF : Nat → Nat → Nat) (mE : Nat → Nat → Int32) (sz : Nat)   (hn : mg 2 ≤ 4) (hw : ∀ z0, mF 12 z0 ≤ 9) : Met l yX6_levelsNow wsX6_levelsNow ({ frames := 0, cells := 0, slots := 0, locals := 0 }) (va_Pc [.ref mq] (st_W D (ty3 cI cZ cO) (wM cI cZ mq ma mg mh mF mE) sz)) (va_Qi (fun (rr : Int32) (u : Unit) => rr = nI (smN (mF 12) (mg 2))) (fun u t => at_W D (ty3 cI cZ cO) (va_A (wM cI cZ mq ma mg mh mF mE) sz) (wM cI cZ mq ma mg mh mF mE) t) (va_A (wM cI cZ mq ma mg mh mF mE) sz)) 0 0 (va_A (wM cI cZ mq ma mg mh mF mE) sz) := by
  refine Met.goi (cc := cX6_levelsNow) (maxL := 3) (ret := (some .int)) (by decide) rfl (Nat.le_of_ble_eq_true rfl) (fun p e s m below meth c A ls X hW hl => ?_)
  have hi6 : ∀ w ∈ wsX60, w ∈ wsX6_levelsNow := fun w h => List.mem_cons_of_mem _ (List.mem_append_right _ h)
  have hl : lv_has ls 3 [(0, .ref mq)] := hl
  refine x_iconst (v := nI 0) X dX6_levelsNow_0 (by decide) ?_
  refine x_istore_n X [(1, .int (nI 0)), (0, .ref mq)] dX6_levelsNow_1 rfl hl (by decide) rfl (fun ls hl => ?_)
  refine x_iconst (v := nI 0) X dX6_levelsNow_2 (by decide) ?_
  refine x_istore_n X [(2, .int (nI 0)), (1, .int (nI 0)), (0, .ref mq)] dX6_levelsNow_3 rfl hl (by decide) rfl (fun ls hl => ?_)
  refine W.loop (σ := (Nat)) (fun u H locs ls => (u ≤ mg 2) ∧ Wd D A s.heap H locs (wM cI cZ mq ma mg mh mF mE) ∧ lv_has ls 3 [(2, .int (nI u)), (1, .int (nI (smN (mF 12) u))), (0, .ref mq)]) (fun u => mg 2 - u) (fun u H locs ls hI ih => ?_) 0 ⟨(show 0 ≤ mg 2 from (by omega)), hW, hl⟩
  obtain ⟨i, ie⟩ : ∃ z, z = u := ⟨_, rfl⟩
  subst ie
  obtain ⟨hv, hW, hl⟩ := hI
  have hv : i ≤ mg 2 := hv
  have hW : Wd D A s.heap H locs (wM cI cZ mq ma mg mh mF mE) := hW
  have hl : lv_has ls 3 [(2, .int (nI i)), (1, .int (nI (smN (mF 12) i))), (0, .ref mq)] := hl
  have ih4 := ih
  refine x_iload_n X dX6_levelsNow_4 rfl (lv_at hl 0 rfl) ?_
  refine x_aload_n X dX6_levelsNow_5 rfl (lv_at hl 2 rfl) ?_
  refine x_get X hW (v := .int (nI (mg 2))) hi6 0 rfl rfl 2 (by decide) (List.mem_of_getElem? (i := 1) rfl) rfl rfl dX6_levelsNow_6 ?_
  refine n_icmp_ge X 27 dX6_levelsNow_9 (by decide) (by omega) (by omega) (fun c9 => ?_) (fun c9 => ?_)
  · have ei : i = mg 2 := by omega
    refine x_iload_n X dX6_levelsNow_27 rfl (lv_at hl 1 rfl) ?_
    exact x_iret X hW rfl () ((congrArg nI (show smN (mF 12) i = smN (mF 12) (mg 2) from by rw [ei]))) rfl dX6_levelsNow_28
  · refine x_iload_n X dX6_levelsNow_12 rfl (lv_at hl 1 rfl) ?_
    refine x_aload_n X dX6_levelsNow_13 rfl (lv_at hl 2 rfl) ?_
    refine x_get X hW (v := .ref (ma 12)) hi6 0 rfl rfl 12 (by decide) (List.mem_of_getElem? (i := 2) rfl) rfl rfl dX6_levelsNow_14 ?_
    refine x_iload_n X dX6_levelsNow_17 rfl (lv_at hl 0 rfl) ?_
    refine n_iald X hW (f := mF 12) 7 0 rfl rfl (by omega) (by decide) dX6_levelsNow_18 ?_
    refine n_iadd X dX6_levelsNow_19 ?_
    refine x_istore_n X [(1, .int (nI ((smN (mF 12) i) + mF 12 i))), (2, .int (nI i)), (0, .ref mq)] dX6_levelsNow_20 rfl hl (by decide) rfl (fun ls hl => ?_)
    refine x_iinc X [(2, .int (nI (i + 1))), (1, .int (nI ((smN (mF 12) i) + mF 12 i))), (0, .ref mq)] (k := 1) dX6_levelsNow_21 hl rfl (nI_inc1 i) (by decide) rfl (fun ls hl => ?_)
    refine x_goto X 4 dX6_levelsNow_24 (by decide) ?_
    exact ih4 (i + 1) _ _ _ ⟨(show (i + 1) ≤ mg 2 from (by omega)), hW, lv_sub hl [0, 1, 2] rfl⟩ (by omega)
set_option maxHeartbeats 4000000 in
set_option maxRecDepth 100000 in
theorem c_X6_actsBy (l : Launch) (D : va_G) (cI cZ cO : ClassId) (mq : Nat) (ma : Nat → Nat) (mg : Nat → Nat) (mh : Nat → Int32) (mF : Nat → Nat → Nat) (mE : Nat → Nat → Int32) (sz : Nat) (v : Nat) (ac : Nat → Nat) (lv0 : Nat → Nat) (nn : Nat) (hv13 : v ≤ 13) (hv3 : v ≤ 3 ∨ 10 ≤ v) (hnn : nn ≤ 40) (hR1 : mh 13 = silI (runA (stepO (mg 2) (mg 1) (mF 3) (mF 5)) ac nn 0 lv0).1) (hR2 : ∀ z0, z0 < mg 2 → mF 12 z0 = (runA (stepO (mg 2) (mg 1) (mF 3) (mF 5)) ac nn 0 lv0).2 z0) (hR3 : (runA (stepO (mg 2) (mg 1) (mF 3) (mF 5)) ac nn 0 lv0).1 = none → mg 14 = opsN (mg 2) ac nn) (hR4 : ∀ z1, (runA (stepO (mg 2) (mg 1) (mF 3) (mF 5)) ac nn 0 lv0).1 = some z1 → z1 < nn) (h2 : 2 ≤ mg 2) (hn : mg 2 ≤ 4) (hk : ∀ z0, mF 3 z0 ≤ 2) (hm : ∀ z0, mF 5 z0 ≤ 9) (hw : ∀ z0, mF 12 z0 ≤ 9) : Met l yX6_actsBy wsX6_actsBy ({ frames := 3, cells := 0, slots := 0, locals := 65 }) (va_Pc [.ref mq, .int (nI v)] (st_W D (ty3 cI cZ cO) (wM cI cZ mq ma mg mh mF mE) sz)) (va_Qi (fun (rr : Int32) (u : Unit) => rr = actsAns (mg 2) (mg 1) (mF 3) lv0 (mF 5) ac nn v) (fun u t => at_W D (ty3 cI cZ cO) (va_A (wM cI cZ mq ma mg mh mF mE) sz) (wM cI cZ mq ma mg mh mF mE) t) (va_A (wM cI cZ mq ma mg mh mF mE) sz)) 0 0 (va_A (wM cI cZ mq ma mg mh mF mE) sz) := by
  refine Met.goi (cc := cX6_actsBy) (maxL := 2) (ret := (some .int)) (by decide) rfl (Nat.le_of_ble_eq_true rfl) (fun p e s m below meth c A ls X hW hl => ?_)
  have hi6 : ∀ w ∈ wsX60, w ∈ wsX6_actsBy := fun w h => List.mem_cons_of_mem _ (List.mem_append_right _ h)
  have hl : lv_has ls 2 [(0, .ref mq), (1, .int (nI v))] := hl
  refine x_iload_n X dX6_actsBy_0 rfl (lv_at hl 1 rfl) ?_
  refine x_iconst (v := nI 1) X dX6_actsBy_1 (by decide) ?_
  refine n_icmp_ne X 10 dX6_actsBy_2 (by decide) (by omega) (by decide) (fun c2 => ?_) (fun c2 => ?_)
  · rcases hRo : (runA (stepO (mg 2) (mg 1) (mF 3) (mF 5)) ac nn 0 lv0).1 with _ | kk
    · refine x_aload_n X dX6_actsBy_10 rfl (lv_at hl 0 rfl) ?_
      refine x_get X hW (v := .int (mh 13)) hi6 0 rfl rfl 13 (by decide) (List.mem_of_getElem? (i := 1) rfl) rfl rfl dX6_actsBy_11 ?_
      refine i_as0 (b := (-9 : Int32)) (by rw [hR1, hRo]; rfl) ?_
      refine x_if_lt X 25 dX6_actsBy_14 (by decide) (fun c14 => ?_) (fun c14 => by first | exact absurd c14 (by decide) | exact absurd (by decide) c14)
      refine x_iload_n X dX6_actsBy_25 rfl (lv_at hl 1 rfl) ?_
      refine x_bipush (v := nI 9) X dX6_actsBy_26 (by decide) ?_
      refine n_icmp_le X 57 dX6_actsBy_28 (by decide) (by omega) (by decide) (fun c28 => ?_) (fun c28 => ?_)
      · refine x_iload_n X dX6_actsBy_57 rfl (lv_at hl 1 rfl) ?_
        refine n_if_ne X 68 dX6_actsBy_58 (by decide) (by omega) (fun c58 => ?_) (fun c58 => ?_)
        · refine x_iload_n X dX6_actsBy_68 rfl (lv_at hl 1 rfl) ?_
          refine x_iconst (v := nI 2) X dX6_actsBy_69 (by decide) ?_
          refine n_icmp_ne X 80 dX6_actsBy_70 (by decide) (by omega) (by decide) (fun c70 => ?_) (fun c70 => ?_)
          · refine x_aload_n X dX6_actsBy_80 rfl (lv_at hl 0 rfl) ?_
            refine x_callVi0 X hW (As := []) (rest := []) (c_X6_gatesNow l D cI cZ cO mq ma mg mh mF mE _ (show 1 ≤ (mg 2) from (by first | assumption | omega)) (show (mg 2) ≤ 4 from (by first | assumption | omega)) (show ∀ z0, (mF 3) z0 ≤ 2 from (by first | assumption | omega)) (show ∀ z0, (mF 5) z0 ≤ 9 from (by first | assumption | omega)) (show ∀ z0, (mF 12) z0 ≤ 9 from (by first | assumption | omega))) (cwV 0 X.2.2.2.2.2.1 gX6_actsBy_X6_gatesNow rfl rfl rfl (by decide +kernel) ⟨Nat.le_of_ble_eq_true rfl, Nat.le_of_ble_eq_true rfl⟩) 0 5 rfl rfl rfl rfl hl.1 rfl (Nat.le_of_ble_eq_true rfl) ⟨Nat.le_of_ble_eq_true rfl, Nat.le_of_ble_eq_true rfl⟩ dX6_actsBy_81 (fun r1 u2 H locs w81 hW => ?_)
            have hW : Wd D A s.heap H locs (wM cI cZ mq ma mg mh mF mE) := hW
            replace w81 : r1 = setI (mayN ((mF 3)) ((mF 12)) ((mF 5))) ((mg 2) - 1) := w81
            subst w81
            exact x_iret X hW rfl () ((by (try rw [actsAns_n (by omega) hRo]); (try rw [if_neg (by omega)]); (try rw [if_neg (by omega)]); (try rw [if_neg (by omega)]); (try rw [setI_cong (fun j hj => mayN_cong hR2 (by omega))]); (try rfl))) rfl dX6_actsBy_84
          · refine x_aload_n X dX6_actsBy_73 rfl (lv_at hl 0 rfl) ?_
            refine x_get X hW (v := .int (nI (mg 14))) hi6 0 rfl rfl 14 (by decide) (List.mem_of_getElem? (i := 3) rfl) rfl rfl dX6_actsBy_74 ?_
            refine x_goto X 84 dX6_actsBy_77 (by decide) ?_
            exact x_iret X hW rfl () ((by (try rw [actsAns_n (by omega) hRo]); (try rw [if_neg (by omega)]); (try rw [if_neg (by omega)]); (try rw [if_pos (by omega)]); (try rw [hR3 hRo]); (try rfl))) rfl dX6_actsBy_84
        · refine x_aload_n X dX6_actsBy_61 rfl (lv_at hl 0 rfl) ?_
          refine x_callVi0 X hW (As := []) (rest := []) (c_X6_levelsNow l D cI cZ cO mq ma mg mh mF mE _ (show (mg 2) ≤ 4 from (by first | assumption | omega)) (show ∀ z0, (mF 12) z0 ≤ 9 from (by first | assumption | omega))) (cwV 0 X.2.2.2.2.2.1 gX6_actsBy_X6_levelsNow rfl rfl rfl (by decide +kernel) ⟨Nat.le_of_ble_eq_true rfl, Nat.le_of_ble_eq_true rfl⟩) 0 5 rfl rfl rfl rfl hl.1 rfl (Nat.le_of_ble_eq_true rfl) ⟨Nat.le_of_ble_eq_true rfl, Nat.le_of_ble_eq_true rfl⟩ dX6_actsBy_62 (fun r3 u4 H locs w62 hW => ?_)
          have hW : Wd D A s.heap H locs (wM cI cZ mq ma mg mh mF mE) := hW
          replace w62 : r3 = nI (smN ((mF 12)) ((mg 2))) := w62
          subst w62
          refine x_goto X 84 dX6_actsBy_65 (by decide) ?_
          exact x_iret X hW rfl () ((by (try rw [actsAns_n (by omega) hRo]); (try rw [if_neg (by omega)]); (try rw [if_pos (by omega)]); (try rw [smN_cong hR2]); (try rfl))) rfl dX6_actsBy_84
      · refine x_aload_n X dX6_actsBy_31 rfl (lv_at hl 0 rfl) ?_
        refine x_iload_n X dX6_actsBy_32 rfl (lv_at hl 1 rfl) ?_
        refine x_bipush (v := nI 10) X dX6_actsBy_33 (by decide) ?_
        refine n_isub X dX6_actsBy_35 (by omega) ?_
        refine x_callVi0 X hW (As := [.int (nI (v - 10))]) (rest := []) (c_X6_noReach l D cI cZ cO mq ma mg mh mF mE _ (nI (v - 10)) (show (mg 2) ≤ 4 from (by first | assumption | omega))) (cwV 1 X.2.2.2.2.2.1 gX6_actsBy_X6_noReach rfl rfl rfl (by decide +kernel) ⟨Nat.le_of_ble_eq_true rfl, Nat.le_of_ble_eq_true rfl⟩) 0 5 rfl rfl rfl rfl hl.1 rfl (Nat.le_of_ble_eq_true rfl) ⟨Nat.le_of_ble_eq_true rfl, Nat.le_of_ble_eq_true rfl⟩ dX6_actsBy_36 (fun r5 u6 H locs w36 hW => ?_)
        have hW : Wd D A s.heap H locs (wM cI cZ mq ma mg mh mF mE) := hW
        replace w36 : (r5 = nI 1 ∧ (¬ inR (nI (v - 10)) ((mg 2))) ∨ r5 = nI 0 ∧ ¬ (¬ inR (nI (v - 10)) ((mg 2)))) := w36
        rcases w36 with ⟨w36, h36⟩ | ⟨w36, h36⟩
        · subst w36
          have g36 : ¬ v - 10 < mg 2 := fun q => h36 ((inR_nI (by omega)).mpr q)
          refine n_if_eq X 47 dX6_actsBy_39 (by decide) (by decide) (fun c39 => by exact absurd c39 (by decide)) (fun c39 => ?_)
          refine x_bipush (v := (-9 : Int32)) X dX6_actsBy_42 (by decide) ?_
          refine x_goto X 56 dX6_actsBy_44 (by decide) ?_
          exact x_iret X hW rfl () ((by (try rw [actsAns_n (by omega) hRo]); (try rw [if_pos (by omega)]); (try rw [if_neg g36]); (try rfl))) rfl dX6_actsBy_56
        · subst w36
          have g36 : v - 10 < mg 2 := (inR_nI (by omega)).mp (Classical.not_not.mp h36)
          refine n_if_eq X 47 dX6_actsBy_39 (by decide) (by decide) (fun c39 => ?_) (fun c39 => by exact absurd c39 (by decide))
          refine x_aload_n X dX6_actsBy_47 rfl (lv_at hl 0 rfl) ?_
          refine x_get X hW (v := .ref (ma 12)) hi6 0 rfl rfl 12 (by decide) (List.mem_of_getElem? (i := 2) rfl) rfl rfl dX6_actsBy_48 ?_
          refine x_iload_n X dX6_actsBy_51 rfl (lv_at hl 1 rfl) ?_
          refine x_bipush (v := nI 10) X dX6_actsBy_52 (by decide) ?_
          refine n_isub X dX6_actsBy_54 (by omega) ?_
          refine n_iald X hW (f := mF 12) 7 0 rfl rfl (by omega) (by decide) dX6_actsBy_55 ?_
          exact x_iret X hW rfl () ((by (try rw [actsAns_n (by omega) hRo]); (try rw [if_pos (by omega)]); (try rw [if_pos g36]); (try rw [hR2 _ g36]); (try rfl))) rfl dX6_actsBy_56
    · have hkk := hR4 kk hRo
      refine x_aload_n X dX6_actsBy_10 rfl (lv_at hl 0 rfl) ?_
      refine x_get X hW (v := .int (mh 13)) hi6 0 rfl rfl 13 (by decide) (List.mem_of_getElem? (i := 1) rfl) rfl rfl dX6_actsBy_11 ?_
      refine i_as0 (b := nI kk) (by rw [hR1, hRo]; rfl) ?_
      refine n_if_lt X 25 dX6_actsBy_14 (by decide) (by omega) ?_
      refine x_bipush (v := (-100 : Int32)) X dX6_actsBy_17 (by decide) ?_
      refine x_aload_n X dX6_actsBy_19 rfl (lv_at hl 0 rfl) ?_
      refine x_get X hW (v := .int (mh 13)) hi6 0 rfl rfl 13 (by decide) (List.mem_of_getElem? (i := 1) rfl) rfl rfl dX6_actsBy_20 ?_
      refine i_as0 (b := nI kk) (by rw [hR1, hRo]; rfl) ?_
      refine x_isub (v := (-100 : Int32) - (nI kk)) X dX6_actsBy_23 rfl ?_
      exact x_iret X hW rfl () ((by (try rw [actsAns_s (by omega) hRo]); (try rfl))) rfl dX6_actsBy_24
  · refine x_aload_n X dX6_actsBy_5 rfl (lv_at hl 0 rfl) ?_
    refine x_get X hW (v := .int (mh 13)) hi6 0 rfl rfl 13 (by decide) (List.mem_of_getElem? (i := 1) rfl) rfl rfl dX6_actsBy_6 ?_
    exact x_iret X hW rfl () ((by (try rw [show v = 1 by omega]); (try rw [actsAns_1]); (try rw [hR1]); (try rfl))) rfl dX6_actsBy_9
set_option maxHeartbeats 4000000 in
set_option maxRecDepth 100000 in
theorem c_X6_acts (l : Launch) (D : va_G) (cI cZ cO : ClassId) (mq : Nat) (ma : Nat → Nat) (mg : Nat → Nat) (mh : Nat → Int32) (mF : Nat → Nat → Nat) (mE : Nat → Nat → Int32) (sz : Nat) (k0 : Int32) (lane : Int32) (i0 : Int32) (n0 : Int32) (w : Int32) (th : Nat → Nat) (ct : Nat → Nat) (hS : ∀ z, z < 4 → (th z = 0 ∧ mE 25 z = (-1 : Int32)) ∨ (th z = 1 ∧ mE 25 z = nI (ct z))) (hct : ∀ z0, ct z0 ≤ 60) (h02 : mg 2 = 0 ∨ 2 ≤ mg 2) (hn : mg 2 ≤ 4) (hk : ∀ z0, mF 3 z0 ≤ 2) (hlv : ∀ z0, mF 4 z0 ≤ 9) (hm : ∀ z0, mF 5 z0 ≤ 9) (hw : ∀ z0, mF 12 z0 ≤ 9) (hrn : mg 1 ≤ 3) : Met l yX6_acts wsX6_acts ({ frames := 4, cells := 0, slots := 0, locals := 88 }) (va_Pc [.ref mq, .int k0, .int lane, .int i0, .int n0, .int w] (st_W D (ty3 cI cZ cO) (wM cI cZ mq ma mg mh mF mE) sz)) (va_Qi (fun (rr : Int32) (u : (Nat → Nat) × (Int32) × (Nat)) => (rr = aActs (mg 2) (mg 1) (mF 3) (mF 4) (mF 5) th (mF 26) ct (fun j y => mE 27 (60 * j + y)) k0 lane i0 n0 w) ∧ (∀ z0, u.1 z0 ≤ 9)) (fun u t => at_W D (ty3 cI cZ cO) (va_A (wM cI cZ mq ma mg mh mF mE) sz) (wM cI cZ mq ma (sF (sF mg 0 (fActs (mg 2) th (mF 26) ct k0 lane i0 n0 w)) 14 u.2.2) (sF mh 13 u.2.1) (sF mF 12 u.1) mE) t) (va_A (wM cI cZ mq ma mg mh mF mE) sz)) 0 0 (va_A (wM cI cZ mq ma mg mh mF mE) sz) := by
  refine Met.goi (cc := cX6_acts) (maxL := 9) (ret := (some .int)) (by decide) rfl (Nat.le_of_ble_eq_true rfl) (fun p e s m below meth c A ls X hW hl => ?_)
  have hi6 : ∀ w ∈ wsX60, w ∈ wsX6_acts := fun w h => List.mem_cons_of_mem _ (List.mem_append_right _ h)
  have hl : lv_has ls 9 [(0, .ref mq), (1, .int k0), (2, .int lane), (3, .int i0), (4, .int n0), (5, .int w)] := hl
  refine x_iload_n X dX6_acts_0 rfl (lv_at hl 1 rfl) ?_
  refine x_callSie X hW (As := [.int k0]) (rest := []) (c_X6_noSheet l D cI cZ cO  _ k0) (va_cwS 1 X.2.2.2.2.2.1 gX6_acts_X6_noSheet rfl rfl rfl (by decide +kernel) ⟨Nat.le_of_ble_eq_true rfl, Nat.le_of_ble_eq_true rfl⟩) rfl hl.1 rfl (Nat.le_of_ble_eq_true rfl) ⟨Nat.le_of_ble_eq_true rfl, Nat.le_of_ble_eq_true rfl⟩ dX6_acts_1 (fun r1 u2 H locs w1 hW => ?_)
  have hW : Wd D A s.heap H locs (wM cI cZ mq ma mg mh mF mE) := hW
  replace w1 : (r1 = nI 1 ∧ (¬ inR k0 4) ∨ r1 = nI 0 ∧ ¬ (¬ inR k0 4)) := w1
  rcases w1 with ⟨w1, h1⟩ | ⟨w1, h1⟩
  · subst w1
    have gk0 := h1
    refine n_if_eq X 13 dX6_acts_4 (by decide) (by decide) (fun c4 => by exact absurd c4 (by decide)) (fun c4 => ?_)
    refine x_aload_n X dX6_acts_7 rfl (lv_at hl 0 rfl) ?_
    refine x_iconst (v := (-1 : Int32)) X dX6_acts_8 (by decide) ?_
    refine x_callVi0 X hW (As := [.int (-1 : Int32)]) (rest := []) (c_X6_refused l D cI cZ cO mq ma mg mh mF mE _ (-1 : Int32)) (cwV 1 X.2.2.2.2.2.1 gX6_acts_X6_refused rfl rfl rfl (by decide +kernel) ⟨Nat.le_of_ble_eq_true rfl, Nat.le_of_ble_eq_true rfl⟩) 0 5 rfl rfl rfl rfl hl.1 rfl (Nat.le_of_ble_eq_true rfl) ⟨Nat.le_of_ble_eq_true rfl, Nat.le_of_ble_eq_true rfl⟩ dX6_acts_9 (fun r3 u4 H locs w9 hW => ?_)
    have hW : Wd D A s.heap H locs (wM cI cZ mq ma (sF mg 0 0) mh mF mE) := hW
    replace w9 : r3 = (-1 : Int32) := w9
    subst w9
    exact x_iret X hW rfl (mF 12, mh 13, mg 14) (⟨by unfold aActs; (try rw [onR_out gk0]); (try rfl), hw⟩) (congrArg (fun z => (wM cI cZ mq ma (sF mg 0 z) mh mF mE)) (show 0 = (fActs (mg 2) th (mF 26) ct k0 lane i0 n0 w) from by unfold fActs; (try rw [onR_out gk0]); (try rfl))) dX6_acts_12
  · subst w1
    obtain ⟨k, hk, rfl⟩ := inR_ex (Classical.not_not.mp h1) (by omega)
    refine n_if_eq X 13 dX6_acts_4 (by decide) (by decide) (fun c4 => ?_) (fun c4 => by exact absurd c4 (by decide))
    refine W.cut (σ := (Nat)) (fun u H locs ls => ((u = 1 ∧ whatOK w) ∨ (u = 0 ∧ ¬ whatOK w)) ∧ Wd D A s.heap H locs (wM cI cZ mq ma mg mh mF mE) ∧ lv_has ls 9 [(0, .ref mq), (1, .int (nI k)), (2, .int lane), (3, .int i0), (4, .int n0), (5, .int w)]) (fun u => [.int (nI u)]) 46 (fun u H locs ls hI => ?_) (fun kj46 => ?_)
    · obtain ⟨b, be⟩ : ∃ z, z = u := ⟨_, rfl⟩
      subst be
      obtain ⟨hj, hW, hl⟩ := hI
      have hj : (b = 1 ∧ whatOK w) ∨ (b = 0 ∧ ¬ whatOK w) := hj
      have hW : Wd D A s.heap H locs (wM cI cZ mq ma mg mh mF mE) := hW
      have hl : lv_has ls 9 [(0, .ref mq), (1, .int (nI k)), (2, .int lane), (3, .int i0), (4, .int n0), (5, .int w)] := hl
      refine x_istore X [(6, .int (nI b)), (0, .ref mq), (1, .int (nI k)), (2, .int lane), (3, .int i0), (4, .int n0), (5, .int w)] dX6_acts_46 hl (by decide) rfl (fun ls hl => ?_)
      refine x_iload_n X dX6_acts_48 rfl (lv_at hl 3 rfl) ?_
      refine x_i2l (v := lane.toInt64) X dX6_acts_49 rfl ?_
      refine x_lconst (v := 0) X dX6_acts_50 (by decide) ?_
      refine x_ldc2 (v := (2)) X (List.mem_of_getElem? (i := 4) rfl) dX6_acts_51 ?_
      refine x_callSie X hW (As := [.long lane.toInt64, .long (0 : Int64), .long (2 : Int64)]) (rest := []) (c_X6_in l D cI cZ cO  _ lane.toInt64 (0 : Int64) (2 : Int64)) (va_cwS 3 X.2.2.2.2.2.1 gX6_acts_X6_in rfl rfl rfl (by decide +kernel) ⟨Nat.le_of_ble_eq_true rfl, Nat.le_of_ble_eq_true rfl⟩) rfl hl.1 rfl (Nat.le_of_ble_eq_true rfl) ⟨Nat.le_of_ble_eq_true rfl, Nat.le_of_ble_eq_true rfl⟩ dX6_acts_54 (fun r5 u6 H locs w54 hW => ?_)
      have hW : Wd D A s.heap H locs (wM cI cZ mq ma mg mh mF mE) := hW
      replace w54 : (r5 = nI 1 ∧ ((0 : Int64).toInt ≤ lane.toInt64.toInt ∧ lane.toInt64.toInt ≤ (2 : Int64).toInt) ∨ r5 = nI 0 ∧ ¬ ((0 : Int64).toInt ≤ lane.toInt64.toInt ∧ lane.toInt64.toInt ≤ (2 : Int64).toInt)) := w54
      rcases w54 with ⟨w54, h54⟩ | ⟨w54, h54⟩
      · subst w54
        obtain ⟨ln, hln, rfl⟩ := inR_ex ((in_iff (r := lane) (n := 3) l_0 (by decide)).mp h54) (by omega)
        refine n_if_eq X 78 dX6_acts_57 (by decide) (by decide) (fun c57 => by exact absurd c57 (by decide)) (fun c57 => ?_)
        refine x_iload X dX6_acts_60 (lv_at hl 5 rfl) ?_
        refine x_i2l (v := n0.toInt64) X dX6_acts_62 rfl ?_
        refine x_lconst (v := 0) X dX6_acts_63 (by decide) ?_
        refine x_ldc2 (v := (40)) X (List.mem_of_getElem? (i := 5) rfl) dX6_acts_64 ?_
        refine x_callSie X hW (As := [.long n0.toInt64, .long (0 : Int64), .long (40 : Int64)]) (rest := []) (c_X6_in l D cI cZ cO  _ n0.toInt64 (0 : Int64) (40 : Int64)) (va_cwS 3 X.2.2.2.2.2.1 gX6_acts_X6_in rfl rfl rfl (by decide +kernel) ⟨Nat.le_of_ble_eq_true rfl, Nat.le_of_ble_eq_true rfl⟩) rfl hl.1 rfl (Nat.le_of_ble_eq_true rfl) ⟨Nat.le_of_ble_eq_true rfl, Nat.le_of_ble_eq_true rfl⟩ dX6_acts_67 (fun r7 u8 H locs w67 hW => ?_)
        have hW : Wd D A s.heap H locs (wM cI cZ mq ma mg mh mF mE) := hW
        replace w67 : (r7 = nI 1 ∧ ((0 : Int64).toInt ≤ n0.toInt64.toInt ∧ n0.toInt64.toInt ≤ (40 : Int64).toInt) ∨ r7 = nI 0 ∧ ¬ ((0 : Int64).toInt ≤ n0.toInt64.toInt ∧ n0.toInt64.toInt ≤ (40 : Int64).toInt)) := w67
        rcases w67 with ⟨w67, h67⟩ | ⟨w67, h67⟩
        · subst w67
          obtain ⟨nn, hnn, rfl⟩ := inR_ex ((in_iff (r := n0) (n := 41) l_0 (by decide)).mp h67) (by omega)
          refine n_if_eq X 78 dX6_acts_70 (by decide) (by decide) (fun c70 => by exact absurd c70 (by decide)) (fun c70 => ?_)
          refine x_iload X dX6_acts_73 (lv_at hl 0 rfl) ?_
          rcases hj with ⟨rfl, hok⟩ | ⟨rfl, hok⟩
          · obtain ⟨v, hv13, hv3, rfl⟩ := what_ex hok
            refine n_if_ne X 85 dX6_acts_75 (by decide) (by decide) (fun c75 => ?_) (fun c75 => by exact absurd c75 (by decide))
            refine x_aload_n X dX6_acts_85 rfl (lv_at hl 1 rfl) ?_
            refine x_get X hW (v := .int (nI (mg 2))) hi6 0 rfl rfl 2 (by decide) (List.mem_of_getElem? (i := 6) rfl) rfl rfl dX6_acts_86 ?_
            refine n_if_ne X 99 dX6_acts_89 (by decide) (by omega) (fun c89 => ?_) (fun c89 => ?_)
            · refine x_aload_n X dX6_acts_99 rfl (lv_at hl 1 rfl) ?_
              refine x_iload_n X dX6_acts_100 rfl (lv_at hl 2 rfl) ?_
              refine x_iload_n X dX6_acts_101 rfl (lv_at hl 3 rfl) ?_
              refine x_iload_n X dX6_acts_102 rfl (lv_at hl 4 rfl) ?_
              refine x_iload X dX6_acts_103 (lv_at hl 5 rfl) ?_
              refine x_i2l (v := (nI nn).toInt64) X dX6_acts_105 rfl ?_
              refine x_callVi0 X hW (As := [.int (nI k), .int (nI ln), .int i0, .long ((nI nn).toInt64)]) (rest := []) (c_X6_cellsBarred l D cI cZ cO mq ma mg mh mF mE _ k (nI ln) i0 (nI nn) th ct (show k < 4 from (by first | assumption | omega)) (show (th k = 0 ∧ (mE 25) k = (-1 : Int32)) ∨ (th k = 1 ∧ (mE 25) k = nI (ct k)) from (hS k hk)) (show ct k ≤ 60 from (hct k))) (cwV 4 X.2.2.2.2.2.1 gX6_acts_X6_cellsBarred rfl rfl rfl (by decide +kernel) ⟨Nat.le_of_ble_eq_true rfl, Nat.le_of_ble_eq_true rfl⟩) 0 5 rfl rfl rfl rfl hl.1 rfl (Nat.le_of_ble_eq_true rfl) ⟨Nat.le_of_ble_eq_true rfl, Nat.le_of_ble_eq_true rfl⟩ dX6_acts_106 (fun r9 u10 H locs w106 hW => ?_)
              have hW : Wd D A s.heap H locs (wM cI cZ mq ma (sF mg 0 (if barF (th k) ((mF 26) k) (ct k) (nI ln) i0 (nI nn) = 0 then (mg 0) else barF (th k) ((mF 26) k) (ct k) (nI ln) i0 (nI nn))) mh mF mE) := hW
              replace w106 : (r9 = nI 0 ∧ (barF (th k) ((mF 26) k) (ct k) (nI ln) i0 (nI nn) = 0) ∨ r9 = (-10 : Int32) - nI (barF (th k) ((mF 26) k) (ct k) (nI ln) i0 (nI nn)) ∧ (barF (th k) ((mF 26) k) (ct k) (nI ln) i0 (nI nn) ≠ 0)) := w106
              rcases w106 with ⟨w106, h106⟩ | ⟨w106, h106⟩
              · subst w106
                obtain ⟨hb1, hb2, hb3, hb4, hb5⟩ := barF_0 h106
                have hctk := hct k
                rw [nI_toInt (by omega)] at hb5
                obtain ⟨ii, hii, rfl⟩ := inR_ex (x := i0) (n := ct k + 1) ⟨hb4, by omega⟩ (by omega)
                rw [nI_toInt (by omega)] at hb5
                refine x_istore X [(7, .int (nI 0)), (6, .int (nI 1)), (0, .ref mq), (1, .int (nI k)), (2, .int (nI ln)), (3, .int (nI ii)), (4, .int (nI nn)), (5, .int (nI v))] dX6_acts_109 hl (by decide) rfl (fun ls hl => ?_)
                refine x_iload X dX6_acts_111 (lv_at hl 0 rfl) ?_
                refine n_if_ge X 119 dX6_acts_113 (by decide) (by decide) ?_
                refine x_iconst (v := nI 0) X dX6_acts_119 (by decide) ?_
                refine x_istore X [(8, .int (nI 0)), (7, .int (nI 0)), (6, .int (nI 1)), (0, .ref mq), (1, .int (nI k)), (2, .int (nI ln)), (3, .int (nI ii)), (4, .int (nI nn)), (5, .int (nI v))] dX6_acts_120 hl (by decide) rfl (fun ls hl => ?_)
                refine W.loop (σ := (Nat)) (fun u H locs ls => (u ≤ nn ∧ allA (fun y => mE 27 (60 * k + y)) ii u (mg 2)) ∧ Wd D A s.heap H locs (wM cI cZ mq ma (sF mg 0 (if barF (th k) ((mF 26) k) (ct k) (nI ln) (nI ii) (nI nn) = 0 then (mg 0) else barF (th k) ((mF 26) k) (ct k) (nI ln) (nI ii) (nI nn))) mh mF mE) ∧ lv_has ls 9 [(8, .int (nI u)), (0, .ref mq), (1, .int (nI k)), (2, .int (nI ln)), (3, .int (nI ii)), (4, .int (nI nn)), (5, .int (nI v))]) (fun u => nn - u) (fun u H locs ls hI ih => ?_) 0 ⟨(show 0 ≤ nn ∧ allA (fun y => mE 27 (60 * k + y)) ii 0 (mg 2) from (by first | exact ⟨Nat.zero_le _, fun _ h => absurd h (Nat.not_lt_zero _)⟩ | exact ⟨by omega, allA_s hv.2 gx⟩)), hW, (lv_sub hl [0, 3, 4, 5, 6, 7, 8] rfl)⟩
                obtain ⟨x, xe⟩ : ∃ z, z = u := ⟨_, rfl⟩
                subst xe
                obtain ⟨hv, hW, hl⟩ := hI
                have hv : x ≤ nn ∧ allA (fun y => mE 27 (60 * k + y)) ii x (mg 2) := hv
                have hW : Wd D A s.heap H locs (wM cI cZ mq ma (sF mg 0 (if barF (th k) ((mF 26) k) (ct k) (nI ln) (nI ii) (nI nn) = 0 then (mg 0) else barF (th k) ((mF 26) k) (ct k) (nI ln) (nI ii) (nI nn))) mh mF mE) := hW
                have hl : lv_has ls 9 [(8, .int (nI x)), (0, .ref mq), (1, .int (nI k)), (2, .int (nI ln)), (3, .int (nI ii)), (4, .int (nI nn)), (5, .int (nI v))] := hl
                have ih122 := ih
                refine x_iload X dX6_acts_122 (lv_at hl 0 rfl) ?_
                refine x_iload X dX6_acts_124 (lv_at hl 5 rfl) ?_
                refine n_icmp_ge X 171 dX6_acts_126 (by decide) (by omega) (by omega) (fun c126 => ?_) (fun c126 => ?_)
                · refine x_aload_n X dX6_acts_171 rfl (lv_at hl 1 rfl) ?_
                  refine x_bipush (v := nI 60) X dX6_acts_172 (by decide) ?_
                  refine x_iload_n X dX6_acts_174 rfl (lv_at hl 2 rfl) ?_
                  refine n_imul X dX6_acts_175 ?_
                  refine x_iload_n X dX6_acts_176 rfl (lv_at hl 4 rfl) ?_
                  refine n_iadd X dX6_acts_177 ?_
                  refine x_iload X dX6_acts_178 (lv_at hl 5 rfl) ?_
                  have ex : x = nn := by omega
                  have hall : allA (fun y => mE 27 (60 * k + y)) ii nn (mg 2) := by rw [← ex]; exact hv.2
                  refine x_callVv0 X hW (As := [.int (nI ((60 * k) + ii)), .int (nI nn)]) (rest := []) (c_X6_goActs l D cI cZ cO mq ma (sF mg 0 (if barF (th k) ((mF 26) k) (ct k) (nI ln) (nI ii) (nI nn) = 0 then (mg 0) else barF (th k) ((mF 26) k) (ct k) (nI ln) (nI ii) (nI nn))) mh mF mE _ ((60 * k) + ii) nn (fun z => (mE 27 (60 * k + (ii + z))).toNatClampNeg) (mF 4) (show ((60 * k) + ii) + nn ≤ 240 from (by omega)) (show nn ≤ 40 from (by first | assumption | omega)) (show ∀ z0, z0 < nn → (mE 27) (((60 * k) + ii) + z0) = nI ((fun z => (mE 27 (60 * k + (ii + z))).toNatClampNeg) z0) ∧ (fun z => (mE 27 (60 * k + (ii + z))).toNatClampNeg) z0 < (mg 2) from (fun z0 hz => ac_of (f := mE 27) (hall z0 hz) (by omega))) (show (mF 4) = (mF 4) from rfl) (show 2 ≤ (mg 2) from (by first | assumption | omega)) (show (mg 2) ≤ 4 from (by first | assumption | omega)) (show ∀ z0, (mF 3) z0 ≤ 2 from (by first | assumption | omega)) (show ∀ z0, (mF 4) z0 ≤ 9 from (by first | assumption | omega)) (show ∀ z0, (mF 5) z0 ≤ 9 from (by first | assumption | omega)) (show ∀ z0, (mF 12) z0 ≤ 9 from (by first | assumption | omega)) (show (mg 1) ≤ 3 from (by first | assumption | omega))) (cwV 2 X.2.2.2.2.2.1 gX6_acts_X6_goActs rfl rfl rfl (by decide +kernel) ⟨Nat.le_of_ble_eq_true rfl, Nat.le_of_ble_eq_true rfl⟩) 0 5 rfl rfl rfl rfl hl.1 rfl (Nat.le_of_ble_eq_true rfl) ⟨Nat.le_of_ble_eq_true rfl, Nat.le_of_ble_eq_true rfl⟩ dX6_acts_180 (fun u15 H locs w180 hW => ?_)
                  obtain ⟨o1_11, o2_12, o3_13⟩ := u15
                  have hW : Wd D A s.heap H locs (wM cI cZ mq ma (sF (sF mg 0 (if barF (th k) ((mF 26) k) (ct k) (nI ln) (nI ii) (nI nn) = 0 then (mg 0) else barF (th k) ((mF 26) k) (ct k) (nI ln) (nI ii) (nI nn))) 14 o3_13) (sF mh 13 o2_12) (sF mF 12 o1_11) mE) := hW
                  replace w180 : (∀ z0, o1_11 z0 ≤ 9) ∧ (∀ z0, z0 < (mg 2) → o1_11 z0 = (runA (stepO ((mg 2)) ((mg 1)) ((mF 3)) ((mF 5))) (fun z => (mE 27 (60 * k + (ii + z))).toNatClampNeg) nn 0 (mF 4)).2 z0) ∧ o2_12 = silI (runA (stepO ((mg 2)) ((mg 1)) ((mF 3)) ((mF 5))) (fun z => (mE 27 (60 * k + (ii + z))).toNatClampNeg) nn 0 (mF 4)).1 ∧ ((runA (stepO ((mg 2)) ((mg 1)) ((mF 3)) ((mF 5))) (fun z => (mE 27 (60 * k + (ii + z))).toNatClampNeg) nn 0 (mF 4)).1 = none → o3_13 = opsN ((mg 2)) (fun z => (mE 27 (60 * k + (ii + z))).toNatClampNeg) nn) ∧ (∀ kk, (runA (stepO ((mg 2)) ((mg 1)) ((mF 3)) ((mF 5))) (fun z => (mE 27 (60 * k + (ii + z))).toNatClampNeg) nn 0 (mF 4)).1 = some kk → kk < nn) := w180
                  refine x_aload_n X dX6_acts_183 rfl (lv_at hl 1 rfl) ?_
                  refine x_aload_n X dX6_acts_184 rfl (lv_at hl 1 rfl) ?_
                  refine x_iload X dX6_acts_185 (lv_at hl 6 rfl) ?_
                  refine x_callVi0 X hW (As := [.int (nI v)]) (rest := [.ref mq]) (c_X6_actsBy l D cI cZ cO mq ma (sF (sF mg 0 (if barF (th k) ((mF 26) k) (ct k) (nI ln) (nI ii) (nI nn) = 0 then (mg 0) else barF (th k) ((mF 26) k) (ct k) (nI ln) (nI ii) (nI nn))) 14 o3_13) (sF mh 13 o2_12) (sF mF 12 o1_11) mE _ v (fun z => (mE 27 (60 * k + (ii + z))).toNatClampNeg) (mF 4) nn (show v ≤ 13 from (by first | assumption | omega)) (show v ≤ 3 ∨ 10 ≤ v from (by first | assumption | omega)) (show nn ≤ 40 from (by first | assumption | omega)) (show o2_12 = silI (runA (stepO ((mg 2)) ((mg 1)) ((mF 3)) ((mF 5))) (fun z => (mE 27 (60 * k + (ii + z))).toNatClampNeg) nn 0 (mF 4)).1 from w180.2.2.1) (show ∀ z0, z0 < (mg 2) → o1_11 z0 = (runA (stepO ((mg 2)) ((mg 1)) ((mF 3)) ((mF 5))) (fun z => (mE 27 (60 * k + (ii + z))).toNatClampNeg) nn 0 (mF 4)).2 z0 from w180.2.1) (show (runA (stepO ((mg 2)) ((mg 1)) ((mF 3)) ((mF 5))) (fun z => (mE 27 (60 * k + (ii + z))).toNatClampNeg) nn 0 (mF 4)).1 = none → o3_13 = opsN ((mg 2)) (fun z => (mE 27 (60 * k + (ii + z))).toNatClampNeg) nn from w180.2.2.2.1) (show ∀ z1, (runA (stepO ((mg 2)) ((mg 1)) ((mF 3)) ((mF 5))) (fun z => (mE 27 (60 * k + (ii + z))).toNatClampNeg) nn 0 (mF 4)).1 = some z1 → z1 < nn from w180.2.2.2.2) (show 2 ≤ (mg 2) from (by first | assumption | omega)) (show (mg 2) ≤ 4 from (by first | assumption | omega)) (show ∀ z0, (mF 3) z0 ≤ 2 from (by first | assumption | omega)) (show ∀ z0, (mF 5) z0 ≤ 9 from (by first | assumption | omega)) (show ∀ z0, o1_11 z0 ≤ 9 from w180.1)) (cwV 1 X.2.2.2.2.2.1 gX6_acts_X6_actsBy rfl rfl rfl (by decide +kernel) ⟨Nat.le_of_ble_eq_true rfl, Nat.le_of_ble_eq_true rfl⟩) 0 5 rfl rfl rfl rfl hl.1 rfl (Nat.le_of_ble_eq_true rfl) ⟨Nat.le_of_ble_eq_true rfl, Nat.le_of_ble_eq_true rfl⟩ dX6_acts_187 (fun r16 u17 H locs w187 hW => ?_)
                  have hW : Wd D A s.heap H locs (wM cI cZ mq ma (sF (sF mg 0 (if barF (th k) ((mF 26) k) (ct k) (nI ln) (nI ii) (nI nn) = 0 then (mg 0) else barF (th k) ((mF 26) k) (ct k) (nI ln) (nI ii) (nI nn))) 14 o3_13) (sF mh 13 o2_12) (sF mF 12 o1_11) mE) := hW
                  replace w187 : r16 = actsAns ((mg 2)) ((mg 1)) ((mF 3)) (mF 4) ((mF 5)) (fun z => (mE 27 (60 * k + (ii + z))).toNatClampNeg) nn v := w187
                  subst w187
                  refine x_callVi0 X hW (As := [.int (actsAns ((mg 2)) ((mg 1)) ((mF 3)) (mF 4) ((mF 5)) (fun z => (mE 27 (60 * k + (ii + z))).toNatClampNeg) nn v)]) (rest := []) (c_X6_refused l D cI cZ cO mq ma (sF (sF mg 0 (if barF (th k) ((mF 26) k) (ct k) (nI ln) (nI ii) (nI nn) = 0 then (mg 0) else barF (th k) ((mF 26) k) (ct k) (nI ln) (nI ii) (nI nn))) 14 o3_13) (sF mh 13 o2_12) (sF mF 12 o1_11) mE _ (actsAns ((mg 2)) ((mg 1)) ((mF 3)) (mF 4) ((mF 5)) (fun z => (mE 27 (60 * k + (ii + z))).toNatClampNeg) nn v)) (cwV 1 X.2.2.2.2.2.1 gX6_acts_X6_refused rfl rfl rfl (by decide +kernel) ⟨Nat.le_of_ble_eq_true rfl, Nat.le_of_ble_eq_true rfl⟩) 0 5 rfl rfl rfl rfl hl.1 rfl (Nat.le_of_ble_eq_true rfl) ⟨Nat.le_of_ble_eq_true rfl, Nat.le_of_ble_eq_true rfl⟩ dX6_acts_190 (fun r18 u19 H locs w190 hW => ?_)
                  have hW : Wd D A s.heap H locs (wM cI cZ mq ma (sF (sF mg 0 0) 14 o3_13) (sF mh 13 o2_12) (sF mF 12 o1_11) mE) := hW
                  replace w190 : r18 = (actsAns ((mg 2)) ((mg 1)) ((mF 3)) (mF 4) ((mF 5)) (fun z => (mE 27 (60 * k + (ii + z))).toNatClampNeg) nn v) := w190
                  subst w190
                  exact x_iret X hW rfl (o1_11, o2_12, o3_13) (⟨by unfold aActs; (try rw [onR_in hk (by omega)]); (try rw [onR_in hln (by omega)]); (try rw [onR_in hnn (by omega)]); (try rw [if_pos hok]); (try rw [if_neg (show ¬ mg 2 = 0 by omega)]); (try rw [if_pos h106]); (try rw [h106]); (try rw [actsJ_y (by omega) (by omega) hall]); (try rfl), w180.1⟩) (congrArg (fun z => (wM cI cZ mq ma (sF (sF mg 0 z) 14 o3_13) (sF mh 13 o2_12) (sF mF 12 o1_11) mE)) (show 0 = (fActs (mg 2) th (mF 26) ct (nI k) (nI ln) (nI ii) (nI nn) (nI v)) from by unfold fActs; (try rw [onR_in hk (by omega)]); (try rw [onR_in hln (by omega)]); (try rw [onR_in hnn (by omega)]); (try rw [if_pos hok]); (try rw [if_neg (show ¬ mg 2 = 0 by omega)]); (try rw [if_pos h106]); (try rw [h106]); (try rw [actsJ_y (by omega) (by omega) hall]); (try rfl))) dX6_acts_193
                · refine x_aload_n X dX6_acts_129 rfl (lv_at hl 1 rfl) ?_
                  refine x_get X hW (v := .ref (ma 27)) hi6 0 rfl rfl 27 (by decide) (List.mem_of_getElem? (i := 7) rfl) rfl rfl dX6_acts_130 ?_
                  refine x_bipush (v := nI 60) X dX6_acts_133 (by decide) ?_
                  refine x_iload_n X dX6_acts_135 rfl (lv_at hl 2 rfl) ?_
                  refine n_imul X dX6_acts_136 ?_
                  refine x_iload_n X dX6_acts_137 rfl (lv_at hl 4 rfl) ?_
                  refine n_iadd X dX6_acts_138 ?_
                  refine x_iload X dX6_acts_139 (lv_at hl 0 rfl) ?_
                  refine n_iadd X dX6_acts_141 ?_
                  refine i_iald X hW (f := mE 27) 16 0 rfl rfl (by omega) (by decide) dX6_acts_142 ?_
                  refine x_i2l (v := (mE 27 (((60 * k) + ii) + x)).toInt64) X dX6_acts_143 rfl ?_
                  refine x_lconst (v := 0) X dX6_acts_144 (by decide) ?_
                  refine x_aload_n X dX6_acts_145 rfl (lv_at hl 1 rfl) ?_
                  refine x_get X hW (v := .int (nI (mg 2))) hi6 0 rfl rfl 2 (by decide) (List.mem_of_getElem? (i := 6) rfl) rfl rfl dX6_acts_146 ?_
                  refine x_i2l (v := (nI (mg 2)).toInt64) X dX6_acts_149 rfl ?_
                  refine x_lconst (v := 1) X dX6_acts_150 (by decide) ?_
                  refine x_lsub (v := ((nI (mg 2)).toInt64) - (1 : Int64)) X dX6_acts_151 rfl ?_
                  refine x_callSie X hW (As := [.long ((mE 27 (((60 * k) + ii) + x)).toInt64), .long (0 : Int64), .long (((nI (mg 2)).toInt64) - (1 : Int64))]) (rest := []) (c_X6_in l D cI cZ cO  _ ((mE 27 (((60 * k) + ii) + x)).toInt64) (0 : Int64) (((nI (mg 2)).toInt64) - (1 : Int64))) (va_cwS 3 X.2.2.2.2.2.1 gX6_acts_X6_in rfl rfl rfl (by decide +kernel) ⟨Nat.le_of_ble_eq_true rfl, Nat.le_of_ble_eq_true rfl⟩) rfl hl.1 rfl (Nat.le_of_ble_eq_true rfl) ⟨Nat.le_of_ble_eq_true rfl, Nat.le_of_ble_eq_true rfl⟩ dX6_acts_152 (fun r20 u21 H locs w152 hW => ?_)
                  have hW : Wd D A s.heap H locs (wM cI cZ mq ma (sF mg 0 (if barF (th k) ((mF 26) k) (ct k) (nI ln) (nI ii) (nI nn) = 0 then (mg 0) else barF (th k) ((mF 26) k) (ct k) (nI ln) (nI ii) (nI nn))) mh mF mE) := hW
                  replace w152 : (r20 = nI 1 ∧ ((0 : Int64).toInt ≤ ((mE 27 (((60 * k) + ii) + x)).toInt64).toInt ∧ ((mE 27 (((60 * k) + ii) + x)).toInt64).toInt ≤ (((nI (mg 2)).toInt64) - (1 : Int64)).toInt) ∨ r20 = nI 0 ∧ ¬ ((0 : Int64).toInt ≤ ((mE 27 (((60 * k) + ii) + x)).toInt64).toInt ∧ ((mE 27 (((60 * k) + ii) + x)).toInt64).toInt ≤ (((nI (mg 2)).toInt64) - (1 : Int64)).toInt)) := w152
                  rcases w152 with ⟨w152, h152⟩ | ⟨w152, h152⟩
                  · subst w152
                    have gx : inR (mE 27 (60 * k + (ii + x))) (mg 2) := by rw [← Nat.add_assoc]; exact (in_iff l_0 (hi_sub (k := 1) (m := 1) (by omega) (by decide) (by decide))).mp h152
                    refine n_if_ne X 165 dX6_acts_155 (by decide) (by decide) (fun c155 => ?_) (fun c155 => by exact absurd c155 (by decide))
                    refine x_iinc X [(8, .int (nI (x + 1))), (0, .ref mq), (1, .int (nI k)), (2, .int (nI ln)), (3, .int (nI ii)), (4, .int (nI nn)), (5, .int (nI v))] (k := 0) dX6_acts_165 hl rfl (nI_inc1 x) (by decide) rfl (fun ls hl => ?_)
                    refine x_goto X 122 dX6_acts_168 (by decide) ?_
                    exact ih122 (x + 1) _ _ _ ⟨(show (x + 1) ≤ nn ∧ allA (fun y => mE 27 (60 * k + y)) ii (x + 1) (mg 2) from (by first | exact ⟨Nat.zero_le _, fun _ h => absurd h (Nat.not_lt_zero _)⟩ | exact ⟨by omega, allA_s hv.2 gx⟩)), hW, lv_sub hl [0, 1, 2, 3, 4, 5, 6] rfl⟩ (by omega)
                  · subst w152
                    have gx : ¬ inR (mE 27 (60 * k + (ii + x))) (mg 2) := by rw [← Nat.add_assoc]; exact fun q => h152 ((in_iff l_0 (hi_sub (k := 1) (m := 1) (by omega) (by decide) (by decide))).mpr q)
                    have hall : ¬ allA (fun y => mE 27 (60 * k + y)) ii nn (mg 2) := fun q => gx (q x (by omega))
                    refine n_if_ne X 165 dX6_acts_155 (by decide) (by decide) (fun c155 => by exact absurd c155 (by decide)) (fun c155 => ?_)
                    refine x_aload_n X dX6_acts_158 rfl (lv_at hl 1 rfl) ?_
                    refine x_bipush (v := (-2 : Int32)) X dX6_acts_159 (by decide) ?_
                    refine x_callVi0 X hW (As := [.int (-2 : Int32)]) (rest := []) (c_X6_refused l D cI cZ cO mq ma (sF mg 0 (if barF (th k) ((mF 26) k) (ct k) (nI ln) (nI ii) (nI nn) = 0 then (mg 0) else barF (th k) ((mF 26) k) (ct k) (nI ln) (nI ii) (nI nn))) mh mF mE _ (-2 : Int32)) (cwV 1 X.2.2.2.2.2.1 gX6_acts_X6_refused rfl rfl rfl (by decide +kernel) ⟨Nat.le_of_ble_eq_true rfl, Nat.le_of_ble_eq_true rfl⟩) 0 5 rfl rfl rfl rfl hl.1 rfl (Nat.le_of_ble_eq_true rfl) ⟨Nat.le_of_ble_eq_true rfl, Nat.le_of_ble_eq_true rfl⟩ dX6_acts_161 (fun r22 u23 H locs w161 hW => ?_)
                    have hW : Wd D A s.heap H locs (wM cI cZ mq ma (sF mg 0 0) mh mF mE) := hW
                    replace w161 : r22 = (-2 : Int32) := w161
                    subst w161
                    exact x_iret X hW rfl (mF 12, mh 13, mg 14) (⟨by unfold aActs; (try rw [onR_in hk (by omega)]); (try rw [onR_in hln (by omega)]); (try rw [onR_in hnn (by omega)]); (try rw [if_pos hok]); (try rw [if_neg (show ¬ mg 2 = 0 by omega)]); (try rw [if_pos h106]); (try rw [h106]); (try rw [actsJ_n (by omega) hall]); (try rfl), hw⟩) (congrArg (fun z => (wM cI cZ mq ma (sF mg 0 z) mh mF mE)) (show 0 = (fActs (mg 2) th (mF 26) ct (nI k) (nI ln) (nI ii) (nI nn) (nI v)) from by unfold fActs; (try rw [onR_in hk (by omega)]); (try rw [onR_in hln (by omega)]); (try rw [onR_in hnn (by omega)]); (try rw [if_pos hok]); (try rw [if_neg (show ¬ mg 2 = 0 by omega)]); (try rw [if_pos h106]); (try rw [h106]); (try rw [actsJ_n (by omega) hall]); (try rfl))) dX6_acts_164
              · subst w106
                refine x_istore X [(7, .int ((-10 : Int32) - nI (barF (th k) ((mF 26) k) (ct k) (nI ln) i0 (nI nn)))), (6, .int (nI 1)), (0, .ref mq), (1, .int (nI k)), (2, .int (nI ln)), (3, .int i0), (4, .int (nI nn)), (5, .int (nI v))] dX6_acts_109 hl (by decide) rfl (fun ls hl => ?_)
                refine x_iload X dX6_acts_111 (lv_at hl 0 rfl) ?_
                refine x_if_ge X 119 dX6_acts_113 (by decide) (fun c113 => by exact absurd c113 (neg_bf' (barF_le _ _ _ _ _ _))) (fun c113 => ?_)
                refine x_iload X dX6_acts_116 (lv_at hl 0 rfl) ?_
                exact x_iret X hW rfl (mF 12, mh 13, mg 14) (⟨by unfold aActs; (try rw [onR_in hk (by omega)]); (try rw [onR_in hln (by omega)]); (try rw [onR_in hnn (by omega)]); (try rw [if_pos hok]); (try rw [if_neg (show ¬ mg 2 = 0 by omega)]); (try rw [if_neg h106]); (try rfl), hw⟩) (congrArg (fun z => (wM cI cZ mq ma (sF mg 0 z) mh mF mE)) (show (if barF (th k) ((mF 26) k) (ct k) (nI ln) i0 (nI nn) = 0 then (mg 0) else barF (th k) ((mF 26) k) (ct k) (nI ln) i0 (nI nn)) = (fActs (mg 2) th (mF 26) ct (nI k) (nI ln) i0 (nI nn) (nI v)) from by unfold fActs; (try rw [onR_in hk (by omega)]); (try rw [onR_in hln (by omega)]); (try rw [onR_in hnn (by omega)]); (try rw [if_pos hok]); (try rw [if_neg (show ¬ mg 2 = 0 by omega)]); (try rw [if_neg h106]); (try rfl))) dX6_acts_118
            · refine x_aload_n X dX6_acts_92 rfl (lv_at hl 1 rfl) ?_
              refine x_bipush (v := (-3 : Int32)) X dX6_acts_93 (by decide) ?_
              refine x_callVi0 X hW (As := [.int (-3 : Int32)]) (rest := []) (c_X6_refused l D cI cZ cO mq ma mg mh mF mE _ (-3 : Int32)) (cwV 1 X.2.2.2.2.2.1 gX6_acts_X6_refused rfl rfl rfl (by decide +kernel) ⟨Nat.le_of_ble_eq_true rfl, Nat.le_of_ble_eq_true rfl⟩) 0 5 rfl rfl rfl rfl hl.1 rfl (Nat.le_of_ble_eq_true rfl) ⟨Nat.le_of_ble_eq_true rfl, Nat.le_of_ble_eq_true rfl⟩ dX6_acts_95 (fun r24 u25 H locs w95 hW => ?_)
              have hW : Wd D A s.heap H locs (wM cI cZ mq ma (sF mg 0 0) mh mF mE) := hW
              replace w95 : r24 = (-3 : Int32) := w95
              subst w95
              exact x_iret X hW rfl (mF 12, mh 13, mg 14) (⟨by unfold aActs; (try rw [onR_in hk (by omega)]); (try rw [onR_in hln (by omega)]); (try rw [onR_in hnn (by omega)]); (try rw [if_pos hok]); (try rw [if_pos (show mg 2 = 0 by omega)]); (try rfl), hw⟩) (congrArg (fun z => (wM cI cZ mq ma (sF mg 0 z) mh mF mE)) (show 0 = (fActs (mg 2) th (mF 26) ct (nI k) (nI ln) i0 (nI nn) (nI v)) from by unfold fActs; (try rw [onR_in hk (by omega)]); (try rw [onR_in hln (by omega)]); (try rw [onR_in hnn (by omega)]); (try rw [if_pos hok]); (try rw [if_pos (show mg 2 = 0 by omega)]); (try rfl))) dX6_acts_98
          · refine n_if_ne X 85 dX6_acts_75 (by decide) (by decide) (fun c75 => by exact absurd c75 (by decide)) (fun c75 => ?_)
            refine x_aload_n X dX6_acts_78 rfl (lv_at hl 1 rfl) ?_
            refine x_bipush (v := (-2 : Int32)) X dX6_acts_79 (by decide) ?_
            refine x_callVi0 X hW (As := [.int (-2 : Int32)]) (rest := []) (c_X6_refused l D cI cZ cO mq ma mg mh mF mE _ (-2 : Int32)) (cwV 1 X.2.2.2.2.2.1 gX6_acts_X6_refused rfl rfl rfl (by decide +kernel) ⟨Nat.le_of_ble_eq_true rfl, Nat.le_of_ble_eq_true rfl⟩) 0 5 rfl rfl rfl rfl hl.1 rfl (Nat.le_of_ble_eq_true rfl) ⟨Nat.le_of_ble_eq_true rfl, Nat.le_of_ble_eq_true rfl⟩ dX6_acts_81 (fun r26 u27 H locs w81 hW => ?_)
            have hW : Wd D A s.heap H locs (wM cI cZ mq ma (sF mg 0 0) mh mF mE) := hW
            replace w81 : r26 = (-2 : Int32) := w81
            subst w81
            exact x_iret X hW rfl (mF 12, mh 13, mg 14) (⟨by unfold aActs; (try rw [onR_in hk (by omega)]); (try rw [onR_in hln (by omega)]); (try rw [onR_in hnn (by omega)]); (try rw [if_neg hok]); (try rfl), hw⟩) (congrArg (fun z => (wM cI cZ mq ma (sF mg 0 z) mh mF mE)) (show 0 = (fActs (mg 2) th (mF 26) ct (nI k) (nI ln) i0 (nI nn) w) from by unfold fActs; (try rw [onR_in hk (by omega)]); (try rw [onR_in hln (by omega)]); (try rw [onR_in hnn (by omega)]); (try rw [if_neg hok]); (try rfl))) dX6_acts_84
        · subst w67
          have gn0 := fun q => h67 ((in_iff (r := n0) (n := 41) l_0 (by decide)).mpr q)
          refine n_if_eq X 78 dX6_acts_70 (by decide) (by decide) (fun c70 => ?_) (fun c70 => by exact absurd c70 (by decide))
          refine x_aload_n X dX6_acts_78 rfl (lv_at hl 1 rfl) ?_
          refine x_bipush (v := (-2 : Int32)) X dX6_acts_79 (by decide) ?_
          refine x_callVi0 X hW (As := [.int (-2 : Int32)]) (rest := []) (c_X6_refused l D cI cZ cO mq ma mg mh mF mE _ (-2 : Int32)) (cwV 1 X.2.2.2.2.2.1 gX6_acts_X6_refused rfl rfl rfl (by decide +kernel) ⟨Nat.le_of_ble_eq_true rfl, Nat.le_of_ble_eq_true rfl⟩) 0 5 rfl rfl rfl rfl hl.1 rfl (Nat.le_of_ble_eq_true rfl) ⟨Nat.le_of_ble_eq_true rfl, Nat.le_of_ble_eq_true rfl⟩ dX6_acts_81 (fun r28 u29 H locs w81 hW => ?_)
          have hW : Wd D A s.heap H locs (wM cI cZ mq ma (sF mg 0 0) mh mF mE) := hW
          replace w81 : r28 = (-2 : Int32) := w81
          subst w81
          exact x_iret X hW rfl (mF 12, mh 13, mg 14) (⟨by unfold aActs; (try rw [onR_in hk (by omega)]); (try rw [onR_in hln (by omega)]); (try rw [onR_out gn0]); (try rfl), hw⟩) (congrArg (fun z => (wM cI cZ mq ma (sF mg 0 z) mh mF mE)) (show 0 = (fActs (mg 2) th (mF 26) ct (nI k) (nI ln) i0 n0 w) from by unfold fActs; (try rw [onR_in hk (by omega)]); (try rw [onR_in hln (by omega)]); (try rw [onR_out gn0]); (try rfl))) dX6_acts_84
      · subst w54
        have glane := fun q => h54 ((in_iff (r := lane) (n := 3) l_0 (by decide)).mpr q)
        refine n_if_eq X 78 dX6_acts_57 (by decide) (by decide) (fun c57 => ?_) (fun c57 => by exact absurd c57 (by decide))
        refine x_aload_n X dX6_acts_78 rfl (lv_at hl 1 rfl) ?_
        refine x_bipush (v := (-2 : Int32)) X dX6_acts_79 (by decide) ?_
        refine x_callVi0 X hW (As := [.int (-2 : Int32)]) (rest := []) (c_X6_refused l D cI cZ cO mq ma mg mh mF mE _ (-2 : Int32)) (cwV 1 X.2.2.2.2.2.1 gX6_acts_X6_refused rfl rfl rfl (by decide +kernel) ⟨Nat.le_of_ble_eq_true rfl, Nat.le_of_ble_eq_true rfl⟩) 0 5 rfl rfl rfl rfl hl.1 rfl (Nat.le_of_ble_eq_true rfl) ⟨Nat.le_of_ble_eq_true rfl, Nat.le_of_ble_eq_true rfl⟩ dX6_acts_81 (fun r30 u31 H locs w81 hW => ?_)
        have hW : Wd D A s.heap H locs (wM cI cZ mq ma (sF mg 0 0) mh mF mE) := hW
        replace w81 : r30 = (-2 : Int32) := w81
        subst w81
        exact x_iret X hW rfl (mF 12, mh 13, mg 14) (⟨by unfold aActs; (try rw [onR_in hk (by omega)]); (try rw [onR_out glane]); (try rfl), hw⟩) (congrArg (fun z => (wM cI cZ mq ma (sF mg 0 z) mh mF mE)) (show 0 = (fActs (mg 2) th (mF 26) ct (nI k) lane i0 n0 w) from by unfold fActs; (try rw [onR_in hk (by omega)]); (try rw [onR_out glane]); (try rfl))) dX6_acts_84
    · refine x_iload X dX6_acts_13 (lv_at hl 5 rfl) ?_
      refine x_i2l (v := w.toInt64) X dX6_acts_15 rfl ?_
      refine x_lconst (v := 0) X dX6_acts_16 (by decide) ?_
      refine x_ldc2 (v := (3)) X (List.mem_of_getElem? (i := 1) rfl) dX6_acts_17 ?_
      refine x_callSie X hW (As := [.long w.toInt64, .long (0 : Int64), .long (3 : Int64)]) (rest := []) (c_X6_in l D cI cZ cO  _ w.toInt64 (0 : Int64) (3 : Int64)) (va_cwS 3 X.2.2.2.2.2.1 gX6_acts_X6_in rfl rfl rfl (by decide +kernel) ⟨Nat.le_of_ble_eq_true rfl, Nat.le_of_ble_eq_true rfl⟩) rfl hl.1 rfl (Nat.le_of_ble_eq_true rfl) ⟨Nat.le_of_ble_eq_true rfl, Nat.le_of_ble_eq_true rfl⟩ dX6_acts_20 (fun r32 u33 H locs w20 hW => ?_)
      have hW : Wd D A s.heap H locs (wM cI cZ mq ma mg mh mF mE) := hW
      replace w20 : (r32 = nI 1 ∧ ((0 : Int64).toInt ≤ w.toInt64.toInt ∧ w.toInt64.toInt ≤ (3 : Int64).toInt) ∨ r32 = nI 0 ∧ ¬ ((0 : Int64).toInt ≤ w.toInt64.toInt ∧ w.toInt64.toInt ≤ (3 : Int64).toInt)) := w20
      rcases w20 with ⟨w20, h20⟩ | ⟨w20, h20⟩
      · subst w20
        have g20 := (in_iff (r := w) (n := 4) l_0 (by decide)).mp h20
        refine n_if_ne X 41 dX6_acts_23 (by decide) (by decide) (fun c23 => ?_) (fun c23 => by exact absurd c23 (by decide))
        refine x_iconst (v := nI 1) X dX6_acts_41 (by decide) ?_
        refine x_goto X 46 dX6_acts_42 (by decide) ?_
        exact kj46 1 _ _ _ ⟨(show (1 = 1 ∧ whatOK w) ∨ (1 = 0 ∧ ¬ whatOK w) from by first | exact Or.inl ⟨rfl, Or.inl g20⟩ | exact Or.inl ⟨rfl, Or.inr g35⟩ | exact Or.inr ⟨rfl, fun q => q.elim g20 g35⟩), hW, lv_sub hl [0, 1, 2, 3, 4, 5] rfl⟩
      · subst w20
        have g20 := fun q => h20 ((in_iff (r := w) (n := 4) l_0 (by decide)).mpr q)
        refine n_if_ne X 41 dX6_acts_23 (by decide) (by decide) (fun c23 => by exact absurd c23 (by decide)) (fun c23 => ?_)
        refine x_iload X dX6_acts_26 (lv_at hl 5 rfl) ?_
        refine x_i2l (v := w.toInt64) X dX6_acts_28 rfl ?_
        refine x_ldc2 (v := (10)) X (List.mem_of_getElem? (i := 2) rfl) dX6_acts_29 ?_
        refine x_ldc2 (v := (13)) X (List.mem_of_getElem? (i := 3) rfl) dX6_acts_32 ?_
        refine x_callSie X hW (As := [.long w.toInt64, .long (10 : Int64), .long (13 : Int64)]) (rest := []) (c_X6_in l D cI cZ cO  _ w.toInt64 (10 : Int64) (13 : Int64)) (va_cwS 3 X.2.2.2.2.2.1 gX6_acts_X6_in rfl rfl rfl (by decide +kernel) ⟨Nat.le_of_ble_eq_true rfl, Nat.le_of_ble_eq_true rfl⟩) rfl hl.1 rfl (Nat.le_of_ble_eq_true rfl) ⟨Nat.le_of_ble_eq_true rfl, Nat.le_of_ble_eq_true rfl⟩ dX6_acts_35 (fun r34 u35 H locs w35 hW => ?_)
        have hW : Wd D A s.heap H locs (wM cI cZ mq ma mg mh mF mE) := hW
        replace w35 : (r34 = nI 1 ∧ ((10 : Int64).toInt ≤ w.toInt64.toInt ∧ w.toInt64.toInt ≤ (13 : Int64).toInt) ∨ r34 = nI 0 ∧ ¬ ((10 : Int64).toInt ≤ w.toInt64.toInt ∧ w.toInt64.toInt ≤ (13 : Int64).toInt)) := w35
        rcases w35 with ⟨w35, h35⟩ | ⟨w35, h35⟩
        · subst w35
          have g35 := (in_1013).mp h35
          refine n_if_eq X 45 dX6_acts_38 (by decide) (by decide) (fun c38 => by exact absurd c38 (by decide)) (fun c38 => ?_)
          refine x_iconst (v := nI 1) X dX6_acts_41 (by decide) ?_
          refine x_goto X 46 dX6_acts_42 (by decide) ?_
          exact kj46 1 _ _ _ ⟨(show (1 = 1 ∧ whatOK w) ∨ (1 = 0 ∧ ¬ whatOK w) from by first | exact Or.inl ⟨rfl, Or.inl g20⟩ | exact Or.inl ⟨rfl, Or.inr g35⟩ | exact Or.inr ⟨rfl, fun q => q.elim g20 g35⟩), hW, lv_sub hl [0, 1, 2, 3, 4, 5] rfl⟩
        · subst w35
          have g35 := fun q => h35 ((in_1013).mpr q)
          refine n_if_eq X 45 dX6_acts_38 (by decide) (by decide) (fun c38 => ?_) (fun c38 => by exact absurd c38 (by decide))
          refine x_iconst (v := nI 0) X dX6_acts_45 (by decide) ?_
          exact kj46 0 _ _ _ ⟨(show (0 = 1 ∧ whatOK w) ∨ (0 = 0 ∧ ¬ whatOK w) from by first | exact Or.inl ⟨rfl, Or.inl g20⟩ | exact Or.inl ⟨rfl, Or.inr g35⟩ | exact Or.inr ⟨rfl, fun q => q.elim g20 g35⟩), hW, lv_sub hl [0, 1, 2, 3, 4, 5] rfl⟩
