
theorem fit_cp {rc n : Nat} {ro : Nat → Nat} {ra : Nat → Int32} {rd : Nat → Nat} {kd lv lm kd' lv' lm' : Nat → Nat} (hro : ∀ x, x < rc → ro x < n) (h1 : ∀ i, i < n → kd i = kd' i) (h2 : ∀ i, i < n → lv i = lv' i) (h3 : ∀ i, i < n → lm i = lm' i) : fitP rc ro ra rd kd lv lm ↔ fitP rc ro ra rd kd' lv' lm' := by
  have e : ∀ x, x < rc → (soP kd lv lm (ro x) (ra x) (rd x) ↔ soP kd' lv' lm' (ro x) (ra x) (rd x)) := by
    intro x hx
    have hr := hro x hx
    unfold soP askI
    rw [h1 _ hr, h2 _ hr, h3 _ hr]
  exact ⟨fun q x hx => (e x hx).mp (q x hx), fun q x hx => (e x hx).mpr (q x hx)⟩
theorem bcnt_8 : ∀ N, N < 9 → ∀ s, s < 256 → s < 2 ^ N → bcnt s 8 = bcnt s N := by decide +kernel
theorem bcnt_le : ∀ s, s < 256 → bcnt s 8 ≤ 8 := by decide +kernel
def gi (a b : Nat) : Nat → Nat × Nat
  | 0 => (a, b)
  | p + 1 => if (gi a b p).2 = 0 then gi a b p else ((gi a b p).2, (gi a b p).1 % (gi a b p).2)
theorem gi_s {a b p : Nat} (h : ¬ (gi a b p).2 = 0) : gi a b (p + 1) = ((gi a b p).2, (gi a b p).1 % (gi a b p).2) := by
  show (if (gi a b p).2 = 0 then gi a b p else ((gi a b p).2, (gi a b p).1 % (gi a b p).2)) = _
  rw [if_neg h]
theorem gi_le {a b : Nat} (ha : a ≤ 256) (hb : b ≤ 256) : ∀ p, (gi a b p).1 ≤ 256 ∧ (gi a b p).2 ≤ 256
  | 0 => ⟨ha, hb⟩
  | p + 1 => by
    have ih := gi_le ha hb p
    by_cases h : (gi a b p).2 = 0
    · have e : gi a b (p + 1) = gi a b p := by
        show (if (gi a b p).2 = 0 then gi a b p else ((gi a b p).2, (gi a b p).1 % (gi a b p).2)) = _
        rw [if_pos h]
      rw [e]; exact ih
    · rw [gi_s h]
      exact ⟨ih.2, by have := Nat.mod_lt (gi a b p).1 (show 0 < (gi a b p).2 by omega); show (gi a b p).1 % (gi a b p).2 ≤ 256; omega⟩
theorem gi_gcd (a b : Nat) : ∀ p, Nat.gcd (gi a b p).1 (gi a b p).2 = Nat.gcd a b
  | 0 => rfl
  | p + 1 => by
    have ih := gi_gcd a b p
    by_cases h : (gi a b p).2 = 0
    · have e : gi a b (p + 1) = gi a b p := by
        show (if (gi a b p).2 = 0 then gi a b p else ((gi a b p).2, (gi a b p).1 % (gi a b p).2)) = _
        rw [if_pos h]
      rw [e]; exact ih
    · rw [gi_s h]
      show Nat.gcd (gi a b p).2 ((gi a b p).1 % (gi a b p).2) = _
      rw [gcd_st, ih]
def giF : Nat → Nat → Nat → Nat
  | 0, _, y => y
  | p + 1, x, y => if y = 0 then 0 else giF p y (x % y)
theorem giF_eq (a b : Nat) : ∀ k p, giF k (gi a b p).1 (gi a b p).2 = (gi a b (p + k)).2
  | 0, _ => rfl
  | k + 1, p => by
    by_cases h : (gi a b p).2 = 0
    · have e : ∀ m, gi a b (p + m) = gi a b p := by
        intro m
        induction m with
        | zero => rfl
        | succ m ih =>
          show (if (gi a b (p + m)).2 = 0 then gi a b (p + m) else ((gi a b (p + m)).2, (gi a b (p + m)).1 % (gi a b (p + m)).2)) = _
          rw [ih, if_pos h]
      rw [e, h]
      show (if (0 : Nat) = 0 then 0 else _) = 0
      exact if_pos rfl
    · have ih := giF_eq a b k (p + 1)
      rw [gi_s h] at ih
      show (if (gi a b p).2 = 0 then 0 else giF k (gi a b p).2 ((gi a b p).1 % (gi a b p).2)) = _
      rw [if_neg h, ih, show p + 1 + k = p + (k + 1) by omega]
theorem giF_64 : ∀ N, N < 9 → ∀ a, a < 257 → giF 64 a (2 ^ N) = 0 := by decide +kernel
theorem gi_64 {N a : Nat} (hN : N < 9) (ha : a ≤ 256) : (gi a (2 ^ N) 64).2 = 0 := by
  have := giF_eq a (2 ^ N) 64 0
  rw [Nat.zero_add] at this
  rw [← this]
  exact giF_64 N hN a (by omega)
theorem okK_of {k : Int32} (h1 : ¬ k < (-1)) (h2 : ¬ nI 40 ≤ k) : okK k := by
  rw [i_lt] at h1; rw [i_le, nI_toInt (by decide)] at h2
  have e : (-1 : Int32).toInt = -1 := by decide
  rw [e] at h1
  by_cases q : k.toInt = -1
  · exact Or.inl (Int32.toInt_inj.mp (by rw [q, e]))
  · exact Or.inr ⟨by omega, by omega⟩
theorem okK_lo {k : Int32} (h : k < (-1)) : ¬ okK k := by
  intro q
  rcases q with rfl | q
  · exact absurd h (by decide)
  · have := q.1
    rw [i_lt] at h
    have e : (-1 : Int32).toInt = -1 := by decide
    omega
theorem okK_hi {k : Int32} (h : nI 40 ≤ k) : ¬ okK k := by
  intro q
  rcases q with rfl | q
  · exact absurd h (by decide)
  · exact inR_big h (by decide) q
theorem what_of {w : Int32} (h1 : ¬ w < nI 10) (h2 : ¬ nI 14 ≤ w) : whatOK w := by
  rw [i_lt, nI_toInt (by decide)] at h1; rw [i_le, nI_toInt (by decide)] at h2
  exact Or.inr ⟨by omega, by omega⟩
theorem what_lo {w : Int32} (h0 : ¬ inR w 4) (h1 : w < nI 10) : ¬ whatOK w := by
  rw [i_lt, nI_toInt (by decide)] at h1
  exact fun q => q.elim h0 (fun z => by omega)
theorem what_hi {w : Int32} (h0 : ¬ inR w 4) (h1 : nI 14 ≤ w) : ¬ whatOK w := by
  rw [i_le, nI_toInt (by decide)] at h1
  exact fun q => q.elim h0 (fun z => by omega)
theorem GW_boat {to : Nat} : ∀ w, GZ 1 to 0 w ↔ GW to (-9) w := by
  intro w
  unfold GZ GW GT
  constructor
  · intro q; exact Or.inl ⟨by decide, by omega⟩
  · intro q
    rcases q with ⟨_, q⟩ | ⟨q, _⟩
    · exact Or.inl ⟨by decide, q⟩
    · exact absurd (by decide) q
theorem GW_lev {r v : Nat} (hv : v < 10) : ∀ w, GZ 0 r v w ↔ GW r (nI v) w := by
  intro w
  have := dig_le w r
  have n0 : ¬ nI v < 0 := by rw [i_lt, nI_toInt (by omega), i_0]; omega
  have e : nI v ≤ nI (dig w r) ↔ v ≤ dig w r := by rw [i_le, nI_toInt (by omega), nI_toInt (by omega)]; omega
  unfold GZ GW GT
  rw [e]
  constructor
  · intro q; exact Or.inr ⟨n0, by omega⟩
  · intro q
    rcases q with ⟨q, _⟩ | ⟨_, q⟩
    · exact absurd q n0
    · exact Or.inr ⟨rfl, q⟩

set_option maxHeartbeats 4000000 in
set_option maxRecDepth 100000 in
theorem c_X5_isFrom0To (l : Launch) (D : va_G) (cI cZ cO : ClassId)  (sz : Nat) (v : Int32) (hi : Nat) (n : Nat) (hn : hi + 1 = n) (hhi : hi < 1000) : Met l yX5_isFrom0To wsX5_isFrom0To ({ frames := 0, cells := 0, slots := 0, locals := 0 }) (va_Pc [.int v, .int (nI hi)] (st_W D (ty3 cI cZ cO) ([] : va_W) sz)) (va_Qi (fun (rr : Int32) (u : Unit) => (rr = nI 1 ∧ (inR v n) ∨ rr = nI 0 ∧ ¬ (inR v n))) (fun u t => at_W D (ty3 cI cZ cO) (va_A ([] : va_W) sz) ([] : va_W) t) (va_A ([] : va_W) sz)) 0 0 (va_A ([] : va_W) sz) := by
  refine Met.goi (cc := cX5_isFrom0To) (maxL := 2) (ret := (some .boolean)) (by decide) rfl (Nat.le_of_ble_eq_true rfl) (fun p e s m below meth c A ls X hW hl => ?_)
  have hl : lv_has ls 2 [(0, .int v), (1, .int (nI hi))] := hl
  refine x_iload_n X dX5_isFrom0To_0 rfl (lv_at hl 0 rfl) ?_
  refine x_if_lt X 13 dX5_isFrom0To_1 (by decide) (fun c1 => ?_) (fun c1 => ?_)
  · refine x_iconst (v := nI 0) X dX5_isFrom0To_13 (by decide) ?_
    exact x_zret X hW rfl (Or.inl (by decide)) () (Or.inr ⟨rfl, by subst hn; first | exact inR_of' c1 c6 (by omega) | exact inR_neg c1 | exact inR_big' c6 (by omega)⟩) rfl dX5_isFrom0To_14
  · refine x_iload_n X dX5_isFrom0To_4 rfl (lv_at hl 0 rfl) ?_
    refine x_iload_n X dX5_isFrom0To_5 rfl (lv_at hl 1 rfl) ?_
    refine x_icmp_gt X 13 dX5_isFrom0To_6 (by decide) (fun c6 => ?_) (fun c6 => ?_)
    · refine x_iconst (v := nI 0) X dX5_isFrom0To_13 (by decide) ?_
      exact x_zret X hW rfl (Or.inl (by decide)) () (Or.inr ⟨rfl, by subst hn; first | exact inR_of' c1 c6 (by omega) | exact inR_neg c1 | exact inR_big' c6 (by omega)⟩) rfl dX5_isFrom0To_14
    · refine x_iconst (v := nI 1) X dX5_isFrom0To_9 (by decide) ?_
      refine x_goto X 14 dX5_isFrom0To_10 (by decide) ?_
      exact x_zret X hW rfl (Or.inr (by decide)) () (Or.inl ⟨rfl, by subst hn; first | exact inR_of' c1 c6 (by omega) | exact inR_neg c1 | exact inR_big' c6 (by omega)⟩) rfl dX5_isFrom0To_14
set_option maxHeartbeats 4000000 in
set_option maxRecDepth 100000 in
theorem c_X5_isLane (l : Launch) (D : va_G) (cI cZ cO : ClassId)  (sz : Nat) (v : Int32)   : Met l yX5_isLane wsX5_isLane ({ frames := 0, cells := 0, slots := 0, locals := 0 }) (va_Pc [.int v] (st_W D (ty3 cI cZ cO) ([] : va_W) sz)) (va_Qi (fun (rr : Int32) (u : Unit) => (rr = nI 1 ∧ (inR v 3) ∨ rr = nI 0 ∧ ¬ (inR v 3))) (fun u t => at_W D (ty3 cI cZ cO) (va_A ([] : va_W) sz) ([] : va_W) t) (va_A ([] : va_W) sz)) 0 0 (va_A ([] : va_W) sz) := by
  refine Met.goi (cc := cX5_isLane) (maxL := 1) (ret := (some .boolean)) (by decide) rfl (Nat.le_of_ble_eq_true rfl) (fun p e s m below meth c A ls X hW hl => ?_)
  have hl : lv_has ls 1 [(0, .int v)] := hl
  refine x_iload_n X dX5_isLane_0 rfl (lv_at hl 0 rfl) ?_
  refine x_if_lt X 13 dX5_isLane_1 (by decide) (fun c1 => ?_) (fun c1 => ?_)
  · refine x_iconst (v := nI 0) X dX5_isLane_13 (by decide) ?_
    exact x_zret X hW rfl (Or.inl (by decide)) () (Or.inr ⟨rfl, by first | exact inR_of' c1 c6 (by decide) | exact inR_neg c1 | exact inR_big' c6 (by decide)⟩) rfl dX5_isLane_14
  · refine x_iload_n X dX5_isLane_4 rfl (lv_at hl 0 rfl) ?_
    refine x_iconst (v := nI 2) X dX5_isLane_5 (by decide) ?_
    refine x_icmp_gt X 13 dX5_isLane_6 (by decide) (fun c6 => ?_) (fun c6 => ?_)
    · refine x_iconst (v := nI 0) X dX5_isLane_13 (by decide) ?_
      exact x_zret X hW rfl (Or.inl (by decide)) () (Or.inr ⟨rfl, by first | exact inR_of' c1 c6 (by decide) | exact inR_neg c1 | exact inR_big' c6 (by decide)⟩) rfl dX5_isLane_14
    · refine x_iconst (v := nI 1) X dX5_isLane_9 (by decide) ?_
      refine x_goto X 14 dX5_isLane_10 (by decide) ?_
      exact x_zret X hW rfl (Or.inr (by decide)) () (Or.inl ⟨rfl, by first | exact inR_of' c1 c6 (by decide) | exact inR_neg c1 | exact inR_big' c6 (by decide)⟩) rfl dX5_isLane_14
set_option maxHeartbeats 4000000 in
set_option maxRecDepth 100000 in
theorem c_X5_isPlaceOfRow (l : Launch) (D : va_G) (cI cZ cO : ClassId)  (sz : Nat) (k : Int32)   : Met l yX5_isPlaceOfRow wsX5_isPlaceOfRow ({ frames := 0, cells := 0, slots := 0, locals := 0 }) (va_Pc [.int k] (st_W D (ty3 cI cZ cO) ([] : va_W) sz)) (va_Qi (fun (rr : Int32) (u : Unit) => (rr = nI 1 ∧ (okK k) ∨ rr = nI 0 ∧ ¬ (okK k))) (fun u t => at_W D (ty3 cI cZ cO) (va_A ([] : va_W) sz) ([] : va_W) t) (va_A ([] : va_W) sz)) 0 0 (va_A ([] : va_W) sz) := by
  refine Met.goi (cc := cX5_isPlaceOfRow) (maxL := 1) (ret := (some .boolean)) (by decide) rfl (Nat.le_of_ble_eq_true rfl) (fun p e s m below meth c A ls X hW hl => ?_)
  have hl : lv_has ls 1 [(0, .int k)] := hl
  refine x_iload_n X dX5_isPlaceOfRow_0 rfl (lv_at hl 0 rfl) ?_
  refine x_iconst (v := (-1 : Int32)) X dX5_isPlaceOfRow_1 (by decide) ?_
  refine x_icmp_lt X 15 dX5_isPlaceOfRow_2 (by decide) (fun c2 => ?_) (fun c2 => ?_)
  · refine x_iconst (v := nI 0) X dX5_isPlaceOfRow_15 (by decide) ?_
    exact x_zret X hW rfl (Or.inl (by decide)) () (Or.inr ⟨rfl, by first | exact okK_of c2 c8 | exact okK_lo c2 | exact okK_hi c8⟩) rfl dX5_isPlaceOfRow_16
  · refine x_iload_n X dX5_isPlaceOfRow_5 rfl (lv_at hl 0 rfl) ?_
    refine x_bipush (v := nI 40) X dX5_isPlaceOfRow_6 (by decide) ?_
    refine x_icmp_ge X 15 dX5_isPlaceOfRow_8 (by decide) (fun c8 => ?_) (fun c8 => ?_)
    · refine x_iconst (v := nI 0) X dX5_isPlaceOfRow_15 (by decide) ?_
      exact x_zret X hW rfl (Or.inl (by decide)) () (Or.inr ⟨rfl, by first | exact okK_of c2 c8 | exact okK_lo c2 | exact okK_hi c8⟩) rfl dX5_isPlaceOfRow_16
    · refine x_iconst (v := nI 1) X dX5_isPlaceOfRow_11 (by decide) ?_
      refine x_goto X 16 dX5_isPlaceOfRow_12 (by decide) ?_
      exact x_zret X hW rfl (Or.inr (by decide)) () (Or.inl ⟨rfl, by first | exact okK_of c2 c8 | exact okK_lo c2 | exact okK_hi c8⟩) rfl dX5_isPlaceOfRow_16
set_option maxHeartbeats 4000000 in
set_option maxRecDepth 100000 in
theorem c_X5_isWhatOfActs (l : Launch) (D : va_G) (cI cZ cO : ClassId)  (sz : Nat) (w : Int32)   : Met l yX5_isWhatOfActs wsX5_isWhatOfActs ({ frames := 1, cells := 0, slots := 0, locals := 21 }) (va_Pc [.int w] (st_W D (ty3 cI cZ cO) ([] : va_W) sz)) (va_Qi (fun (rr : Int32) (u : Unit) => (rr = nI 1 ∧ (whatOK w) ∨ rr = nI 0 ∧ ¬ (whatOK w))) (fun u t => at_W D (ty3 cI cZ cO) (va_A ([] : va_W) sz) ([] : va_W) t) (va_A ([] : va_W) sz)) 0 0 (va_A ([] : va_W) sz) := by
  refine Met.goi (cc := cX5_isWhatOfActs) (maxL := 1) (ret := (some .boolean)) (by decide) rfl (Nat.le_of_ble_eq_true rfl) (fun p e s m below meth c A ls X hW hl => ?_)
  have hl : lv_has ls 1 [(0, .int w)] := hl
  refine x_iload_n X dX5_isWhatOfActs_0 rfl (lv_at hl 0 rfl) ?_
  refine x_iconst (v := nI 3) X dX5_isWhatOfActs_1 (by decide) ?_
  refine x_callSie X hW (As := [.int w, .int (nI 3)]) (rest := []) (c_X5_isFrom0To l D cI cZ cO  _ w 3 4 (show 3 + 1 = 4 from (by first | assumption | omega)) (show 3 < 1000 from (by first | assumption | omega))) (va_cwS 2 X.2.2.2.2.2.1 gX5_isWhatOfActs_X5_isFrom0To rfl rfl rfl (by decide +kernel) ⟨Nat.le_of_ble_eq_true rfl, Nat.le_of_ble_eq_true rfl⟩) rfl hl.1 rfl (Nat.le_of_ble_eq_true rfl) ⟨Nat.le_of_ble_eq_true rfl, Nat.le_of_ble_eq_true rfl⟩ dX5_isWhatOfActs_2 (fun r1 u2 H locs w2 hW => ?_)
  have hW : Wd D A s.heap H locs ([] : va_W) := hW
  replace w2 : (r1 = nI 1 ∧ (inR w 4) ∨ r1 = nI 0 ∧ ¬ (inR w 4)) := w2
  rcases w2 with ⟨w2, h2⟩ | ⟨w2, h2⟩
  · subst w2
    refine n_if_ne X 20 dX5_isWhatOfActs_5 (by decide) (by decide) (fun c5 => ?_) (fun c5 => by exact absurd c5 (by decide))
    refine x_iconst (v := nI 1) X dX5_isWhatOfActs_20 (by decide) ?_
    refine x_goto X 25 dX5_isWhatOfActs_21 (by decide) ?_
    exact x_zret X hW rfl (Or.inr (by decide)) () (Or.inl ⟨rfl, by first | exact Or.inl h2 | exact what_of c11 c17 | exact what_lo h2 c11 | exact what_hi h2 c17⟩) rfl dX5_isWhatOfActs_25
  · subst w2
    refine n_if_ne X 20 dX5_isWhatOfActs_5 (by decide) (by decide) (fun c5 => by exact absurd c5 (by decide)) (fun c5 => ?_)
    refine x_iload_n X dX5_isWhatOfActs_8 rfl (lv_at hl 0 rfl) ?_
    refine x_bipush (v := nI 10) X dX5_isWhatOfActs_9 (by decide) ?_
    refine x_icmp_lt X 24 dX5_isWhatOfActs_11 (by decide) (fun c11 => ?_) (fun c11 => ?_)
    · refine x_iconst (v := nI 0) X dX5_isWhatOfActs_24 (by decide) ?_
      exact x_zret X hW rfl (Or.inl (by decide)) () (Or.inr ⟨rfl, by first | exact Or.inl h2 | exact what_of c11 c17 | exact what_lo h2 c11 | exact what_hi h2 c17⟩) rfl dX5_isWhatOfActs_25
    · refine x_iload_n X dX5_isWhatOfActs_14 rfl (lv_at hl 0 rfl) ?_
      refine x_bipush (v := nI 14) X dX5_isWhatOfActs_15 (by decide) ?_
      refine x_icmp_ge X 24 dX5_isWhatOfActs_17 (by decide) (fun c17 => ?_) (fun c17 => ?_)
      · refine x_iconst (v := nI 0) X dX5_isWhatOfActs_24 (by decide) ?_
        exact x_zret X hW rfl (Or.inl (by decide)) () (Or.inr ⟨rfl, by first | exact Or.inl h2 | exact what_of c11 c17 | exact what_lo h2 c11 | exact what_hi h2 c17⟩) rfl dX5_isWhatOfActs_25
      · refine x_iconst (v := nI 1) X dX5_isWhatOfActs_20 (by decide) ?_
        refine x_goto X 25 dX5_isWhatOfActs_21 (by decide) ?_
        exact x_zret X hW rfl (Or.inr (by decide)) () (Or.inl ⟨rfl, by first | exact Or.inl h2 | exact what_of c11 c17 | exact what_lo h2 c11 | exact what_hi h2 c17⟩) rfl dX5_isWhatOfActs_25
set_option maxHeartbeats 4000000 in
set_option maxRecDepth 100000 in
theorem c_X5_faulted (l : Launch) (D : va_G) (cI cZ cO : ClassId) (xq : Nat) (xa : Nat → Nat) (xg : Nat → Nat) (xh : Nat → Int32) (sz : Nat) (f : Nat)   : Met l yX5_faulted wsX5_faulted ({ frames := 0, cells := 0, slots := 0, locals := 0 }) (va_Pc [.ref xq, .int (nI f)] (st_W D (ty3 cI cZ cO) (wX cI cZ xq xa xg xh) sz)) (va_Qi (fun (rr : Int32) (u : Unit) => rr = (-10) - nI f) (fun u t => at_W D (ty3 cI cZ cO) (va_A (wX cI cZ xq xa xg xh) sz) (wX cI cZ xq xa (sF xg 6 f) xh) t) (va_A (wX cI cZ xq xa xg xh) sz)) 0 0 (va_A (wX cI cZ xq xa xg xh) sz) := by
  refine Met.goi (cc := cX5_faulted) (maxL := 2) (ret := (some .int)) (by decide) rfl (Nat.le_of_ble_eq_true rfl) (fun p e s m below meth c A ls X hW hl => ?_)
  have hi5 : ∀ w ∈ wsX50, w ∈ wsX5_faulted := fun w h => List.mem_cons_of_mem _ (List.mem_append_right _ h)
  have hl : lv_has ls 2 [(0, .ref xq), (1, .int (nI f))] := hl
  refine x_aload_n X dX5_faulted_0 rfl (lv_at hl 0 rfl) ?_
  refine x_iload_n X dX5_faulted_1 rfl (lv_at hl 1 rfl) ?_
  refine x_put X hW (v := .int (nI f)) hi5 tyX5 tyX5_ok nmX5 0 rfl rfl 6 (by decide) (List.mem_of_getElem? (i := 1) rfl) rfl rfl rfl rfl (Nat.le_of_ble_eq_true rfl) dX5_faulted_2 (wX cI cZ xq xa (sF xg 6 f) xh) rfl (fun H locs hW => ?_)
  refine x_bipush (v := (-10 : Int32)) X dX5_faulted_5 (by decide) ?_
  refine x_iload_n X dX5_faulted_7 rfl (lv_at hl 1 rfl) ?_
  refine x_isub (v := (-10 : Int32) - (nI f)) X dX5_faulted_8 rfl ?_
  exact x_iret X hW rfl () ((by first | rfl | assumption | omega)) rfl dX5_faulted_9
set_option maxHeartbeats 4000000 in
set_option maxRecDepth 100000 in
theorem c_X5_leave (l : Launch) (D : va_G) (cI cZ cO : ClassId) (xq : Nat) (xa : Nat → Nat) (xg : Nat → Nat) (xh : Nat → Int32) (sz : Nat) (b : Nat)   : Met l yX5_leave wsX5_leave ({ frames := 0, cells := 0, slots := 0, locals := 0 }) (va_Pc [.ref xq, .int (nI b)] (st_W D (ty3 cI cZ cO) (wX cI cZ xq xa xg xh) sz)) (va_Qv (fun (u : Unit) => True) (fun u t => at_W D (ty3 cI cZ cO) (va_A (wX cI cZ xq xa xg xh) sz) (wX cI cZ xq xa xg (sF xh 5 (trk b (xh 5)))) t) (va_A (wX cI cZ xq xa xg xh) sz)) 0 0 (va_A (wX cI cZ xq xa xg xh) sz) := by
  refine Met.gov (cc := cX5_leave) (maxL := 2) (ret := none) (by decide) rfl (Nat.le_of_ble_eq_true rfl) (fun p e s m below meth c A ls X hW hl => ?_)
  have hi5 : ∀ w ∈ wsX50, w ∈ wsX5_leave := fun w h => List.mem_cons_of_mem _ (List.mem_append_right _ h)
  have hl : lv_has ls 2 [(0, .ref xq), (1, .int (nI b))] := hl
  refine x_aload_n X dX5_leave_0 rfl (lv_at hl 0 rfl) ?_
  refine x_bipush (v := nI 31) X dX5_leave_1 (by decide) ?_
  refine x_aload_n X dX5_leave_3 rfl (lv_at hl 0 rfl) ?_
  refine x_get X hW (v := .int (xh 5)) hi5 0 rfl rfl 5 (by decide) (List.mem_of_getElem? (i := 1) rfl) rfl rfl dX5_leave_4 ?_
  refine x_imul (v := (nI 31) * (xh 5)) X dX5_leave_7 rfl ?_
  refine x_iload_n X dX5_leave_8 rfl (lv_at hl 1 rfl) ?_
  refine x_iadd (v := (nI 31) * (xh 5) + nI b) X dX5_leave_9 rfl ?_
  refine x_put X hW (v := .int ((nI 31) * (xh 5) + nI b)) hi5 tyX5 tyX5_ok nmX5 0 rfl rfl 5 (by decide) (List.mem_of_getElem? (i := 1) rfl) rfl rfl rfl rfl (Nat.le_of_ble_eq_true rfl) dX5_leave_10 (wX cI cZ xq xa xg (sF xh 5 ((nI 31) * (xh 5) + nI b))) rfl (fun H locs hW => ?_)
  exact x_vret X hW rfl () (trivial) (congrArg (fun z => (wX cI cZ xq xa xg (sF xh 5 z))) (show ((nI 31) * (xh 5) + nI b) = (trk b (xh 5)) from by first | rfl | omega)) dX5_leave_13
set_option maxHeartbeats 4000000 in
set_option maxRecDepth 100000 in
theorem c_X5_trace (l : Launch) (D : va_G) (cI cZ cO : ClassId) (xq : Nat) (xa : Nat → Nat) (xg : Nat → Nat) (xh : Nat → Int32) (sz : Nat)    : Met l yX5_trace wsX5_trace ({ frames := 0, cells := 0, slots := 0, locals := 0 }) (va_Pc [.ref xq] (st_W D (ty3 cI cZ cO) (wX cI cZ xq xa xg xh) sz)) (va_Qi (fun (rr : Int32) (u : Unit) => rr = xh 5) (fun u t => at_W D (ty3 cI cZ cO) (va_A (wX cI cZ xq xa xg xh) sz) (wX cI cZ xq xa xg xh) t) (va_A (wX cI cZ xq xa xg xh) sz)) 0 0 (va_A (wX cI cZ xq xa xg xh) sz) := by
  refine Met.goi (cc := cX5_trace) (maxL := 1) (ret := (some .int)) (by decide) rfl (Nat.le_of_ble_eq_true rfl) (fun p e s m below meth c A ls X hW hl => ?_)
  have hi5 : ∀ w ∈ wsX50, w ∈ wsX5_trace := fun w h => List.mem_cons_of_mem _ (List.mem_append_right _ h)
  have hl : lv_has ls 1 [(0, .ref xq)] := hl
  refine x_aload_n X dX5_trace_0 rfl (lv_at hl 0 rfl) ?_
  refine x_get X hW (v := .int (xh 5)) hi5 0 rfl rfl 5 (by decide) (List.mem_of_getElem? (i := 1) rfl) rfl rfl dX5_trace_1 ?_
  exact x_iret X hW rfl () (rfl) rfl dX5_trace_4
set_option maxHeartbeats 4000000 in
set_option maxRecDepth 100000 in
theorem c_X5_fault (l : Launch) (D : va_G) (cI cZ cO : ClassId) (xq : Nat) (xa : Nat → Nat) (xg : Nat → Nat) (xh : Nat → Int32) (sz : Nat)    : Met l yX5_fault wsX5_fault ({ frames := 0, cells := 0, slots := 0, locals := 0 }) (va_Pc [.ref xq] (st_W D (ty3 cI cZ cO) (wX cI cZ xq xa xg xh) sz)) (va_Qi (fun (rr : Int32) (u : Unit) => rr = nI (xg 6)) (fun u t => at_W D (ty3 cI cZ cO) (va_A (wX cI cZ xq xa xg xh) sz) (wX cI cZ xq xa xg xh) t) (va_A (wX cI cZ xq xa xg xh) sz)) 0 0 (va_A (wX cI cZ xq xa xg xh) sz) := by
  refine Met.goi (cc := cX5_fault) (maxL := 1) (ret := (some .int)) (by decide) rfl (Nat.le_of_ble_eq_true rfl) (fun p e s m below meth c A ls X hW hl => ?_)
  have hi5 : ∀ w ∈ wsX50, w ∈ wsX5_fault := fun w h => List.mem_cons_of_mem _ (List.mem_append_right _ h)
  have hl : lv_has ls 1 [(0, .ref xq)] := hl
  refine x_aload_n X dX5_fault_0 rfl (lv_at hl 0 rfl) ?_
  refine x_get X hW (v := .int (nI (xg 6))) hi5 0 rfl rfl 6 (by decide) (List.mem_of_getElem? (i := 1) rfl) rfl rfl dX5_fault_1 ?_
  exact x_iret X hW rfl () ((by first | rfl | assumption | omega)) rfl dX5_fault_4
set_option maxHeartbeats 4000000 in
set_option maxRecDepth 100000 in
theorem c_X5_ofReach (l : Launch) (D : va_G) (cI cZ cO : ClassId) (xq : Nat) (xa : Nat → Nat) (xg : Nat → Nat) (xh : Nat → Int32) (ca : Nat → Nat) (cg : Nat → Nat) (cF : Nat → Nat → Nat) (sz : Nat) (r : Int32) (w : Int32)  (hn : cg 0 ≤ 4) (hk : ∀ z0, cF 2 z0 ≤ 2) (hm : ∀ z0, cF 4 z0 ≤ 9) : Met l yX5_ofReach wsX5_ofReach ({ frames := 3, cells := 0, slots := 0, locals := 64 }) (va_Pc [.ref xq, .int r, .int w] (st_W D (ty3 cI cZ cO) (wX cI cZ xq xa xg xh ++ (wC cI cZ (xa 1) ca cg cF)) sz)) (va_Qi (fun (rr : Int32) (u : Unit) => rr = aOf (cg 0) (cF 2) (cF 3) (cF 4) r w) (fun u t => at_W D (ty3 cI cZ cO) (va_A (wX cI cZ xq xa xg xh ++ (wC cI cZ (xa 1) ca cg cF)) sz) (wX cI cZ xq xa xg xh ++ (wC cI cZ (xa 1) ca cg cF)) t) (va_A (wX cI cZ xq xa xg xh ++ (wC cI cZ (xa 1) ca cg cF)) sz)) 0 0 (va_A (wX cI cZ xq xa xg xh ++ (wC cI cZ (xa 1) ca cg cF)) sz) := by
  refine Met.goi (cc := cX5_ofReach) (maxL := 3) (ret := (some .int)) (by decide) rfl (Nat.le_of_ble_eq_true rfl) (fun p e s m below meth c A ls X hW hl => ?_)
  have hi5 : ∀ w ∈ wsX50, w ∈ wsX5_ofReach := fun w h => List.mem_cons_of_mem _ (List.mem_append_left _ (List.mem_append_right _ h))
  have hi0 : ∀ w ∈ wsX00, w ∈ wsX5_ofReach := fun w h => List.mem_cons_of_mem _ (List.mem_append_right _ h)
  have hl : lv_has ls 3 [(0, .ref xq), (1, .int r), (2, .int w)] := hl
  refine x_aload_n X dX5_ofReach_0 rfl (lv_at hl 0 rfl) ?_
  refine x_get X hW (v := .ref (xa 1)) hi5 0 rfl rfl 1 (by decide) (List.mem_of_getElem? (i := 1) rfl) rfl rfl dX5_ofReach_1 ?_
  refine x_iload_n X dX5_ofReach_4 rfl (lv_at hl 1 rfl) ?_
  refine x_callVi X hW (As := [.int r]) (rest := []) (wz := fun u => (wX cI cZ xq xa xg xh ++ (wC cI cZ (xa 1) ca cg cF))) (c_X0_has l D cI cZ cO (xa 1) ca cg cF _ r (show (cg 0) ≤ 4 from (by first | assumption | omega))) (cwV 1 X.2.2.2.2.2.1 gX5_ofReach_X0_has rfl rfl rfl (by decide +kernel) ⟨Nat.le_of_ble_eq_true rfl, Nat.le_of_ble_eq_true rfl⟩) 1 0 rfl rfl rfl [1, 2, 3, 4] [0] [0, 1, 2, 3, 4] rfl rfl (by decide) (fun _ => rfl) rfl hl.1 rfl (Nat.le_of_ble_eq_true rfl) ⟨Nat.le_of_ble_eq_true rfl, Nat.le_of_ble_eq_true rfl⟩ dX5_ofReach_5 (fun r1 u2 H locs w5 hW => ?_)
  have hW : Wd D A s.heap H locs (wX cI cZ xq xa xg xh ++ (wC cI cZ (xa 1) ca cg cF)) := hW
  replace w5 : (r1 = nI 1 ∧ (inR r ((cg 0))) ∨ r1 = nI 0 ∧ ¬ (inR r ((cg 0)))) := w5
  rcases w5 with ⟨w5, h5⟩ | ⟨w5, h5⟩
  · subst w5
    obtain ⟨j, hj, rfl⟩ := inR_ex ((Iff.refl (inR r (cg 0))).mp h5) (by omega)
    refine n_if_ne X 13 dX5_ofReach_8 (by decide) (by decide) (fun c8 => ?_) (fun c8 => by exact absurd c8 (by decide))
    refine x_iload_n X dX5_ofReach_13 rfl (lv_at hl 2 rfl) ?_
    rcases (show ¬ inR w 4 ∨ w = nI 0 ∨ w = nI 1 ∨ w = nI 2 ∨ w = nI 3 from sw4 w) with hq | rfl | rfl | rfl | rfl
    · have gw := hq
      refine lv_tableOut (tgt := 80) X.1 X.2.1 dX5_ofReach_14 (by have z1 := gw; omega) (by decide) ?_
      refine x_bipush (v := (-2 : Int32)) X dX5_ofReach_80 (by decide) ?_
      exact x_iret X hW rfl () ((by unfold aOf; (try rw [onR_in hj (by omega)]); (try rw [onR_out gw]); (try rfl))) rfl dX5_ofReach_82
    · refine lv_tableIn (off := 30) (tgt := 44) X.1 X.2.1 dX5_ofReach_14 (by decide) (by decide) (by decide) (by decide) ?_
      refine x_aload_n X dX5_ofReach_44 rfl (lv_at hl 0 rfl) ?_
      refine x_get X hW (v := .ref (xa 1)) hi5 0 rfl rfl 1 (by decide) (List.mem_of_getElem? (i := 1) rfl) rfl rfl dX5_ofReach_45 ?_
      refine x_iload_n X dX5_ofReach_48 rfl (lv_at hl 1 rfl) ?_
      refine x_callVi X hW (As := [.int (nI j)]) (rest := []) (wz := fun u => (wX cI cZ xq xa xg xh ++ (wC cI cZ (xa 1) ca cg cF))) (c_X0_kindOf l D cI cZ cO (xa 1) ca cg cF _ j (show j < (cg 0) from (by first | assumption | omega)) (show (cg 0) ≤ 4 from (by first | assumption | omega))) (cwV 1 X.2.2.2.2.2.1 gX5_ofReach_X0_kindOf rfl rfl rfl (by decide +kernel) ⟨Nat.le_of_ble_eq_true rfl, Nat.le_of_ble_eq_true rfl⟩) 1 0 rfl rfl rfl [1, 2, 3, 4] [0] [0, 1, 2, 3, 4] rfl rfl (by decide) (fun _ => rfl) rfl hl.1 rfl (Nat.le_of_ble_eq_true rfl) ⟨Nat.le_of_ble_eq_true rfl, Nat.le_of_ble_eq_true rfl⟩ dX5_ofReach_49 (fun r3 u4 H locs w49 hW => ?_)
      have hW : Wd D A s.heap H locs (wX cI cZ xq xa xg xh ++ (wC cI cZ (xa 1) ca cg cF)) := hW
      replace w49 : r3 = nI ((cF 2) j) := w49
      subst w49
      exact x_iret X hW rfl () ((by unfold aOf; (try rw [onR_in hj (by omega)]); (try rw [onR_in (by decide) (by decide)]); (try rw [aOf0]); (try rfl))) rfl dX5_ofReach_52
    · refine lv_tableIn (off := 39) (tgt := 53) X.1 X.2.1 dX5_ofReach_14 (by decide) (by decide) (by decide) (by decide) ?_
      refine x_aload_n X dX5_ofReach_53 rfl (lv_at hl 0 rfl) ?_
      refine x_get X hW (v := .ref (xa 1)) hi5 0 rfl rfl 1 (by decide) (List.mem_of_getElem? (i := 1) rfl) rfl rfl dX5_ofReach_54 ?_
      refine x_iload_n X dX5_ofReach_57 rfl (lv_at hl 1 rfl) ?_
      refine x_callVi X hW (As := [.int (nI j)]) (rest := []) (wz := fun u => (wX cI cZ xq xa xg xh ++ (wC cI cZ (xa 1) ca cg cF))) (c_X0_levelOf l D cI cZ cO (xa 1) ca cg cF _ j (show j < (cg 0) from (by first | assumption | omega)) (show (cg 0) ≤ 4 from (by first | assumption | omega))) (cwV 1 X.2.2.2.2.2.1 gX5_ofReach_X0_levelOf rfl rfl rfl (by decide +kernel) ⟨Nat.le_of_ble_eq_true rfl, Nat.le_of_ble_eq_true rfl⟩) 1 0 rfl rfl rfl [1, 2, 3, 4] [0] [0, 1, 2, 3, 4] rfl rfl (by decide) (fun _ => rfl) rfl hl.1 rfl (Nat.le_of_ble_eq_true rfl) ⟨Nat.le_of_ble_eq_true rfl, Nat.le_of_ble_eq_true rfl⟩ dX5_ofReach_58 (fun r5 u6 H locs w58 hW => ?_)
      have hW : Wd D A s.heap H locs (wX cI cZ xq xa xg xh ++ (wC cI cZ (xa 1) ca cg cF)) := hW
      replace w58 : r5 = nI ((cF 3) j) := w58
      subst w58
      exact x_iret X hW rfl () ((by unfold aOf; (try rw [onR_in hj (by omega)]); (try rw [onR_in (by decide) (by decide)]); (try rw [aOf1]); (try rfl))) rfl dX5_ofReach_61
    · refine lv_tableIn (off := 48) (tgt := 62) X.1 X.2.1 dX5_ofReach_14 (by decide) (by decide) (by decide) (by decide) ?_
      refine x_aload_n X dX5_ofReach_62 rfl (lv_at hl 0 rfl) ?_
      refine x_get X hW (v := .ref (xa 1)) hi5 0 rfl rfl 1 (by decide) (List.mem_of_getElem? (i := 1) rfl) rfl rfl dX5_ofReach_63 ?_
      refine x_iload_n X dX5_ofReach_66 rfl (lv_at hl 1 rfl) ?_
      refine x_callVi X hW (As := [.int (nI j)]) (rest := []) (wz := fun u => (wX cI cZ xq xa xg xh ++ (wC cI cZ (xa 1) ca cg cF))) (c_X0_limitOf l D cI cZ cO (xa 1) ca cg cF _ j (show j < (cg 0) from (by first | assumption | omega)) (show (cg 0) ≤ 4 from (by first | assumption | omega))) (cwV 1 X.2.2.2.2.2.1 gX5_ofReach_X0_limitOf rfl rfl rfl (by decide +kernel) ⟨Nat.le_of_ble_eq_true rfl, Nat.le_of_ble_eq_true rfl⟩) 1 0 rfl rfl rfl [1, 2, 3, 4] [0] [0, 1, 2, 3, 4] rfl rfl (by decide) (fun _ => rfl) rfl hl.1 rfl (Nat.le_of_ble_eq_true rfl) ⟨Nat.le_of_ble_eq_true rfl, Nat.le_of_ble_eq_true rfl⟩ dX5_ofReach_67 (fun r7 u8 H locs w67 hW => ?_)
      have hW : Wd D A s.heap H locs (wX cI cZ xq xa xg xh ++ (wC cI cZ (xa 1) ca cg cF)) := hW
      replace w67 : r7 = nI ((cF 4) j) := w67
      subst w67
      exact x_iret X hW rfl () ((by unfold aOf; (try rw [onR_in hj (by omega)]); (try rw [onR_in (by decide) (by decide)]); (try rw [aOf2]); (try rfl))) rfl dX5_ofReach_70
    · refine lv_tableIn (off := 57) (tgt := 71) X.1 X.2.1 dX5_ofReach_14 (by decide) (by decide) (by decide) (by decide) ?_
      refine x_aload_n X dX5_ofReach_71 rfl (lv_at hl 0 rfl) ?_
      refine x_get X hW (v := .ref (xa 1)) hi5 0 rfl rfl 1 (by decide) (List.mem_of_getElem? (i := 1) rfl) rfl rfl dX5_ofReach_72 ?_
      refine x_iload_n X dX5_ofReach_75 rfl (lv_at hl 1 rfl) ?_
      refine x_callVi X hW (As := [.int (nI j)]) (rest := []) (wz := fun u => (wX cI cZ xq xa xg xh ++ (wC cI cZ (xa 1) ca cg cF))) (c_X0_wantOf l D cI cZ cO (xa 1) ca cg cF _ j (show j < (cg 0) from (by first | assumption | omega)) (show (cg 0) ≤ 4 from (by first | assumption | omega)) (show ∀ z0, (cF 2) z0 ≤ 2 from (by first | assumption | omega)) (show ∀ z0, (cF 4) z0 ≤ 9 from (by first | assumption | omega))) (cwV 1 X.2.2.2.2.2.1 gX5_ofReach_X0_wantOf rfl rfl rfl (by decide +kernel) ⟨Nat.le_of_ble_eq_true rfl, Nat.le_of_ble_eq_true rfl⟩) 1 0 rfl rfl rfl [1, 2, 3, 4] [0] [0, 1, 2, 3, 4] rfl rfl (by decide) (fun _ => rfl) rfl hl.1 rfl (Nat.le_of_ble_eq_true rfl) ⟨Nat.le_of_ble_eq_true rfl, Nat.le_of_ble_eq_true rfl⟩ dX5_ofReach_76 (fun r9 u10 H locs w76 hW => ?_)
      have hW : Wd D A s.heap H locs (wX cI cZ xq xa xg xh ++ (wC cI cZ (xa 1) ca cg cF)) := hW
      replace w76 : r9 = nI (want ((cF 2) j) ((cF 4) j)) := w76
      subst w76
      have b1 := hk j
      exact x_iret X hW rfl () ((by unfold aOf; (try rw [onR_in hj (by omega)]); (try rw [onR_in (by decide) (by decide)]); (try rw [aOf3]); (try rfl))) rfl dX5_ofReach_79
  · subst w5
    have gr := fun q => h5 ((Iff.refl (inR r (cg 0))).mpr q)
    refine n_if_ne X 13 dX5_ofReach_8 (by decide) (by decide) (fun c8 => by exact absurd c8 (by decide)) (fun c8 => ?_)
    refine x_iconst (v := (-1 : Int32)) X dX5_ofReach_11 (by decide) ?_
    exact x_iret X hW rfl () ((by unfold aOf; (try rw [onR_out gr]); (try rfl))) rfl dX5_ofReach_12
set_option maxHeartbeats 4000000 in
set_option maxRecDepth 100000 in
theorem c_X5_fill (l : Launch) (D : va_G) (cI cZ cO : ClassId) (xq : Nat) (xa : Nat → Nat) (xg : Nat → Nat) (xh : Nat → Int32) (ca : Nat → Nat) (cg : Nat → Nat) (cF : Nat → Nat → Nat) (sz : Nat) (r : Int32) (v : Int32)  (hn : cg 0 ≤ 4) : Met l yX5_fill wsX5_fill ({ frames := 2, cells := 0, slots := 0, locals := 44 }) (va_Pc [.ref xq, .int r, .int v] (st_W D (ty3 cI cZ cO) (wX cI cZ xq xa xg xh ++ (wC cI cZ (xa 1) ca cg cF)) sz)) (va_Qi (fun (rr : Int32) (u : Unit) => rr = aFill (cg 0) (cF 3) r v) (fun u t => at_W D (ty3 cI cZ cO) (va_A (wX cI cZ xq xa xg xh ++ (wC cI cZ (xa 1) ca cg cF)) sz) (wX cI cZ xq xa xg xh ++ (wC cI cZ (xa 1) ca cg (sF cF 3 (sFill (cg 0) (cF 3) r v)))) t) (va_A (wX cI cZ xq xa xg xh ++ (wC cI cZ (xa 1) ca cg cF)) sz)) 0 0 (va_A (wX cI cZ xq xa xg xh ++ (wC cI cZ (xa 1) ca cg cF)) sz) := by
  refine Met.goi (cc := cX5_fill) (maxL := 4) (ret := (some .int)) (by decide) rfl (Nat.le_of_ble_eq_true rfl) (fun p e s m below meth c A ls X hW hl => ?_)
  have hi5 : ∀ w ∈ wsX50, w ∈ wsX5_fill := fun w h => List.mem_cons_of_mem _ (List.mem_append_left _ (List.mem_append_right _ h))
  have hi0 : ∀ w ∈ wsX00, w ∈ wsX5_fill := fun w h => List.mem_cons_of_mem _ (List.mem_append_right _ h)
  have hl : lv_has ls 4 [(0, .ref xq), (1, .int r), (2, .int v)] := hl
  refine x_aload_n X dX5_fill_0 rfl (lv_at hl 0 rfl) ?_
  refine x_get X hW (v := .ref (xa 1)) hi5 0 rfl rfl 1 (by decide) (List.mem_of_getElem? (i := 1) rfl) rfl rfl dX5_fill_1 ?_
  refine x_iload_n X dX5_fill_4 rfl (lv_at hl 1 rfl) ?_
  refine x_callVi X hW (As := [.int r]) (rest := []) (wz := fun u => (wX cI cZ xq xa xg xh ++ (wC cI cZ (xa 1) ca cg cF))) (c_X0_has l D cI cZ cO (xa 1) ca cg cF _ r (show (cg 0) ≤ 4 from (by first | assumption | omega))) (cwV 1 X.2.2.2.2.2.1 gX5_fill_X0_has rfl rfl rfl (by decide +kernel) ⟨Nat.le_of_ble_eq_true rfl, Nat.le_of_ble_eq_true rfl⟩) 1 0 rfl rfl rfl [1, 2, 3, 4] [0] [0, 1, 2, 3, 4] rfl rfl (by decide) (fun _ => rfl) rfl hl.1 rfl (Nat.le_of_ble_eq_true rfl) ⟨Nat.le_of_ble_eq_true rfl, Nat.le_of_ble_eq_true rfl⟩ dX5_fill_5 (fun r1 u2 H locs w5 hW => ?_)
  have hW : Wd D A s.heap H locs (wX cI cZ xq xa xg xh ++ (wC cI cZ (xa 1) ca cg cF)) := hW
  replace w5 : (r1 = nI 1 ∧ (inR r ((cg 0))) ∨ r1 = nI 0 ∧ ¬ (inR r ((cg 0)))) := w5
  rcases w5 with ⟨w5, h5⟩ | ⟨w5, h5⟩
  · subst w5
    obtain ⟨j, hj, rfl⟩ := inR_ex ((Iff.refl (inR r (cg 0))).mp h5) (by omega)
    refine n_if_ne X 13 dX5_fill_8 (by decide) (by decide) (fun c8 => ?_) (fun c8 => by exact absurd c8 (by decide))
    refine x_iload_n X dX5_fill_13 rfl (lv_at hl 2 rfl) ?_
    refine x_bipush (v := nI 9) X dX5_fill_14 (by decide) ?_
    refine x_callSie X hW (As := [.int v, .int (nI 9)]) (rest := []) (c_X5_isFrom0To l D cI cZ cO  _ v 9 10 (show 9 + 1 = 10 from (by first | assumption | omega)) (show 9 < 1000 from (by first | assumption | omega))) (va_cwS 2 X.2.2.2.2.2.1 gX5_fill_X5_isFrom0To rfl rfl rfl (by decide +kernel) ⟨Nat.le_of_ble_eq_true rfl, Nat.le_of_ble_eq_true rfl⟩) rfl hl.1 rfl (Nat.le_of_ble_eq_true rfl) ⟨Nat.le_of_ble_eq_true rfl, Nat.le_of_ble_eq_true rfl⟩ dX5_fill_16 (fun r3 u4 H locs w16 hW => ?_)
    have hW : Wd D A s.heap H locs (wX cI cZ xq xa xg xh ++ (wC cI cZ (xa 1) ca cg cF)) := hW
    replace w16 : (r3 = nI 1 ∧ (inR v 10) ∨ r3 = nI 0 ∧ ¬ (inR v 10)) := w16
    rcases w16 with ⟨w16, h16⟩ | ⟨w16, h16⟩
    · subst w16
      obtain ⟨k, hk, rfl⟩ := inR_ex ((Iff.refl (inR v 10)).mp h16) (by omega)
      refine n_if_ne X 25 dX5_fill_19 (by decide) (by decide) (fun c19 => ?_) (fun c19 => by exact absurd c19 (by decide))
      refine x_aload_n X dX5_fill_25 rfl (lv_at hl 0 rfl) ?_
      refine x_get X hW (v := .ref (xa 1)) hi5 0 rfl rfl 1 (by decide) (List.mem_of_getElem? (i := 1) rfl) rfl rfl dX5_fill_26 ?_
      refine x_iload_n X dX5_fill_29 rfl (lv_at hl 1 rfl) ?_
      refine x_callVi X hW (As := [.int (nI j)]) (rest := []) (wz := fun u => (wX cI cZ xq xa xg xh ++ (wC cI cZ (xa 1) ca cg cF))) (c_X0_levelOf l D cI cZ cO (xa 1) ca cg cF _ j (show j < (cg 0) from (by first | assumption | omega)) (show (cg 0) ≤ 4 from (by first | assumption | omega))) (cwV 1 X.2.2.2.2.2.1 gX5_fill_X0_levelOf rfl rfl rfl (by decide +kernel) ⟨Nat.le_of_ble_eq_true rfl, Nat.le_of_ble_eq_true rfl⟩) 1 0 rfl rfl rfl [1, 2, 3, 4] [0] [0, 1, 2, 3, 4] rfl rfl (by decide) (fun _ => rfl) rfl hl.1 rfl (Nat.le_of_ble_eq_true rfl) ⟨Nat.le_of_ble_eq_true rfl, Nat.le_of_ble_eq_true rfl⟩ dX5_fill_30 (fun r5 u6 H locs w30 hW => ?_)
      have hW : Wd D A s.heap H locs (wX cI cZ xq xa xg xh ++ (wC cI cZ (xa 1) ca cg cF)) := hW
      replace w30 : r5 = nI ((cF 3) j) := w30
      subst w30
      refine x_istore_n X [(3, .int (nI ((cF 3) j))), (0, .ref xq), (1, .int (nI j)), (2, .int (nI k))] dX5_fill_33 rfl hl (by decide) rfl (fun ls hl => ?_)
      refine x_aload_n X dX5_fill_34 rfl (lv_at hl 1 rfl) ?_
      refine x_get X hW (v := .ref (xa 1)) hi5 0 rfl rfl 1 (by decide) (List.mem_of_getElem? (i := 1) rfl) rfl rfl dX5_fill_35 ?_
      refine x_iload_n X dX5_fill_38 rfl (lv_at hl 2 rfl) ?_
      refine x_iconst (v := nI 1) X dX5_fill_39 (by decide) ?_
      refine x_iload_n X dX5_fill_40 rfl (lv_at hl 3 rfl) ?_
      refine x_callVv X hW (As := [.int (nI j), .int (nI 1), .int (nI k)]) (rest := []) (wz := fun u => (wX cI cZ xq xa xg xh ++ (wC cI cZ (xa 1) ca cg (sF cF 3 (sF ((cF 3)) j k))))) (c_X0_become1 l D cI cZ cO (xa 1) ca cg cF _ j k (show j < (cg 0) from (by first | assumption | omega)) (show (cg 0) ≤ 4 from (by first | assumption | omega))) (cwV 3 X.2.2.2.2.2.1 gX5_fill_X0_become rfl rfl rfl (by decide +kernel) ⟨Nat.le_of_ble_eq_true rfl, Nat.le_of_ble_eq_true rfl⟩) 1 0 rfl rfl rfl [1, 2, 3, 4] [0] [0, 1, 2, 3, 4] rfl rfl (by decide) (fun _ => rfl) rfl hl.1 rfl (Nat.le_of_ble_eq_true rfl) ⟨Nat.le_of_ble_eq_true rfl, Nat.le_of_ble_eq_true rfl⟩ dX5_fill_41 (fun u8 H locs w41 hW => ?_)
      have hW : Wd D A s.heap H locs (wX cI cZ xq xa xg xh ++ (wC cI cZ (xa 1) ca cg (sF cF 3 (sF ((cF 3)) j k)))) := hW
      replace w41 : True := w41
      refine x_iload_n X dX5_fill_44 rfl (lv_at hl 0 rfl) ?_
      exact x_iret X hW rfl () ((by unfold aFill; (try rw [onR_in hj (by omega)]); (try rw [onR_in hk (by omega)]); (try rfl))) (congrArg (fun z => (wX cI cZ xq xa xg xh ++ (wC cI cZ (xa 1) ca cg (sF cF 3 z)))) (show (sF ((cF 3)) j k) = (sFill (cg 0) (cF 3) (nI j) (nI k)) from by unfold sFill; (try rw [onR_in hj (by omega)]); (try rw [onR_in hk (by omega)]); (try rfl))) dX5_fill_45
    · subst w16
      have gv := fun q => h16 ((Iff.refl (inR v 10)).mpr q)
      refine n_if_ne X 25 dX5_fill_19 (by decide) (by decide) (fun c19 => by exact absurd c19 (by decide)) (fun c19 => ?_)
      refine x_bipush (v := (-2 : Int32)) X dX5_fill_22 (by decide) ?_
      exact x_iret X hW rfl () ((by unfold aFill; (try rw [onR_in hj (by omega)]); (try rw [onR_out gv]); (try rfl))) (congrArg (fun z => (wX cI cZ xq xa xg xh ++ (wC cI cZ (xa 1) ca cg (sF cF 3 z)))) (show (cF 3) = (sFill (cg 0) (cF 3) (nI j) v) from by unfold sFill; (try rw [onR_in hj (by omega)]); (try rw [onR_out gv]); (try rfl))) dX5_fill_24
  · subst w5
    have gr := fun q => h5 ((Iff.refl (inR r (cg 0))).mpr q)
    refine n_if_ne X 13 dX5_fill_8 (by decide) (by decide) (fun c8 => by exact absurd c8 (by decide)) (fun c8 => ?_)
    refine x_iconst (v := (-1 : Int32)) X dX5_fill_11 (by decide) ?_
    exact x_iret X hW rfl () ((by unfold aFill; (try rw [onR_out gr]); (try rfl))) (congrArg (fun z => (wX cI cZ xq xa xg xh ++ (wC cI cZ (xa 1) ca cg (sF cF 3 z)))) (show (cF 3) = (sFill (cg 0) (cF 3) r v) from by unfold sFill; (try rw [onR_out gr]); (try rfl))) dX5_fill_12
set_option maxHeartbeats 4000000 in
set_option maxRecDepth 100000 in
theorem c_X5_rain (l : Launch) (D : va_G) (cI cZ cO : ClassId) (xq : Nat) (xa : Nat → Nat) (xg : Nat → Nat) (xh : Nat → Int32) (ca : Nat → Nat) (cg : Nat → Nat) (cF : Nat → Nat → Nat) (sz : Nat) (v : Int32)  (hn : cg 0 ≤ 4) : Met l yX5_rain wsX5_rain ({ frames := 1, cells := 0, slots := 0, locals := 21 }) (va_Pc [.ref xq, .int v] (st_W D (ty3 cI cZ cO) (wX cI cZ xq xa xg xh ++ (wC cI cZ (xa 1) ca cg cF)) sz)) (va_Qi (fun (rr : Int32) (u : Unit) => rr = aRain (cg 0) (cg 1) v) (fun u t => at_W D (ty3 cI cZ cO) (va_A (wX cI cZ xq xa xg xh ++ (wC cI cZ (xa 1) ca cg cF)) sz) (wX cI cZ xq xa xg xh ++ (wC cI cZ (xa 1) ca (sF cg 1 (sRain (cg 0) (cg 1) v)) cF)) t) (va_A (wX cI cZ xq xa xg xh ++ (wC cI cZ (xa 1) ca cg cF)) sz)) 0 0 (va_A (wX cI cZ xq xa xg xh ++ (wC cI cZ (xa 1) ca cg cF)) sz) := by
  refine Met.goi (cc := cX5_rain) (maxL := 3) (ret := (some .int)) (by decide) rfl (Nat.le_of_ble_eq_true rfl) (fun p e s m below meth c A ls X hW hl => ?_)
  have hi5 : ∀ w ∈ wsX50, w ∈ wsX5_rain := fun w h => List.mem_cons_of_mem _ (List.mem_append_left _ (List.mem_append_right _ h))
  have hi0 : ∀ w ∈ wsX00, w ∈ wsX5_rain := fun w h => List.mem_cons_of_mem _ (List.mem_append_right _ h)
  have hl : lv_has ls 3 [(0, .ref xq), (1, .int v)] := hl
  refine x_iload_n X dX5_rain_0 rfl (lv_at hl 1 rfl) ?_
  refine x_iconst (v := nI 3) X dX5_rain_1 (by decide) ?_
  refine x_callSie X hW (As := [.int v, .int (nI 3)]) (rest := []) (c_X5_isFrom0To l D cI cZ cO  _ v 3 4 (show 3 + 1 = 4 from (by first | assumption | omega)) (show 3 < 1000 from (by first | assumption | omega))) (va_cwS 2 X.2.2.2.2.2.1 gX5_rain_X5_isFrom0To rfl rfl rfl (by decide +kernel) ⟨Nat.le_of_ble_eq_true rfl, Nat.le_of_ble_eq_true rfl⟩) rfl hl.1 rfl (Nat.le_of_ble_eq_true rfl) ⟨Nat.le_of_ble_eq_true rfl, Nat.le_of_ble_eq_true rfl⟩ dX5_rain_2 (fun r1 u2 H locs w2 hW => ?_)
  have hW : Wd D A s.heap H locs (wX cI cZ xq xa xg xh ++ (wC cI cZ (xa 1) ca cg cF)) := hW
  replace w2 : (r1 = nI 1 ∧ (inR v 4) ∨ r1 = nI 0 ∧ ¬ (inR v 4)) := w2
  rcases w2 with ⟨w2, h2⟩ | ⟨w2, h2⟩
  · subst w2
    obtain ⟨k, hk, rfl⟩ := inR_ex ((Iff.refl (inR v 4)).mp h2) (by omega)
    refine n_if_ne X 11 dX5_rain_5 (by decide) (by decide) (fun c5 => ?_) (fun c5 => by exact absurd c5 (by decide))
    refine x_aload_n X dX5_rain_11 rfl (lv_at hl 0 rfl) ?_
    refine x_get X hW (v := .ref (xa 1)) hi5 0 rfl rfl 1 (by decide) (List.mem_of_getElem? (i := 1) rfl) rfl rfl dX5_rain_12 ?_
    refine x_callVi X hW (As := []) (rest := []) (wz := fun u => (wX cI cZ xq xa xg xh ++ (wC cI cZ (xa 1) ca cg cF))) (c_X0_isNone l D cI cZ cO (xa 1) ca cg cF _ (show (cg 0) ≤ 4 from (by first | assumption | omega))) (cwV 0 X.2.2.2.2.2.1 gX5_rain_X0_isNone rfl rfl rfl (by decide +kernel) ⟨Nat.le_of_ble_eq_true rfl, Nat.le_of_ble_eq_true rfl⟩) 1 0 rfl rfl rfl [1, 2, 3, 4] [0] [0, 1, 2, 3, 4] rfl rfl (by decide) (fun _ => rfl) rfl hl.1 rfl (Nat.le_of_ble_eq_true rfl) ⟨Nat.le_of_ble_eq_true rfl, Nat.le_of_ble_eq_true rfl⟩ dX5_rain_15 (fun r3 u4 H locs w15 hW => ?_)
    have hW : Wd D A s.heap H locs (wX cI cZ xq xa xg xh ++ (wC cI cZ (xa 1) ca cg cF)) := hW
    replace w15 : (r3 = nI 1 ∧ ((cg 0) = 0) ∨ r3 = nI 0 ∧ ¬ ((cg 0) = 0)) := w15
    rcases w15 with ⟨w15, h15⟩ | ⟨w15, h15⟩
    · subst w15
      refine n_if_eq X 24 dX5_rain_18 (by decide) (by decide) (fun c18 => by exact absurd c18 (by decide)) (fun c18 => ?_)
      refine x_bipush (v := (-3 : Int32)) X dX5_rain_21 (by decide) ?_
      exact x_iret X hW rfl () ((by unfold aRain; (try rw [onR_in hk (by omega)]); (try rw [if_pos h15]); (try rfl))) (congrArg (fun z => (wX cI cZ xq xa xg xh ++ (wC cI cZ (xa 1) ca (sF cg 1 z) cF))) (show (cg 1) = (sRain (cg 0) (cg 1) (nI k)) from by unfold sRain; (try rw [onR_in hk (by omega)]); (try rw [if_pos h15]); (try rfl))) dX5_rain_23
    · subst w15
      refine n_if_eq X 24 dX5_rain_18 (by decide) (by decide) (fun c18 => ?_) (fun c18 => by exact absurd c18 (by decide))
      refine x_aload_n X dX5_rain_24 rfl (lv_at hl 0 rfl) ?_
      refine x_get X hW (v := .ref (xa 1)) hi5 0 rfl rfl 1 (by decide) (List.mem_of_getElem? (i := 1) rfl) rfl rfl dX5_rain_25 ?_
      refine x_get X hW (v := .int (nI (cg 1))) hi0 1 rfl rfl 1 (by decide) (List.mem_of_getElem? (i := 2) rfl) rfl rfl dX5_rain_28 ?_
      refine x_istore_n X [(2, .int (nI (cg 1))), (0, .ref xq), (1, .int (nI k))] dX5_rain_31 rfl hl (by decide) rfl (fun ls hl => ?_)
      refine x_aload_n X dX5_rain_32 rfl (lv_at hl 1 rfl) ?_
      refine x_get X hW (v := .ref (xa 1)) hi5 0 rfl rfl 1 (by decide) (List.mem_of_getElem? (i := 1) rfl) rfl rfl dX5_rain_33 ?_
      refine x_iload_n X dX5_rain_36 rfl (lv_at hl 2 rfl) ?_
      refine x_put X hW (v := .int (nI k)) hi0 tyX0 tyX0_ok nmX0 1 rfl rfl 1 (by decide) (List.mem_of_getElem? (i := 2) rfl) rfl rfl rfl rfl (Nat.le_of_ble_eq_true rfl) dX5_rain_37 (wX cI cZ xq xa xg xh ++ (wC cI cZ (xa 1) ca (sF cg 1 k) cF)) rfl (fun H locs hW => ?_)
      refine x_iload_n X dX5_rain_40 rfl (lv_at hl 0 rfl) ?_
      exact x_iret X hW rfl () ((by unfold aRain; (try rw [onR_in hk (by omega)]); (try rw [if_neg h15]); (try rfl))) (congrArg (fun z => (wX cI cZ xq xa xg xh ++ (wC cI cZ (xa 1) ca (sF cg 1 z) cF))) (show k = (sRain (cg 0) (cg 1) (nI k)) from by unfold sRain; (try rw [onR_in hk (by omega)]); (try rw [if_neg h15]); (try rfl))) dX5_rain_41
  · subst w2
    have gv := fun q => h2 ((Iff.refl (inR v 4)).mpr q)
    refine n_if_ne X 11 dX5_rain_5 (by decide) (by decide) (fun c5 => by exact absurd c5 (by decide)) (fun c5 => ?_)
    refine x_bipush (v := (-2 : Int32)) X dX5_rain_8 (by decide) ?_
    exact x_iret X hW rfl () ((by unfold aRain; (try rw [onR_out gv]); (try rfl))) (congrArg (fun z => (wX cI cZ xq xa xg xh ++ (wC cI cZ (xa 1) ca (sF cg 1 z) cF))) (show (cg 1) = (sRain (cg 0) (cg 1) v) from by unfold sRain; (try rw [onR_out gv]); (try rfl))) dX5_rain_10
set_option maxHeartbeats 4000000 in
set_option maxRecDepth 100000 in
theorem c_X5_gates (l : Launch) (D : va_G) (cI cZ cO : ClassId) (xq : Nat) (xa : Nat → Nat) (xg : Nat → Nat) (xh : Nat → Int32) (ca : Nat → Nat) (cg : Nat → Nat) (cF : Nat → Nat → Nat) (sz : Nat)   (h02 : cg 0 = 0 ∨ 2 ≤ cg 0) (hn : cg 0 ≤ 4) (hk : ∀ z0, cF 2 z0 ≤ 2) (hlv : ∀ z0, cF 3 z0 ≤ 9) (hm : ∀ z0, cF 4 z0 ≤ 9) : Met l yX5_gates wsX5_gates ({ frames := 5, cells := 0, slots := 0, locals := 107 }) (va_Pc [.ref xq] (st_W D (ty3 cI cZ cO) (wX cI cZ xq xa xg xh ++ (wC cI cZ (xa 1) ca cg cF)) sz)) (va_Qi (fun (rr : Int32) (u : Unit) => rr = aGates (cg 0) (cF 2) (cF 3) (cF 4)) (fun u t => at_W D (ty3 cI cZ cO) (va_A (wX cI cZ xq xa xg xh ++ (wC cI cZ (xa 1) ca cg cF)) sz) (wX cI cZ xq xa xg xh ++ (wC cI cZ (xa 1) ca cg cF)) t) (va_A (wX cI cZ xq xa xg xh ++ (wC cI cZ (xa 1) ca cg cF)) sz)) 0 0 (va_A (wX cI cZ xq xa xg xh ++ (wC cI cZ (xa 1) ca cg cF)) sz) := by
  refine Met.goi (cc := cX5_gates) (maxL := 1) (ret := (some .int)) (by decide) rfl (Nat.le_of_ble_eq_true rfl) (fun p e s m below meth c A ls X hW hl => ?_)
  have hi5 : ∀ w ∈ wsX50, w ∈ wsX5_gates := fun w h => List.mem_cons_of_mem _ (List.mem_append_left _ (List.mem_append_right _ h))
  have hi0 : ∀ w ∈ wsX00, w ∈ wsX5_gates := fun w h => List.mem_cons_of_mem _ (List.mem_append_right _ h)
  have hl : lv_has ls 1 [(0, .ref xq)] := hl
  refine x_aload_n X dX5_gates_0 rfl (lv_at hl 0 rfl) ?_
  refine x_get X hW (v := .ref (xa 1)) hi5 0 rfl rfl 1 (by decide) (List.mem_of_getElem? (i := 1) rfl) rfl rfl dX5_gates_1 ?_
  refine x_callVi X hW (As := []) (rest := []) (wz := fun u => (wX cI cZ xq xa xg xh ++ (wC cI cZ (xa 1) ca cg cF))) (c_X0_isNone l D cI cZ cO (xa 1) ca cg cF _ (show (cg 0) ≤ 4 from (by first | assumption | omega))) (cwV 0 X.2.2.2.2.2.1 gX5_gates_X0_isNone rfl rfl rfl (by decide +kernel) ⟨Nat.le_of_ble_eq_true rfl, Nat.le_of_ble_eq_true rfl⟩) 1 0 rfl rfl rfl [1, 2, 3, 4] [0] [0, 1, 2, 3, 4] rfl rfl (by decide) (fun _ => rfl) rfl hl.1 rfl (Nat.le_of_ble_eq_true rfl) ⟨Nat.le_of_ble_eq_true rfl, Nat.le_of_ble_eq_true rfl⟩ dX5_gates_4 (fun r1 u2 H locs w4 hW => ?_)
  have hW : Wd D A s.heap H locs (wX cI cZ xq xa xg xh ++ (wC cI cZ (xa 1) ca cg cF)) := hW
  replace w4 : (r1 = nI 1 ∧ ((cg 0) = 0) ∨ r1 = nI 0 ∧ ¬ ((cg 0) = 0)) := w4
  rcases w4 with ⟨w4, h4⟩ | ⟨w4, h4⟩
  · subst w4
    refine n_if_eq X 15 dX5_gates_7 (by decide) (by decide) (fun c7 => by exact absurd c7 (by decide)) (fun c7 => ?_)
    refine x_bipush (v := (-3 : Int32)) X dX5_gates_10 (by decide) ?_
    refine x_goto X 22 dX5_gates_12 (by decide) ?_
    exact x_iret X hW rfl () ((by unfold aGates; (try rw [if_pos h4]); (try rfl))) rfl dX5_gates_22
  · subst w4
    refine n_if_eq X 15 dX5_gates_7 (by decide) (by decide) (fun c7 => ?_) (fun c7 => by exact absurd c7 (by decide))
    refine x_aload_n X dX5_gates_15 rfl (lv_at hl 0 rfl) ?_
    refine x_get X hW (v := .ref (xa 1)) hi5 0 rfl rfl 1 (by decide) (List.mem_of_getElem? (i := 1) rfl) rfl rfl dX5_gates_16 ?_
    refine x_callVi X hW (As := []) (rest := []) (wz := fun u => (wX cI cZ xq xa xg xh ++ (wC cI cZ (xa 1) ca cg cF))) (c_X0_gatesThatMayBeOpened l D cI cZ cO (xa 1) ca cg cF _ (show 1 ≤ (cg 0) from (by omega)) (show (cg 0) ≤ 4 from (by first | assumption | omega)) (show ∀ z0, (cF 2) z0 ≤ 2 from (by first | assumption | omega)) (show ∀ z0, (cF 3) z0 ≤ 9 from (by first | assumption | omega)) (show ∀ z0, (cF 4) z0 ≤ 9 from (by first | assumption | omega))) (cwV 0 X.2.2.2.2.2.1 gX5_gates_X0_gatesThatMayBeOpened rfl rfl rfl (by decide +kernel) ⟨Nat.le_of_ble_eq_true rfl, Nat.le_of_ble_eq_true rfl⟩) 1 0 rfl rfl rfl [1, 2, 3, 4] [0] [0, 1, 2, 3, 4] rfl rfl (by decide) (fun _ => rfl) rfl hl.1 rfl (Nat.le_of_ble_eq_true rfl) ⟨Nat.le_of_ble_eq_true rfl, Nat.le_of_ble_eq_true rfl⟩ dX5_gates_19 (fun r3 u4 H locs w19 hW => ?_)
    have hW : Wd D A s.heap H locs (wX cI cZ xq xa xg xh ++ (wC cI cZ (xa 1) ca cg cF)) := hW
    replace w19 : r3 = setI (mayN ((cF 2)) ((cF 3)) ((cF 4))) ((cg 0) - 1) := w19
    subst w19
    exact x_iret X hW rfl () ((by unfold aGates; (try rw [if_neg h4]); (try rfl))) rfl dX5_gates_22
set_option maxHeartbeats 4000000 in
set_option maxRecDepth 100000 in
theorem c_X5_open (l : Launch) (D : va_G) (cI cZ cO : ClassId) (xq : Nat) (xa : Nat → Nat) (xg : Nat → Nat) (xh : Nat → Int32) (ca : Nat → Nat) (cg : Nat → Nat) (cF : Nat → Nat → Nat) (sz : Nat) (g : Int32)  (hn : cg 0 ≤ 4) (hk : ∀ z0, cF 2 z0 ≤ 2) (hlv : ∀ z0, cF 3 z0 ≤ 9) (hm : ∀ z0, cF 4 z0 ≤ 9) : Met l yX5_open wsX5_open ({ frames := 4, cells := 0, slots := 0, locals := 85 }) (va_Pc [.ref xq, .int g] (st_W D (ty3 cI cZ cO) (wX cI cZ xq xa xg xh ++ (wC cI cZ (xa 1) ca cg cF)) sz)) (va_Qi (fun (rr : Int32) (u : Unit) => rr = aOpen (cg 0) (cF 2) (cF 3) (cF 4) g) (fun u t => at_W D (ty3 cI cZ cO) (va_A (wX cI cZ xq xa xg xh ++ (wC cI cZ (xa 1) ca cg cF)) sz) (wX cI cZ xq xa xg xh ++ (wC cI cZ (xa 1) ca cg (sF cF 3 (sOpen (cg 0) (cF 2) (cF 3) (cF 4) g)))) t) (va_A (wX cI cZ xq xa xg xh ++ (wC cI cZ (xa 1) ca cg cF)) sz)) 0 0 (va_A (wX cI cZ xq xa xg xh ++ (wC cI cZ (xa 1) ca cg cF)) sz) := by
  refine Met.goi (cc := cX5_open) (maxL := 2) (ret := (some .int)) (by decide) rfl (Nat.le_of_ble_eq_true rfl) (fun p e s m below meth c A ls X hW hl => ?_)
  have hi5 : ∀ w ∈ wsX50, w ∈ wsX5_open := fun w h => List.mem_cons_of_mem _ (List.mem_append_left _ (List.mem_append_right _ h))
  have hi0 : ∀ w ∈ wsX00, w ∈ wsX5_open := fun w h => List.mem_cons_of_mem _ (List.mem_append_right _ h)
  have hl : lv_has ls 2 [(0, .ref xq), (1, .int g)] := hl
  refine x_aload_n X dX5_open_0 rfl (lv_at hl 0 rfl) ?_
  refine x_get X hW (v := .ref (xa 1)) hi5 0 rfl rfl 1 (by decide) (List.mem_of_getElem? (i := 1) rfl) rfl rfl dX5_open_1 ?_
  refine x_iload_n X dX5_open_4 rfl (lv_at hl 1 rfl) ?_
  refine x_callVi X hW (As := [.int g]) (rest := []) (wz := fun u => (wX cI cZ xq xa xg xh ++ (wC cI cZ (xa 1) ca cg cF))) (c_X0_hasGate l D cI cZ cO (xa 1) ca cg cF _ g (show (cg 0) ≤ 4 from (by first | assumption | omega))) (cwV 1 X.2.2.2.2.2.1 gX5_open_X0_hasGate rfl rfl rfl (by decide +kernel) ⟨Nat.le_of_ble_eq_true rfl, Nat.le_of_ble_eq_true rfl⟩) 1 0 rfl rfl rfl [1, 2, 3, 4] [0] [0, 1, 2, 3, 4] rfl rfl (by decide) (fun _ => rfl) rfl hl.1 rfl (Nat.le_of_ble_eq_true rfl) ⟨Nat.le_of_ble_eq_true rfl, Nat.le_of_ble_eq_true rfl⟩ dX5_open_5 (fun r1 u2 H locs w5 hW => ?_)
  have hW : Wd D A s.heap H locs (wX cI cZ xq xa xg xh ++ (wC cI cZ (xa 1) ca cg cF)) := hW
  replace w5 : (r1 = nI 1 ∧ (inR g ((cg 0) - 1)) ∨ r1 = nI 0 ∧ ¬ (inR g ((cg 0) - 1))) := w5
  rcases w5 with ⟨w5, h5⟩ | ⟨w5, h5⟩
  · subst w5
    obtain ⟨j, hj, rfl⟩ := inR_ex ((Iff.refl (inR g (cg 0 - 1))).mp h5) (by omega)
    refine n_if_ne X 13 dX5_open_8 (by decide) (by decide) (fun c8 => ?_) (fun c8 => by exact absurd c8 (by decide))
    refine x_aload_n X dX5_open_13 rfl (lv_at hl 0 rfl) ?_
    refine x_get X hW (v := .ref (xa 1)) hi5 0 rfl rfl 1 (by decide) (List.mem_of_getElem? (i := 1) rfl) rfl rfl dX5_open_14 ?_
    refine x_iload_n X dX5_open_17 rfl (lv_at hl 1 rfl) ?_
    refine x_callVi X hW (As := [.int (nI j)]) (rest := []) (wz := fun u => (wX cI cZ xq xa xg xh ++ (wC cI cZ (xa 1) ca cg cF))) (c_X0_mayBeOpened l D cI cZ cO (xa 1) ca cg cF _ j (show j + 1 < (cg 0) from (by first | assumption | omega)) (show (cg 0) ≤ 4 from (by first | assumption | omega)) (show ∀ z0, (cF 2) z0 ≤ 2 from (by first | assumption | omega)) (show ∀ z0, (cF 3) z0 ≤ 9 from (by first | assumption | omega)) (show ∀ z0, (cF 4) z0 ≤ 9 from (by first | assumption | omega))) (cwV 1 X.2.2.2.2.2.1 gX5_open_X0_mayBeOpened rfl rfl rfl (by decide +kernel) ⟨Nat.le_of_ble_eq_true rfl, Nat.le_of_ble_eq_true rfl⟩) 1 0 rfl rfl rfl [1, 2, 3, 4] [0] [0, 1, 2, 3, 4] rfl rfl (by decide) (fun _ => rfl) rfl hl.1 rfl (Nat.le_of_ble_eq_true rfl) ⟨Nat.le_of_ble_eq_true rfl, Nat.le_of_ble_eq_true rfl⟩ dX5_open_18 (fun r3 u4 H locs w18 hW => ?_)
    have hW : Wd D A s.heap H locs (wX cI cZ xq xa xg xh ++ (wC cI cZ (xa 1) ca cg cF)) := hW
    replace w18 : (r3 = nI 1 ∧ (mayN ((cF 2)) ((cF 3)) ((cF 4)) j) ∨ r3 = nI 0 ∧ ¬ (mayN ((cF 2)) ((cF 3)) ((cF 4)) j)) := w18
    rcases w18 with ⟨w18, h18⟩ | ⟨w18, h18⟩
    · subst w18
      refine n_if_ne X 27 dX5_open_21 (by decide) (by decide) (fun c21 => ?_) (fun c21 => by exact absurd c21 (by decide))
      refine x_aload_n X dX5_open_27 rfl (lv_at hl 0 rfl) ?_
      refine x_get X hW (v := .ref (xa 1)) hi5 0 rfl rfl 1 (by decide) (List.mem_of_getElem? (i := 1) rfl) rfl rfl dX5_open_28 ?_
      refine x_iload_n X dX5_open_31 rfl (lv_at hl 1 rfl) ?_
      refine x_callVv X hW (As := [.int (nI j)]) (rest := []) (wz := fun u => (wX cI cZ xq xa xg xh ++ (wC cI cZ (xa 1) ca cg (sF cF 3 (thru ((cF 3)) j))))) (c_X0_letThrough l D cI cZ cO (xa 1) ca cg cF _ j (show j + 1 < (cg 0) from (by omega)) (show (cg 0) ≤ 4 from (by first | assumption | omega)) (show 1 ≤ (cF 3) j from h18.1)) (cwV 1 X.2.2.2.2.2.1 gX5_open_X0_letThrough rfl rfl rfl (by decide +kernel) ⟨Nat.le_of_ble_eq_true rfl, Nat.le_of_ble_eq_true rfl⟩) 1 0 rfl rfl rfl [1, 2, 3, 4] [0] [0, 1, 2, 3, 4] rfl rfl (by decide) (fun _ => rfl) rfl hl.1 rfl (Nat.le_of_ble_eq_true rfl) ⟨Nat.le_of_ble_eq_true rfl, Nat.le_of_ble_eq_true rfl⟩ dX5_open_32 (fun u6 H locs w32 hW => ?_)
      have hW : Wd D A s.heap H locs (wX cI cZ xq xa xg xh ++ (wC cI cZ (xa 1) ca cg (sF cF 3 (thru ((cF 3)) j)))) := hW
      replace w32 : True := w32
      refine x_aload_n X dX5_open_35 rfl (lv_at hl 0 rfl) ?_
      refine x_get X hW (v := .ref (xa 1)) hi5 0 rfl rfl 1 (by decide) (List.mem_of_getElem? (i := 1) rfl) rfl rfl dX5_open_36 ?_
      refine x_iload_n X dX5_open_39 rfl (lv_at hl 1 rfl) ?_
      refine x_iconst (v := nI 1) X dX5_open_40 (by decide) ?_
      refine n_iadd X dX5_open_41 ?_
      refine x_callVi X hW (As := [.int (nI (j + 1))]) (rest := []) (wz := fun u => (wX cI cZ xq xa xg xh ++ (wC cI cZ (xa 1) ca cg (sF cF 3 (thru ((cF 3)) j))))) (c_X0_levelOf l D cI cZ cO (xa 1) ca cg (sF cF 3 (thru ((cF 3)) j)) _ (j + 1) (show (j + 1) < (cg 0) from (by omega)) (show (cg 0) ≤ 4 from (by first | assumption | omega))) (cwV 1 X.2.2.2.2.2.1 gX5_open_X0_levelOf rfl rfl rfl (by decide +kernel) ⟨Nat.le_of_ble_eq_true rfl, Nat.le_of_ble_eq_true rfl⟩) 1 0 rfl rfl rfl [1, 2, 3, 4] [0] [0, 1, 2, 3, 4] rfl rfl (by decide) (fun _ => rfl) rfl hl.1 rfl (Nat.le_of_ble_eq_true rfl) ⟨Nat.le_of_ble_eq_true rfl, Nat.le_of_ble_eq_true rfl⟩ dX5_open_42 (fun r7 u8 H locs w42 hW => ?_)
      have hW : Wd D A s.heap H locs (wX cI cZ xq xa xg xh ++ (wC cI cZ (xa 1) ca cg (sF cF 3 (thru ((cF 3)) j)))) := hW
      replace w42 : r7 = nI ((thru ((cF 3)) j) (j + 1)) := w42
      subst w42
      refine n_as0 (b := cF 3 (j + 1) + 1) (sF_s _ _ _) ?_
      exact x_iret X hW rfl () ((by unfold aOpen; (try rw [onR_in hj (by omega)]); (try rw [if_pos h18]); (try rfl))) (congrArg (fun z => (wX cI cZ xq xa xg xh ++ (wC cI cZ (xa 1) ca cg (sF cF 3 z)))) (show (thru ((cF 3)) j) = (sOpen (cg 0) (cF 2) (cF 3) (cF 4) (nI j)) from by unfold sOpen; (try rw [onR_in hj (by omega)]); (try rw [if_pos h18]); (try rfl))) dX5_open_45
    · subst w18
      refine n_if_ne X 27 dX5_open_21 (by decide) (by decide) (fun c21 => by exact absurd c21 (by decide)) (fun c21 => ?_)
      refine x_bipush (v := (-3 : Int32)) X dX5_open_24 (by decide) ?_
      exact x_iret X hW rfl () ((by unfold aOpen; (try rw [onR_in hj (by omega)]); (try rw [if_neg h18]); (try rfl))) (congrArg (fun z => (wX cI cZ xq xa xg xh ++ (wC cI cZ (xa 1) ca cg (sF cF 3 z)))) (show (cF 3) = (sOpen (cg 0) (cF 2) (cF 3) (cF 4) (nI j)) from by unfold sOpen; (try rw [onR_in hj (by omega)]); (try rw [if_neg h18]); (try rfl))) dX5_open_26
  · subst w5
    have gg := fun q => h5 ((Iff.refl (inR g (cg 0 - 1))).mpr q)
    refine n_if_ne X 13 dX5_open_8 (by decide) (by decide) (fun c8 => by exact absurd c8 (by decide)) (fun c8 => ?_)
    refine x_iconst (v := (-1 : Int32)) X dX5_open_11 (by decide) ?_
    exact x_iret X hW rfl () ((by unfold aOpen; (try rw [onR_out gg]); (try rfl))) (congrArg (fun z => (wX cI cZ xq xa xg xh ++ (wC cI cZ (xa 1) ca cg (sF cF 3 z)))) (show (cF 3) = (sOpen (cg 0) (cF 2) (cF 3) (cF 4) g) from by unfold sOpen; (try rw [onR_out gg]); (try rfl))) dX5_open_12
set_option maxHeartbeats 4000000 in
set_option maxRecDepth 100000 in
theorem c_X5_nights (l : Launch) (D : va_G) (cI cZ cO : ClassId) (xq : Nat) (xa : Nat → Nat) (xg : Nat → Nat) (xh : Nat → Int32) (ca : Nat → Nat) (cg : Nat → Nat) (cF : Nat → Nat → Nat) (sz : Nat) (v : Int32)  (h02 : cg 0 = 0 ∨ 2 ≤ cg 0) (hn : cg 0 ≤ 4) (hlv : ∀ z0, cF 3 z0 ≤ 9) (hrn : cg 1 ≤ 3) : Met l yX5_nights wsX5_nights ({ frames := 3, cells := 0, slots := 0, locals := 64 }) (va_Pc [.ref xq, .int v] (st_W D (ty3 cI cZ cO) (wX cI cZ xq xa xg xh ++ (wC cI cZ (xa 1) ca cg cF)) sz)) (va_Qi (fun (rr : Int32) (u : Unit) => rr = aNights (cg 0) (cg 1) (cF 3) v) (fun u t => at_W D (ty3 cI cZ cO) (va_A (wX cI cZ xq xa xg xh ++ (wC cI cZ (xa 1) ca cg cF)) sz) (wX cI cZ xq xa xg xh ++ (wC cI cZ (xa 1) ca cg (sF cF 3 (sNights (cg 0) (cg 1) (cF 3) v)))) t) (va_A (wX cI cZ xq xa xg xh ++ (wC cI cZ (xa 1) ca cg cF)) sz)) 0 0 (va_A (wX cI cZ xq xa xg xh ++ (wC cI cZ (xa 1) ca cg cF)) sz) := by
  refine Met.goi (cc := cX5_nights) (maxL := 3) (ret := (some .int)) (by decide) rfl (Nat.le_of_ble_eq_true rfl) (fun p e s m below meth c A ls X hW hl => ?_)
  have hi5 : ∀ w ∈ wsX50, w ∈ wsX5_nights := fun w h => List.mem_cons_of_mem _ (List.mem_append_left _ (List.mem_append_right _ h))
  have hi0 : ∀ w ∈ wsX00, w ∈ wsX5_nights := fun w h => List.mem_cons_of_mem _ (List.mem_append_right _ h)
  have hl : lv_has ls 3 [(0, .ref xq), (1, .int v)] := hl
  refine x_iload_n X dX5_nights_0 rfl (lv_at hl 1 rfl) ?_
  refine x_bipush (v := nI 40) X dX5_nights_1 (by decide) ?_
  refine x_callSie X hW (As := [.int v, .int (nI 40)]) (rest := []) (c_X5_isFrom0To l D cI cZ cO  _ v 40 41 (show 40 + 1 = 41 from (by first | assumption | omega)) (show 40 < 1000 from (by first | assumption | omega))) (va_cwS 2 X.2.2.2.2.2.1 gX5_nights_X5_isFrom0To rfl rfl rfl (by decide +kernel) ⟨Nat.le_of_ble_eq_true rfl, Nat.le_of_ble_eq_true rfl⟩) rfl hl.1 rfl (Nat.le_of_ble_eq_true rfl) ⟨Nat.le_of_ble_eq_true rfl, Nat.le_of_ble_eq_true rfl⟩ dX5_nights_3 (fun r1 u2 H locs w3 hW => ?_)
  have hW : Wd D A s.heap H locs (wX cI cZ xq xa xg xh ++ (wC cI cZ (xa 1) ca cg cF)) := hW
  replace w3 : (r1 = nI 1 ∧ (inR v 41) ∨ r1 = nI 0 ∧ ¬ (inR v 41)) := w3
  rcases w3 with ⟨w3, h3⟩ | ⟨w3, h3⟩
  · subst w3
    obtain ⟨k, hk, rfl⟩ := inR_ex ((Iff.refl (inR v 41)).mp h3) (by omega)
    refine n_if_ne X 12 dX5_nights_6 (by decide) (by decide) (fun c6 => ?_) (fun c6 => by exact absurd c6 (by decide))
    refine x_aload_n X dX5_nights_12 rfl (lv_at hl 0 rfl) ?_
    refine x_get X hW (v := .ref (xa 1)) hi5 0 rfl rfl 1 (by decide) (List.mem_of_getElem? (i := 1) rfl) rfl rfl dX5_nights_13 ?_
    refine x_callVi X hW (As := []) (rest := []) (wz := fun u => (wX cI cZ xq xa xg xh ++ (wC cI cZ (xa 1) ca cg cF))) (c_X0_isNone l D cI cZ cO (xa 1) ca cg cF _ (show (cg 0) ≤ 4 from (by first | assumption | omega))) (cwV 0 X.2.2.2.2.2.1 gX5_nights_X0_isNone rfl rfl rfl (by decide +kernel) ⟨Nat.le_of_ble_eq_true rfl, Nat.le_of_ble_eq_true rfl⟩) 1 0 rfl rfl rfl [1, 2, 3, 4] [0] [0, 1, 2, 3, 4] rfl rfl (by decide) (fun _ => rfl) rfl hl.1 rfl (Nat.le_of_ble_eq_true rfl) ⟨Nat.le_of_ble_eq_true rfl, Nat.le_of_ble_eq_true rfl⟩ dX5_nights_16 (fun r3 u4 H locs w16 hW => ?_)
    have hW : Wd D A s.heap H locs (wX cI cZ xq xa xg xh ++ (wC cI cZ (xa 1) ca cg cF)) := hW
    replace w16 : (r3 = nI 1 ∧ ((cg 0) = 0) ∨ r3 = nI 0 ∧ ¬ ((cg 0) = 0)) := w16
    rcases w16 with ⟨w16, h16⟩ | ⟨w16, h16⟩
    · subst w16
      refine n_if_eq X 25 dX5_nights_19 (by decide) (by decide) (fun c19 => by exact absurd c19 (by decide)) (fun c19 => ?_)
      refine x_bipush (v := (-3 : Int32)) X dX5_nights_22 (by decide) ?_
      exact x_iret X hW rfl () ((by unfold aNights; (try rw [onR_in hk (by omega)]); (try rw [if_pos h16]); (try rfl); (try rw [ei]))) (congrArg (fun z => (wX cI cZ xq xa xg xh ++ (wC cI cZ (xa 1) ca cg (sF cF 3 z)))) (show (cF 3) = (sNights (cg 0) (cg 1) (cF 3) (nI k)) from by unfold sNights; (try rw [onR_in hk (by omega)]); (try rw [if_pos h16]); (try rfl))) dX5_nights_24
    · subst w16
      refine n_if_eq X 25 dX5_nights_19 (by decide) (by decide) (fun c19 => ?_) (fun c19 => by exact absurd c19 (by decide))
      refine x_iconst (v := nI 0) X dX5_nights_25 (by decide) ?_
      refine x_istore_n X [(2, .int (nI 0)), (0, .ref xq), (1, .int (nI k))] dX5_nights_26 rfl hl (by decide) rfl (fun ls hl => ?_)
      refine W.loop (σ := (Nat)) (fun u H locs ls => (u ≤ k) ∧ Wd D A s.heap H locs (wX cI cZ xq xa xg xh ++ (wC cI cZ (xa 1) ca cg (sF cF 3 (nts (cg 0) (cg 1) u (cF 3))))) ∧ lv_has ls 3 [(2, .int (nI u)), (0, .ref xq), (1, .int (nI k))]) (fun u => k - u) (fun u H locs ls hI ih => ?_) 0 ⟨(show 0 ≤ k from (by omega)), (hW.eq (congrArg (fun z => (wX cI cZ xq xa xg xh ++ (wC cI cZ (xa 1) ca cg (sF cF 3 z)))) (show (cF 3) = (nts (cg 0) (cg 1) 0 (cF 3)) from by rfl))), hl⟩
      obtain ⟨i, ie⟩ : ∃ z, z = u := ⟨_, rfl⟩
      subst ie
      obtain ⟨hv, hW, hl⟩ := hI
      have hv : i ≤ k := hv
      have hW : Wd D A s.heap H locs (wX cI cZ xq xa xg xh ++ (wC cI cZ (xa 1) ca cg (sF cF 3 (nts (cg 0) (cg 1) i (cF 3))))) := hW
      have hl : lv_has ls 3 [(2, .int (nI i)), (0, .ref xq), (1, .int (nI k))] := hl
      have ih27 := ih
      refine x_iload_n X dX5_nights_27 rfl (lv_at hl 0 rfl) ?_
      refine x_iload_n X dX5_nights_28 rfl (lv_at hl 2 rfl) ?_
      refine n_icmp_ge X 45 dX5_nights_29 (by decide) (by omega) (by omega) (fun c29 => ?_) (fun c29 => ?_)
      · have ei : i = k := by omega
        refine x_aload_n X dX5_nights_45 rfl (lv_at hl 1 rfl) ?_
        refine x_get X hW (v := .ref (xa 1)) hi5 0 rfl rfl 1 (by decide) (List.mem_of_getElem? (i := 1) rfl) rfl rfl dX5_nights_46 ?_
        refine x_iconst (v := nI 0) X dX5_nights_49 (by decide) ?_
        refine x_callVi X hW (As := [.int (nI 0)]) (rest := []) (wz := fun u => (wX cI cZ xq xa xg xh ++ (wC cI cZ (xa 1) ca cg (sF cF 3 (nts (cg 0) (cg 1) i (cF 3)))))) (c_X0_levelOf l D cI cZ cO (xa 1) ca cg (sF cF 3 (nts (cg 0) (cg 1) i (cF 3))) _ 0 (show 0 < (cg 0) from (by omega)) (show (cg 0) ≤ 4 from (by first | assumption | omega))) (cwV 1 X.2.2.2.2.2.1 gX5_nights_X0_levelOf rfl rfl rfl (by decide +kernel) ⟨Nat.le_of_ble_eq_true rfl, Nat.le_of_ble_eq_true rfl⟩) 1 0 rfl rfl rfl [1, 2, 3, 4] [0] [0, 1, 2, 3, 4] rfl rfl (by decide) (fun _ => rfl) rfl hl.1 rfl (Nat.le_of_ble_eq_true rfl) ⟨Nat.le_of_ble_eq_true rfl, Nat.le_of_ble_eq_true rfl⟩ dX5_nights_50 (fun r5 u6 H locs w50 hW => ?_)
        have hW : Wd D A s.heap H locs (wX cI cZ xq xa xg xh ++ (wC cI cZ (xa 1) ca cg (sF cF 3 (nts (cg 0) (cg 1) i (cF 3))))) := hW
        replace w50 : r5 = nI ((nts (cg 0) (cg 1) i (cF 3)) 0) := w50
        subst w50
        exact x_iret X hW rfl () ((by unfold aNights; (try rw [onR_in hk (by omega)]); (try rw [if_neg h16]); (try rfl); (try rw [ei]))) (congrArg (fun z => (wX cI cZ xq xa xg xh ++ (wC cI cZ (xa 1) ca cg (sF cF 3 z)))) (show (nts (cg 0) (cg 1) i (cF 3)) = (sNights (cg 0) (cg 1) (cF 3) (nI k)) from by rw [ei]; unfold sNights; (try rw [onR_in hk (by omega)]); (try rw [if_neg h16]); (try rfl))) dX5_nights_53
      · refine x_aload_n X dX5_nights_32 rfl (lv_at hl 1 rfl) ?_
        refine x_get X hW (v := .ref (xa 1)) hi5 0 rfl rfl 1 (by decide) (List.mem_of_getElem? (i := 1) rfl) rfl rfl dX5_nights_33 ?_
        refine x_callVv X hW (As := []) (rest := []) (wz := fun u => (wX cI cZ xq xa xg xh ++ (wC cI cZ (xa 1) ca cg (sF cF 3 (night ((cg 0)) ((cg 1)) ((nts (cg 0) (cg 1) i (cF 3)))))))) (c_X0_passNight l D cI cZ cO (xa 1) ca cg (sF cF 3 (nts (cg 0) (cg 1) i (cF 3))) _ (show 2 ≤ (cg 0) from (by omega)) (show (cg 0) ≤ 4 from (by first | assumption | omega)) (show ∀ z0, (nts (cg 0) (cg 1) i (cF 3)) z0 ≤ 9 from (nts_le hlv i)) (show (cg 1) ≤ 3 from (by first | assumption | omega))) (cwV 0 X.2.2.2.2.2.1 gX5_nights_X0_passNight rfl rfl rfl (by decide +kernel) ⟨Nat.le_of_ble_eq_true rfl, Nat.le_of_ble_eq_true rfl⟩) 1 0 rfl rfl rfl [1, 2, 3, 4] [0] [0, 1, 2, 3, 4] rfl rfl (by decide) (fun _ => rfl) rfl hl.1 rfl (Nat.le_of_ble_eq_true rfl) ⟨Nat.le_of_ble_eq_true rfl, Nat.le_of_ble_eq_true rfl⟩ dX5_nights_36 (fun u8 H locs w36 hW => ?_)
        have hW : Wd D A s.heap H locs (wX cI cZ xq xa xg xh ++ (wC cI cZ (xa 1) ca cg (sF cF 3 (night ((cg 0)) ((cg 1)) ((nts (cg 0) (cg 1) i (cF 3))))))) := hW
        replace w36 : True := w36
        refine x_iinc X [(2, .int (nI (i + 1))), (0, .ref xq), (1, .int (nI k))] (k := 0) dX5_nights_39 hl rfl (nI_inc1 i) (by decide) rfl (fun ls hl => ?_)
        refine x_goto X 27 dX5_nights_42 (by decide) ?_
        exact ih27 (i + 1) _ _ _ ⟨(show (i + 1) ≤ k from (by omega)), (hW.eq (congrArg (fun z => (wX cI cZ xq xa xg xh ++ (wC cI cZ (xa 1) ca cg (sF cF 3 z)))) (show (night ((cg 0)) ((cg 1)) ((nts (cg 0) (cg 1) i (cF 3)))) = (nts (cg 0) (cg 1) (i + 1) (cF 3)) from by rfl))), lv_sub hl [0, 1, 2] rfl⟩ (by omega)
  · subst w3
    have gv := fun q => h3 ((Iff.refl (inR v 41)).mpr q)
    refine n_if_ne X 12 dX5_nights_6 (by decide) (by decide) (fun c6 => by exact absurd c6 (by decide)) (fun c6 => ?_)
    refine x_bipush (v := (-2 : Int32)) X dX5_nights_9 (by decide) ?_
    exact x_iret X hW rfl () ((by unfold aNights; (try rw [onR_out gv]); (try rfl); (try rw [ei]))) (congrArg (fun z => (wX cI cZ xq xa xg xh ++ (wC cI cZ (xa 1) ca cg (sF cF 3 z)))) (show (cF 3) = (sNights (cg 0) (cg 1) (cF 3) v) from by unfold sNights; (try rw [onR_out gv]); (try rfl))) dX5_nights_11
set_option maxHeartbeats 4000000 in
set_option maxRecDepth 100000 in
theorem c_X5_boat (l : Launch) (D : va_G) (cI cZ cO : ClassId) (xq : Nat) (xa : Nat → Nat) (xg : Nat → Nat) (xh : Nat → Int32) (ca : Nat → Nat) (cg : Nat → Nat) (cF : Nat → Nat → Nat) (za : Nat → Nat) (zg : Nat → Nat) (zh : Nat → Int32) (zk : Int64) (zF : Nat → Nat → Nat) (sz : Nat) (fr : Int32) (to : Int32) (k : Int32)  (h02 : cg 0 = 0 ∨ 2 ≤ cg 0) (hn : cg 0 ≤ 4) (hk : ∀ z0, cF 2 z0 ≤ 2) (hlv : ∀ z0, cF 3 z0 ≤ 9) (hm : ∀ z0, cF 4 z0 ≤ 9) (hrn : cg 1 ≤ 3) (hsk : SK (zF 0) (zF 1) (zg 2) (zh 4) zk (zF 3)) : Met l yX5_boat wsX5_boat ({ frames := 5, cells := 0, slots := 0, locals := 117 }) (va_Pc [.ref xq, .int fr, .int to, .int k] (st_W D (ty3 cI cZ cO) (wX cI cZ xq xa xg xh ++ (wC cI cZ (xa 1) ca cg cF ++ (wS cI cZ (xa 4) za zg zh zk zF))) sz)) (va_Qi (fun (rr : Int32) (u : (Nat → Nat) × (Nat → Nat) × (Nat) × (Nat → Nat) × (Int32) × (Int64) × (Nat) × (Nat) × (Nat) × (Nat) × (Nat) × (Nat)) => BoatAns (cg 0) (cg 1) (cF 2) (cF 3) (cF 4) fr to k rr ∧ SK u.1 u.2.1 u.2.2.1 u.2.2.2.2.1 u.2.2.2.2.2.1 u.2.2.2.1) (fun u t => at_W D (ty3 cI cZ cO) (va_A (wX cI cZ xq xa xg xh ++ (wC cI cZ (xa 1) ca cg cF ++ (wS cI cZ (xa 4) za zg zh zk zF))) sz) (wX cI cZ xq xa xg xh ++ (wC cI cZ (xa 1) ca cg cF ++ (wS cI cZ (xa 4) za (sF (sF (sF (sF (sF (sF (sF zg 2 u.2.2.1) 6 u.2.2.2.2.2.2.1) 7 u.2.2.2.2.2.2.2.1) 8 u.2.2.2.2.2.2.2.2.1) 9 u.2.2.2.2.2.2.2.2.2.1) 10 u.2.2.2.2.2.2.2.2.2.2.1) 11 u.2.2.2.2.2.2.2.2.2.2.2) (sF zh 4 u.2.2.2.2.1) u.2.2.2.2.2.1 (sF (sF (sF zF 0 u.1) 1 u.2.1) 3 u.2.2.2.1)))) t) (va_A (wX cI cZ xq xa xg xh ++ (wC cI cZ (xa 1) ca cg cF ++ (wS cI cZ (xa 4) za zg zh zk zF))) sz)) 0 0 (va_A (wX cI cZ xq xa xg xh ++ (wC cI cZ (xa 1) ca cg cF ++ (wS cI cZ (xa 4) za zg zh zk zF))) sz) := by
  refine Met.goi (cc := cX5_boat) (maxL := 4) (ret := (some .int)) (by decide) rfl (Nat.le_of_ble_eq_true rfl) (fun p e s m below meth c A ls X hW hl => ?_)
  have hi5 : ∀ w ∈ wsX50, w ∈ wsX5_boat := fun w h => List.mem_cons_of_mem _ (List.mem_append_left _ (List.mem_append_left _ (List.mem_append_right _ h)))
  have hi0 : ∀ w ∈ wsX00, w ∈ wsX5_boat := fun w h => List.mem_cons_of_mem _ (List.mem_append_left _ (List.mem_append_right _ h))
  have hi2 : ∀ w ∈ wsX20, w ∈ wsX5_boat := fun w h => List.mem_cons_of_mem _ (List.mem_append_right _ h)
  have hl : lv_has ls 4 [(0, .ref xq), (1, .int fr), (2, .int to), (3, .int k)] := hl
  refine x_aload_n X dX5_boat_0 rfl (lv_at hl 0 rfl) ?_
  refine x_get X hW (v := .ref (xa 1)) hi5 0 rfl rfl 1 (by decide) (List.mem_of_getElem? (i := 1) rfl) rfl rfl dX5_boat_1 ?_
  refine x_iload_n X dX5_boat_4 rfl (lv_at hl 1 rfl) ?_
  refine x_callVi X hW (As := [.int fr]) (rest := []) (wz := fun u => (wX cI cZ xq xa xg xh ++ (wC cI cZ (xa 1) ca cg cF ++ (wS cI cZ (xa 4) za zg zh zk zF)))) (c_X0_has l D cI cZ cO (xa 1) ca cg cF _ fr (show (cg 0) ≤ 4 from (by first | assumption | omega))) (cwV 1 X.2.2.2.2.2.1 gX5_boat_X0_has rfl rfl rfl (by decide +kernel) ⟨Nat.le_of_ble_eq_true rfl, Nat.le_of_ble_eq_true rfl⟩) 1 0 rfl rfl rfl [1, 2, 3, 4] [0, 5, 6, 7, 8] [0, 5, 6, 7, 8, 1, 2, 3, 4] rfl rfl (by decide) (fun _ => rfl) rfl hl.1 rfl (Nat.le_of_ble_eq_true rfl) ⟨Nat.le_of_ble_eq_true rfl, Nat.le_of_ble_eq_true rfl⟩ dX5_boat_5 (fun r1 u2 H locs w5 hW => ?_)
  have hW : Wd D A s.heap H locs (wX cI cZ xq xa xg xh ++ (wC cI cZ (xa 1) ca cg cF ++ (wS cI cZ (xa 4) za zg zh zk zF))) := hW
  replace w5 : (r1 = nI 1 ∧ (inR fr ((cg 0))) ∨ r1 = nI 0 ∧ ¬ (inR fr ((cg 0)))) := w5
  rcases w5 with ⟨w5, h5⟩ | ⟨w5, h5⟩
  · subst w5
    obtain ⟨i, hi, rfl⟩ := inR_ex ((Iff.refl (inR fr (cg 0))).mp h5) (by omega)
    refine n_if_eq X 22 dX5_boat_8 (by decide) (by decide) (fun c8 => by exact absurd c8 (by decide)) (fun c8 => ?_)
    refine x_aload_n X dX5_boat_11 rfl (lv_at hl 0 rfl) ?_
    refine x_get X hW (v := .ref (xa 1)) hi5 0 rfl rfl 1 (by decide) (List.mem_of_getElem? (i := 1) rfl) rfl rfl dX5_boat_12 ?_
    refine x_iload_n X dX5_boat_15 rfl (lv_at hl 2 rfl) ?_
    refine x_callVi X hW (As := [.int to]) (rest := []) (wz := fun u => (wX cI cZ xq xa xg xh ++ (wC cI cZ (xa 1) ca cg cF ++ (wS cI cZ (xa 4) za zg zh zk zF)))) (c_X0_has l D cI cZ cO (xa 1) ca cg cF _ to (show (cg 0) ≤ 4 from (by first | assumption | omega))) (cwV 1 X.2.2.2.2.2.1 gX5_boat_X0_has rfl rfl rfl (by decide +kernel) ⟨Nat.le_of_ble_eq_true rfl, Nat.le_of_ble_eq_true rfl⟩) 1 0 rfl rfl rfl [1, 2, 3, 4] [0, 5, 6, 7, 8] [0, 5, 6, 7, 8, 1, 2, 3, 4] rfl rfl (by decide) (fun _ => rfl) rfl hl.1 rfl (Nat.le_of_ble_eq_true rfl) ⟨Nat.le_of_ble_eq_true rfl, Nat.le_of_ble_eq_true rfl⟩ dX5_boat_16 (fun r3 u4 H locs w16 hW => ?_)
    have hW : Wd D A s.heap H locs (wX cI cZ xq xa xg xh ++ (wC cI cZ (xa 1) ca cg cF ++ (wS cI cZ (xa 4) za zg zh zk zF))) := hW
    replace w16 : (r3 = nI 1 ∧ (inR to ((cg 0))) ∨ r3 = nI 0 ∧ ¬ (inR to ((cg 0)))) := w16
    rcases w16 with ⟨w16, h16⟩ | ⟨w16, h16⟩
    · subst w16
      obtain ⟨j, hj, rfl⟩ := inR_ex ((Iff.refl (inR to (cg 0))).mp h16) (by omega)
      refine n_if_ne X 24 dX5_boat_19 (by decide) (by decide) (fun c19 => ?_) (fun c19 => by exact absurd c19 (by decide))
      refine x_iload_n X dX5_boat_24 rfl (lv_at hl 2 rfl) ?_
      refine x_iload_n X dX5_boat_25 rfl (lv_at hl 1 rfl) ?_
      refine n_icmp_gt X 32 dX5_boat_26 (by decide) (by omega) (by omega) (fun c26 => ?_) (fun c26 => ?_)
      · refine x_iload_n X dX5_boat_32 rfl (lv_at hl 3 rfl) ?_
        refine x_callSie X hW (As := [.int k]) (rest := []) (c_X5_isPlaceOfRow l D cI cZ cO  _ k) (va_cwS 1 X.2.2.2.2.2.1 gX5_boat_X5_isPlaceOfRow rfl rfl rfl (by decide +kernel) ⟨Nat.le_of_ble_eq_true rfl, Nat.le_of_ble_eq_true rfl⟩) rfl hl.1 rfl (Nat.le_of_ble_eq_true rfl) ⟨Nat.le_of_ble_eq_true rfl, Nat.le_of_ble_eq_true rfl⟩ dX5_boat_33 (fun r5 u6 H locs w33 hW => ?_)
        have hW : Wd D A s.heap H locs (wX cI cZ xq xa xg xh ++ (wC cI cZ (xa 1) ca cg cF ++ (wS cI cZ (xa 4) za zg zh zk zF))) := hW
        replace w33 : (r5 = nI 1 ∧ (okK k) ∨ r5 = nI 0 ∧ ¬ (okK k)) := w33
        rcases w33 with ⟨w33, h33⟩ | ⟨w33, h33⟩
        · subst w33
          have gk := h33
          refine n_if_ne X 42 dX5_boat_36 (by decide) (by decide) (fun c36 => ?_) (fun c36 => by exact absurd c36 (by decide))
          refine x_aload_n X dX5_boat_42 rfl (lv_at hl 0 rfl) ?_
          refine x_get X hW (v := .ref (xa 4)) hi5 0 rfl rfl 4 (by decide) (List.mem_of_getElem? (i := 2) rfl) rfl rfl dX5_boat_43 ?_
          refine x_iload_n X dX5_boat_46 rfl (lv_at hl 2 rfl) ?_
          refine x_callVv X hW (As := [.int (nI j)]) (rest := []) (wz := fun u => (wX cI cZ xq xa xg xh ++ (wC cI cZ (xa 1) ca cg cF ++ (wS cI cZ (xa 4) za (sF (sF (sF zg 9 1) 10 j) 11 0) zh zk zF)))) (c_X2_aimBoatAt l D cI cZ cO (xa 4) za zg zh zk zF _ j) (cwV 1 X.2.2.2.2.2.1 gX5_boat_X2_aimBoatAt rfl rfl rfl (by decide +kernel) ⟨Nat.le_of_ble_eq_true rfl, Nat.le_of_ble_eq_true rfl⟩) 5 2 rfl rfl rfl [5, 6, 7, 8] [0, 1, 2, 3, 4] [0, 1, 2, 3, 4, 5, 6, 7, 8] rfl rfl (by decide) (fun _ => rfl) rfl hl.1 rfl (Nat.le_of_ble_eq_true rfl) ⟨Nat.le_of_ble_eq_true rfl, Nat.le_of_ble_eq_true rfl⟩ dX5_boat_47 (fun u8 H locs w47 hW => ?_)
          have hW : Wd D A s.heap H locs (wX cI cZ xq xa xg xh ++ (wC cI cZ (xa 1) ca cg cF ++ (wS cI cZ (xa 4) za (sF (sF (sF zg 9 1) 10 j) 11 0) zh zk zF))) := hW
          replace w47 : True := w47
          refine x_aload_n X dX5_boat_50 rfl (lv_at hl 0 rfl) ?_
          refine x_get X hW (v := .ref (xa 4)) hi5 0 rfl rfl 4 (by decide) (List.mem_of_getElem? (i := 2) rfl) rfl rfl dX5_boat_51 ?_
          refine x_aload_n X dX5_boat_54 rfl (lv_at hl 0 rfl) ?_
          refine x_get X hW (v := .ref (xa 1)) hi5 0 rfl rfl 1 (by decide) (List.mem_of_getElem? (i := 1) rfl) rfl rfl dX5_boat_55 ?_
          refine x_iload_n X dX5_boat_58 rfl (lv_at hl 1 rfl) ?_
          refine x_callVv X hW (As := [.ref (xa 1), .int (nI i)]) (rest := []) (wz := fun u => (wX cI cZ xq xa xg xh ++ (wC cI cZ (xa 1) ca cg cF ++ (wS cI cZ (xa 4) za (sF (sF (sF (sF (sF (sF (sF zg 2 u.2.2.1) 6 ((cg 0) - 1)) 7 (cg 1)) 8 (wnN ((cg 0)) ((cF 2)) ((cF 4)))) 9 1) 10 j) 11 0) (sF zh 4 u.2.2.2.2.1) u.2.2.2.2.2 (sF (sF (sF zF 0 u.1) 1 u.2.1) 3 u.2.2.2.1))))) (c_X2_look l D cI cZ cO (xa 4) za (sF (sF (sF zg 9 1) 10 j) 11 0) zh zk zF (xa 1) ca cg cF _ i (show i < 4 from (by omega)) (show SK ((zF 0)) ((zF 1)) ((zg 2)) ((zh 4)) zk ((zF 3)) from (by first | assumption | omega)) (show 2 ≤ (cg 0) from (by omega)) (show (cg 0) ≤ 4 from (by first | assumption | omega)) (show ∀ z0, (cF 2) z0 ≤ 2 from (by first | assumption | omega)) (show ∀ z0, (cF 3) z0 ≤ 9 from (by first | assumption | omega)) (show ∀ z0, (cF 4) z0 ≤ 9 from (by first | assumption | omega)) (show (cg 1) ≤ 3 from (by first | assumption | omega)) (show 1 ≤ 1 from (by decide)) (show j < 4 from (by omega)) (show 0 ≤ 9 from (by decide))) (cwV 2 X.2.2.2.2.2.1 gX5_boat_X2_look rfl rfl rfl (by decide +kernel) ⟨Nat.le_of_ble_eq_true rfl, Nat.le_of_ble_eq_true rfl⟩) 5 2 rfl rfl rfl [5, 6, 7, 8, 1, 2, 3, 4] [0] [0, 5, 6, 7, 8, 1, 2, 3, 4] rfl rfl (by decide) (fun _ => rfl) rfl hl.1 rfl (Nat.le_of_ble_eq_true rfl) ⟨Nat.le_of_ble_eq_true rfl, Nat.le_of_ble_eq_true rfl⟩ dX5_boat_59 (fun u16 H locs w59 hW => ?_)
          obtain ⟨o1_9, o2_10, o3_11, o4_12, o5_13, o6_14⟩ := u16
          have hW : Wd D A s.heap H locs (wX cI cZ xq xa xg xh ++ (wC cI cZ (xa 1) ca cg cF ++ (wS cI cZ (xa 4) za (sF (sF (sF (sF (sF (sF (sF zg 2 o3_11) 6 ((cg 0) - 1)) 7 (cg 1)) 8 (wnN ((cg 0)) ((cF 2)) ((cF 4)))) 9 1) 10 j) 11 0) (sF zh 4 o5_13) o6_14 (sF (sF (sF zF 0 o1_9) 1 o2_10) 3 o4_12)))) := hW
          replace w59 : SK o1_9 o2_10 o3_11 o5_13 o6_14 o4_12 ∧ RowSt (nxW ((cg 0)) ((cg 1)) (wnN ((cg 0)) ((cF 2)) ((cF 4)))) ((cg 0)) (wy ((cg 0)) i ((cF 3))) (GZ (1) (j) (0)) o5_13 o4_12 := w59
          refine x_aload_n X dX5_boat_62 rfl (lv_at hl 0 rfl) ?_
          refine x_get X hW (v := .ref (xa 4)) hi5 0 rfl rfl 4 (by decide) (List.mem_of_getElem? (i := 2) rfl) rfl rfl dX5_boat_63 ?_
          refine x_iload_n X dX5_boat_66 rfl (lv_at hl 3 rfl) ?_
          refine x_callVi X hW (As := [.int k]) (rest := []) (wz := fun u => (wX cI cZ xq xa xg xh ++ (wC cI cZ (xa 1) ca cg cF ++ (wS cI cZ (xa 4) za (sF (sF (sF (sF (sF (sF (sF zg 2 o3_11) 6 ((cg 0) - 1)) 7 (cg 1)) 8 (wnN ((cg 0)) ((cF 2)) ((cF 4)))) 9 1) 10 j) 11 0) (sF zh 4 o5_13) o6_14 (sF (sF (sF zF 0 o1_9) 1 o2_10) 3 o4_12))))) (c_X2_actAt l D cI cZ cO (xa 4) za (sF (sF (sF (sF (sF (sF (sF zg 2 o3_11) 6 ((cg 0) - 1)) 7 (cg 1)) 8 (wnN ((cg 0)) ((cF 2)) ((cF 4)))) 9 1) 10 j) 11 0) (sF zh 4 o5_13) o6_14 (sF (sF (sF zF 0 o1_9) 1 o2_10) 3 o4_12) _ k (nxW (cg 0) (cg 1) (wnN (cg 0) (cF 2) (cF 4))) (cg 0) (wy (cg 0) i (cF 3)) (GZ 1 j 0) (show RowSt (nxW (cg 0) (cg 1) (wnN (cg 0) (cF 2) (cF 4))) (cg 0) (wy (cg 0) i (cF 3)) (GZ 1 j 0) (o5_13) (o4_12) from w59.2) (show okK k from gk)) (cwV 1 X.2.2.2.2.2.1 gX5_boat_X2_actAt rfl rfl rfl (by decide +kernel) ⟨Nat.le_of_ble_eq_true rfl, Nat.le_of_ble_eq_true rfl⟩) 5 2 rfl rfl rfl [5, 6, 7, 8] [0, 1, 2, 3, 4] [0, 1, 2, 3, 4, 5, 6, 7, 8] rfl rfl (by decide) (fun _ => rfl) rfl hl.1 rfl (Nat.le_of_ble_eq_true rfl) ⟨Nat.le_of_ble_eq_true rfl, Nat.le_of_ble_eq_true rfl⟩ dX5_boat_67 (fun r17 u18 H locs w67 hW => ?_)
          have hW : Wd D A s.heap H locs (wX cI cZ xq xa xg xh ++ (wC cI cZ (xa 1) ca cg cF ++ (wS cI cZ (xa 4) za (sF (sF (sF (sF (sF (sF (sF zg 2 o3_11) 6 ((cg 0) - 1)) 7 (cg 1)) 8 (wnN ((cg 0)) ((cF 2)) ((cF 4)))) 9 1) 10 j) 11 0) (sF zh 4 o5_13) o6_14 (sF (sF (sF zF 0 o1_9) 1 o2_10) 3 o4_12)))) := hW
          replace w67 : RowAns (nxW (cg 0) (cg 1) (wnN (cg 0) (cF 2) (cF 4))) (cg 0) (wy (cg 0) i (cF 3)) (GZ 1 j 0) k r17 := w67
          exact x_iret X hW rfl (o1_9, o2_10, o3_11, o4_12, o5_13, o6_14, (cg 0) - 1, (cg 1), wnN ((cg 0)) ((cF 2)) ((cF 4)), 1, j, 0) (⟨by unfold BoatAns; rw [onR_in hi (by omega)]; rw [onR_in hj (by omega)]; rw [if_neg (by omega)]; rw [if_pos gk]; exact RowAns_cg GW_boat w67, w59.1⟩) rfl dX5_boat_70
        · subst w33
          refine n_if_ne X 42 dX5_boat_36 (by decide) (by decide) (fun c36 => by exact absurd c36 (by decide)) (fun c36 => ?_)
          refine x_bipush (v := (-2 : Int32)) X dX5_boat_39 (by decide) ?_
          exact x_iret X hW rfl (zF 0, zF 1, zg 2, zF 3, zh 4, zk, zg 6, zg 7, zg 8, zg 9, zg 10, zg 11) (⟨by unfold BoatAns; rw [onR_in hi (by omega)]; rw [onR_in hj (by omega)]; rw [if_neg (by omega)]; rw [if_neg h33], hsk⟩) rfl dX5_boat_41
      · refine x_bipush (v := (-3 : Int32)) X dX5_boat_29 (by decide) ?_
        exact x_iret X hW rfl (zF 0, zF 1, zg 2, zF 3, zh 4, zk, zg 6, zg 7, zg 8, zg 9, zg 10, zg 11) (⟨by unfold BoatAns; rw [onR_in hi (by omega)]; rw [onR_in hj (by omega)]; rw [if_pos (by omega)], hsk⟩) rfl dX5_boat_31
    · subst w16
      have gto := fun q => h16 ((Iff.refl (inR to (cg 0))).mpr q)
      refine n_if_ne X 24 dX5_boat_19 (by decide) (by decide) (fun c19 => by exact absurd c19 (by decide)) (fun c19 => ?_)
      refine x_iconst (v := (-1 : Int32)) X dX5_boat_22 (by decide) ?_
      exact x_iret X hW rfl (zF 0, zF 1, zg 2, zF 3, zh 4, zk, zg 6, zg 7, zg 8, zg 9, zg 10, zg 11) (⟨by unfold BoatAns; rw [onR_in hi (by omega)]; rw [onR_out gto], hsk⟩) rfl dX5_boat_23
  · subst w5
    have gfr := fun q => h5 ((Iff.refl (inR fr (cg 0))).mpr q)
    refine n_if_eq X 22 dX5_boat_8 (by decide) (by decide) (fun c8 => ?_) (fun c8 => by exact absurd c8 (by decide))
    refine x_iconst (v := (-1 : Int32)) X dX5_boat_22 (by decide) ?_
    exact x_iret X hW rfl (zF 0, zF 1, zg 2, zF 3, zh 4, zk, zg 6, zg 7, zg 8, zg 9, zg 10, zg 11) (⟨by unfold BoatAns; rw [onR_out gfr], hsk⟩) rfl dX5_boat_23
set_option maxHeartbeats 4000000 in
set_option maxRecDepth 100000 in
theorem c_X5_raise (l : Launch) (D : va_G) (cI cZ cO : ClassId) (xq : Nat) (xa : Nat → Nat) (xg : Nat → Nat) (xh : Nat → Int32) (ca : Nat → Nat) (cg : Nat → Nat) (cF : Nat → Nat → Nat) (za : Nat → Nat) (zg : Nat → Nat) (zh : Nat → Int32) (zk : Int64) (zF : Nat → Nat → Nat) (sz : Nat) (x0 : Int32) (v : Int32) (k : Int32)  (h02 : cg 0 = 0 ∨ 2 ≤ cg 0) (hn : cg 0 ≤ 4) (hk : ∀ z0, cF 2 z0 ≤ 2) (hlv : ∀ z0, cF 3 z0 ≤ 9) (hm : ∀ z0, cF 4 z0 ≤ 9) (hrn : cg 1 ≤ 3) (hsk : SK (zF 0) (zF 1) (zg 2) (zh 4) zk (zF 3)) : Met l yX5_raise wsX5_raise ({ frames := 5, cells := 0, slots := 0, locals := 117 }) (va_Pc [.ref xq, .int x0, .int v, .int k] (st_W D (ty3 cI cZ cO) (wX cI cZ xq xa xg xh ++ (wC cI cZ (xa 1) ca cg cF ++ (wS cI cZ (xa 4) za zg zh zk zF))) sz)) (va_Qi (fun (rr : Int32) (u : (Nat → Nat) × (Nat → Nat) × (Nat) × (Nat → Nat) × (Int32) × (Int64) × (Nat) × (Nat) × (Nat) × (Nat) × (Nat) × (Nat)) => RaiseAns (cg 0) (cg 1) (cF 2) (cF 3) (cF 4) x0 v k rr ∧ SK u.1 u.2.1 u.2.2.1 u.2.2.2.2.1 u.2.2.2.2.2.1 u.2.2.2.1) (fun u t => at_W D (ty3 cI cZ cO) (va_A (wX cI cZ xq xa xg xh ++ (wC cI cZ (xa 1) ca cg cF ++ (wS cI cZ (xa 4) za zg zh zk zF))) sz) (wX cI cZ xq xa xg xh ++ (wC cI cZ (xa 1) ca cg cF ++ (wS cI cZ (xa 4) za (sF (sF (sF (sF (sF (sF (sF zg 2 u.2.2.1) 6 u.2.2.2.2.2.2.1) 7 u.2.2.2.2.2.2.2.1) 8 u.2.2.2.2.2.2.2.2.1) 9 u.2.2.2.2.2.2.2.2.2.1) 10 u.2.2.2.2.2.2.2.2.2.2.1) 11 u.2.2.2.2.2.2.2.2.2.2.2) (sF zh 4 u.2.2.2.2.1) u.2.2.2.2.2.1 (sF (sF (sF zF 0 u.1) 1 u.2.1) 3 u.2.2.2.1)))) t) (va_A (wX cI cZ xq xa xg xh ++ (wC cI cZ (xa 1) ca cg cF ++ (wS cI cZ (xa 4) za zg zh zk zF))) sz)) 0 0 (va_A (wX cI cZ xq xa xg xh ++ (wC cI cZ (xa 1) ca cg cF ++ (wS cI cZ (xa 4) za zg zh zk zF))) sz) := by
  refine Met.goi (cc := cX5_raise) (maxL := 4) (ret := (some .int)) (by decide) rfl (Nat.le_of_ble_eq_true rfl) (fun p e s m below meth c A ls X hW hl => ?_)
  have hi5 : ∀ w ∈ wsX50, w ∈ wsX5_raise := fun w h => List.mem_cons_of_mem _ (List.mem_append_left _ (List.mem_append_left _ (List.mem_append_right _ h)))
  have hi0 : ∀ w ∈ wsX00, w ∈ wsX5_raise := fun w h => List.mem_cons_of_mem _ (List.mem_append_left _ (List.mem_append_right _ h))
  have hi2 : ∀ w ∈ wsX20, w ∈ wsX5_raise := fun w h => List.mem_cons_of_mem _ (List.mem_append_right _ h)
  have hl : lv_has ls 4 [(0, .ref xq), (1, .int x0), (2, .int v), (3, .int k)] := hl
  refine x_aload_n X dX5_raise_0 rfl (lv_at hl 0 rfl) ?_
  refine x_get X hW (v := .ref (xa 1)) hi5 0 rfl rfl 1 (by decide) (List.mem_of_getElem? (i := 1) rfl) rfl rfl dX5_raise_1 ?_
  refine x_iload_n X dX5_raise_4 rfl (lv_at hl 1 rfl) ?_
  refine x_callVi X hW (As := [.int x0]) (rest := []) (wz := fun u => (wX cI cZ xq xa xg xh ++ (wC cI cZ (xa 1) ca cg cF ++ (wS cI cZ (xa 4) za zg zh zk zF)))) (c_X0_has l D cI cZ cO (xa 1) ca cg cF _ x0 (show (cg 0) ≤ 4 from (by first | assumption | omega))) (cwV 1 X.2.2.2.2.2.1 gX5_raise_X0_has rfl rfl rfl (by decide +kernel) ⟨Nat.le_of_ble_eq_true rfl, Nat.le_of_ble_eq_true rfl⟩) 1 0 rfl rfl rfl [1, 2, 3, 4] [0, 5, 6, 7, 8] [0, 5, 6, 7, 8, 1, 2, 3, 4] rfl rfl (by decide) (fun _ => rfl) rfl hl.1 rfl (Nat.le_of_ble_eq_true rfl) ⟨Nat.le_of_ble_eq_true rfl, Nat.le_of_ble_eq_true rfl⟩ dX5_raise_5 (fun r1 u2 H locs w5 hW => ?_)
  have hW : Wd D A s.heap H locs (wX cI cZ xq xa xg xh ++ (wC cI cZ (xa 1) ca cg cF ++ (wS cI cZ (xa 4) za zg zh zk zF))) := hW
  replace w5 : (r1 = nI 1 ∧ (inR x0 ((cg 0))) ∨ r1 = nI 0 ∧ ¬ (inR x0 ((cg 0)))) := w5
  rcases w5 with ⟨w5, h5⟩ | ⟨w5, h5⟩
  · subst w5
    obtain ⟨j, hj, rfl⟩ := inR_ex ((Iff.refl (inR x0 (cg 0))).mp h5) (by omega)
    refine n_if_ne X 13 dX5_raise_8 (by decide) (by decide) (fun c8 => ?_) (fun c8 => by exact absurd c8 (by decide))
    refine x_iload_n X dX5_raise_13 rfl (lv_at hl 2 rfl) ?_
    refine x_bipush (v := nI 9) X dX5_raise_14 (by decide) ?_
    refine x_callSie X hW (As := [.int v, .int (nI 9)]) (rest := []) (c_X5_isFrom0To l D cI cZ cO  _ v 9 10 (show 9 + 1 = 10 from (by first | assumption | omega)) (show 9 < 1000 from (by first | assumption | omega))) (va_cwS 2 X.2.2.2.2.2.1 gX5_raise_X5_isFrom0To rfl rfl rfl (by decide +kernel) ⟨Nat.le_of_ble_eq_true rfl, Nat.le_of_ble_eq_true rfl⟩) rfl hl.1 rfl (Nat.le_of_ble_eq_true rfl) ⟨Nat.le_of_ble_eq_true rfl, Nat.le_of_ble_eq_true rfl⟩ dX5_raise_16 (fun r3 u4 H locs w16 hW => ?_)
    have hW : Wd D A s.heap H locs (wX cI cZ xq xa xg xh ++ (wC cI cZ (xa 1) ca cg cF ++ (wS cI cZ (xa 4) za zg zh zk zF))) := hW
    replace w16 : (r3 = nI 1 ∧ (inR v 10) ∨ r3 = nI 0 ∧ ¬ (inR v 10)) := w16
    rcases w16 with ⟨w16, h16⟩ | ⟨w16, h16⟩
    · subst w16
      obtain ⟨vn, hvn, rfl⟩ := inR_ex ((Iff.refl (inR v 10)).mp h16) (by omega)
      have gv : inR (nI vn) 10 := (inR_nI (by omega)).mpr hvn
      refine n_if_eq X 29 dX5_raise_19 (by decide) (by decide) (fun c19 => by exact absurd c19 (by decide)) (fun c19 => ?_)
      refine x_iload_n X dX5_raise_22 rfl (lv_at hl 3 rfl) ?_
      refine x_callSie X hW (As := [.int k]) (rest := []) (c_X5_isPlaceOfRow l D cI cZ cO  _ k) (va_cwS 1 X.2.2.2.2.2.1 gX5_raise_X5_isPlaceOfRow rfl rfl rfl (by decide +kernel) ⟨Nat.le_of_ble_eq_true rfl, Nat.le_of_ble_eq_true rfl⟩) rfl hl.1 rfl (Nat.le_of_ble_eq_true rfl) ⟨Nat.le_of_ble_eq_true rfl, Nat.le_of_ble_eq_true rfl⟩ dX5_raise_23 (fun r5 u6 H locs w23 hW => ?_)
      have hW : Wd D A s.heap H locs (wX cI cZ xq xa xg xh ++ (wC cI cZ (xa 1) ca cg cF ++ (wS cI cZ (xa 4) za zg zh zk zF))) := hW
      replace w23 : (r5 = nI 1 ∧ (okK k) ∨ r5 = nI 0 ∧ ¬ (okK k)) := w23
      rcases w23 with ⟨w23, h23⟩ | ⟨w23, h23⟩
      · subst w23
        have gk := h23
        refine n_if_ne X 32 dX5_raise_26 (by decide) (by decide) (fun c26 => ?_) (fun c26 => by exact absurd c26 (by decide))
        refine x_aload_n X dX5_raise_32 rfl (lv_at hl 0 rfl) ?_
        refine x_get X hW (v := .ref (xa 4)) hi5 0 rfl rfl 4 (by decide) (List.mem_of_getElem? (i := 2) rfl) rfl rfl dX5_raise_33 ?_
        refine x_iload_n X dX5_raise_36 rfl (lv_at hl 1 rfl) ?_
        refine x_iload_n X dX5_raise_37 rfl (lv_at hl 2 rfl) ?_
        refine x_callVv X hW (As := [.int (nI j), .int (nI vn)]) (rest := []) (wz := fun u => (wX cI cZ xq xa xg xh ++ (wC cI cZ (xa 1) ca cg cF ++ (wS cI cZ (xa 4) za (sF (sF (sF zg 9 0) 10 j) 11 vn) zh zk zF)))) (c_X2_aimAtLevel l D cI cZ cO (xa 4) za zg zh zk zF _ j vn) (cwV 2 X.2.2.2.2.2.1 gX5_raise_X2_aimAtLevel rfl rfl rfl (by decide +kernel) ⟨Nat.le_of_ble_eq_true rfl, Nat.le_of_ble_eq_true rfl⟩) 5 2 rfl rfl rfl [5, 6, 7, 8] [0, 1, 2, 3, 4] [0, 1, 2, 3, 4, 5, 6, 7, 8] rfl rfl (by decide) (fun _ => rfl) rfl hl.1 rfl (Nat.le_of_ble_eq_true rfl) ⟨Nat.le_of_ble_eq_true rfl, Nat.le_of_ble_eq_true rfl⟩ dX5_raise_38 (fun u8 H locs w38 hW => ?_)
        have hW : Wd D A s.heap H locs (wX cI cZ xq xa xg xh ++ (wC cI cZ (xa 1) ca cg cF ++ (wS cI cZ (xa 4) za (sF (sF (sF zg 9 0) 10 j) 11 vn) zh zk zF))) := hW
        replace w38 : True := w38
        refine x_aload_n X dX5_raise_41 rfl (lv_at hl 0 rfl) ?_
        refine x_get X hW (v := .ref (xa 4)) hi5 0 rfl rfl 4 (by decide) (List.mem_of_getElem? (i := 2) rfl) rfl rfl dX5_raise_42 ?_
        refine x_aload_n X dX5_raise_45 rfl (lv_at hl 0 rfl) ?_
        refine x_get X hW (v := .ref (xa 1)) hi5 0 rfl rfl 1 (by decide) (List.mem_of_getElem? (i := 1) rfl) rfl rfl dX5_raise_46 ?_
        refine x_iconst (v := nI 3) X dX5_raise_49 (by decide) ?_
        refine x_callVv X hW (As := [.ref (xa 1), .int (nI 3)]) (rest := []) (wz := fun u => (wX cI cZ xq xa xg xh ++ (wC cI cZ (xa 1) ca cg cF ++ (wS cI cZ (xa 4) za (sF (sF (sF (sF (sF (sF (sF zg 2 u.2.2.1) 6 ((cg 0) - 1)) 7 (cg 1)) 8 (wnN ((cg 0)) ((cF 2)) ((cF 4)))) 9 0) 10 j) 11 vn) (sF zh 4 u.2.2.2.2.1) u.2.2.2.2.2 (sF (sF (sF zF 0 u.1) 1 u.2.1) 3 u.2.2.2.1))))) (c_X2_look l D cI cZ cO (xa 4) za (sF (sF (sF zg 9 0) 10 j) 11 vn) zh zk zF (xa 1) ca cg cF _ 3 (show 3 < 4 from (by decide)) (show SK ((zF 0)) ((zF 1)) ((zg 2)) ((zh 4)) zk ((zF 3)) from (by first | assumption | omega)) (show 2 ≤ (cg 0) from (by omega)) (show (cg 0) ≤ 4 from (by first | assumption | omega)) (show ∀ z0, (cF 2) z0 ≤ 2 from (by first | assumption | omega)) (show ∀ z0, (cF 3) z0 ≤ 9 from (by first | assumption | omega)) (show ∀ z0, (cF 4) z0 ≤ 9 from (by first | assumption | omega)) (show (cg 1) ≤ 3 from (by first | assumption | omega)) (show 0 ≤ 1 from (by decide)) (show j < 4 from (by omega)) (show vn ≤ 9 from (by omega))) (cwV 2 X.2.2.2.2.2.1 gX5_raise_X2_look rfl rfl rfl (by decide +kernel) ⟨Nat.le_of_ble_eq_true rfl, Nat.le_of_ble_eq_true rfl⟩) 5 2 rfl rfl rfl [5, 6, 7, 8, 1, 2, 3, 4] [0] [0, 5, 6, 7, 8, 1, 2, 3, 4] rfl rfl (by decide) (fun _ => rfl) rfl hl.1 rfl (Nat.le_of_ble_eq_true rfl) ⟨Nat.le_of_ble_eq_true rfl, Nat.le_of_ble_eq_true rfl⟩ dX5_raise_50 (fun u16 H locs w50 hW => ?_)
        obtain ⟨o1_9, o2_10, o3_11, o4_12, o5_13, o6_14⟩ := u16
        have hW : Wd D A s.heap H locs (wX cI cZ xq xa xg xh ++ (wC cI cZ (xa 1) ca cg cF ++ (wS cI cZ (xa 4) za (sF (sF (sF (sF (sF (sF (sF zg 2 o3_11) 6 ((cg 0) - 1)) 7 (cg 1)) 8 (wnN ((cg 0)) ((cF 2)) ((cF 4)))) 9 0) 10 j) 11 vn) (sF zh 4 o5_13) o6_14 (sF (sF (sF zF 0 o1_9) 1 o2_10) 3 o4_12)))) := hW
        replace w50 : SK o1_9 o2_10 o3_11 o5_13 o6_14 o4_12 ∧ RowSt (nxW ((cg 0)) ((cg 1)) (wnN ((cg 0)) ((cF 2)) ((cF 4)))) ((cg 0)) (wy ((cg 0)) 3 ((cF 3))) (GZ (0) (j) (vn)) o5_13 o4_12 := w50
        refine x_aload_n X dX5_raise_53 rfl (lv_at hl 0 rfl) ?_
        refine x_get X hW (v := .ref (xa 4)) hi5 0 rfl rfl 4 (by decide) (List.mem_of_getElem? (i := 2) rfl) rfl rfl dX5_raise_54 ?_
        refine x_iload_n X dX5_raise_57 rfl (lv_at hl 3 rfl) ?_
        refine x_callVi X hW (As := [.int k]) (rest := []) (wz := fun u => (wX cI cZ xq xa xg xh ++ (wC cI cZ (xa 1) ca cg cF ++ (wS cI cZ (xa 4) za (sF (sF (sF (sF (sF (sF (sF zg 2 o3_11) 6 ((cg 0) - 1)) 7 (cg 1)) 8 (wnN ((cg 0)) ((cF 2)) ((cF 4)))) 9 0) 10 j) 11 vn) (sF zh 4 o5_13) o6_14 (sF (sF (sF zF 0 o1_9) 1 o2_10) 3 o4_12))))) (c_X2_actAt l D cI cZ cO (xa 4) za (sF (sF (sF (sF (sF (sF (sF zg 2 o3_11) 6 ((cg 0) - 1)) 7 (cg 1)) 8 (wnN ((cg 0)) ((cF 2)) ((cF 4)))) 9 0) 10 j) 11 vn) (sF zh 4 o5_13) o6_14 (sF (sF (sF zF 0 o1_9) 1 o2_10) 3 o4_12) _ k (nxW (cg 0) (cg 1) (wnN (cg 0) (cF 2) (cF 4))) (cg 0) (wy (cg 0) 3 (cF 3)) (GZ 0 j vn) (show RowSt (nxW (cg 0) (cg 1) (wnN (cg 0) (cF 2) (cF 4))) (cg 0) (wy (cg 0) 3 (cF 3)) (GZ 0 j vn) (o5_13) (o4_12) from w50.2) (show okK k from gk)) (cwV 1 X.2.2.2.2.2.1 gX5_raise_X2_actAt rfl rfl rfl (by decide +kernel) ⟨Nat.le_of_ble_eq_true rfl, Nat.le_of_ble_eq_true rfl⟩) 5 2 rfl rfl rfl [5, 6, 7, 8] [0, 1, 2, 3, 4] [0, 1, 2, 3, 4, 5, 6, 7, 8] rfl rfl (by decide) (fun _ => rfl) rfl hl.1 rfl (Nat.le_of_ble_eq_true rfl) ⟨Nat.le_of_ble_eq_true rfl, Nat.le_of_ble_eq_true rfl⟩ dX5_raise_58 (fun r17 u18 H locs w58 hW => ?_)
        have hW : Wd D A s.heap H locs (wX cI cZ xq xa xg xh ++ (wC cI cZ (xa 1) ca cg cF ++ (wS cI cZ (xa 4) za (sF (sF (sF (sF (sF (sF (sF zg 2 o3_11) 6 ((cg 0) - 1)) 7 (cg 1)) 8 (wnN ((cg 0)) ((cF 2)) ((cF 4)))) 9 0) 10 j) 11 vn) (sF zh 4 o5_13) o6_14 (sF (sF (sF zF 0 o1_9) 1 o2_10) 3 o4_12)))) := hW
        replace w58 : RowAns (nxW (cg 0) (cg 1) (wnN (cg 0) (cF 2) (cF 4))) (cg 0) (wy (cg 0) 3 (cF 3)) (GZ 0 j vn) k r17 := w58
        exact x_iret X hW rfl (o1_9, o2_10, o3_11, o4_12, o5_13, o6_14, (cg 0) - 1, (cg 1), wnN ((cg 0)) ((cF 2)) ((cF 4)), 0, j, vn) (⟨by unfold RaiseAns; rw [onR_in hj (by omega)]; rw [if_pos ⟨gv, gk⟩]; exact RowAns_cg (GW_lev hvn) w58, w50.1⟩) rfl dX5_raise_61
      · subst w23
        refine n_if_ne X 32 dX5_raise_26 (by decide) (by decide) (fun c26 => by exact absurd c26 (by decide)) (fun c26 => ?_)
        refine x_bipush (v := (-2 : Int32)) X dX5_raise_29 (by decide) ?_
        exact x_iret X hW rfl (zF 0, zF 1, zg 2, zF 3, zh 4, zk, zg 6, zg 7, zg 8, zg 9, zg 10, zg 11) (⟨by unfold RaiseAns; rw [onR_in hj (by omega)]; rw [if_neg (fun q => h23 q.2)], hsk⟩) rfl dX5_raise_31
    · subst w16
      have gv := fun q => h16 ((Iff.refl (inR v 10)).mpr q)
      refine n_if_eq X 29 dX5_raise_19 (by decide) (by decide) (fun c19 => ?_) (fun c19 => by exact absurd c19 (by decide))
      refine x_bipush (v := (-2 : Int32)) X dX5_raise_29 (by decide) ?_
      exact x_iret X hW rfl (zF 0, zF 1, zg 2, zF 3, zh 4, zk, zg 6, zg 7, zg 8, zg 9, zg 10, zg 11) (⟨by unfold RaiseAns; rw [onR_in hj (by omega)]; rw [if_neg (fun q => gv q.1)], hsk⟩) rfl dX5_raise_31
  · subst w5
    have gx0 := fun q => h5 ((Iff.refl (inR x0 (cg 0))).mpr q)
    refine n_if_ne X 13 dX5_raise_8 (by decide) (by decide) (fun c8 => by exact absurd c8 (by decide)) (fun c8 => ?_)
    refine x_iconst (v := (-1 : Int32)) X dX5_raise_11 (by decide) ?_
    exact x_iret X hW rfl (zF 0, zF 1, zg 2, zF 3, zh 4, zk, zg 6, zg 7, zg 8, zg 9, zg 10, zg 11) (⟨by unfold RaiseAns; rw [onR_out gx0], hsk⟩) rfl dX5_raise_12
set_option maxHeartbeats 4000000 in
set_option maxRecDepth 100000 in
theorem c_X5_reading (l : Launch) (D : va_G) (cI cZ cO : ClassId) (xq : Nat) (xa : Nat → Nat) (xg : Nat → Nat) (xh : Nat → Int32) (ca : Nat → Nat) (cg : Nat → Nat) (cF : Nat → Nat → Nat) (ra : Nat → Nat) (rg : Nat → Nat) (rF : Nat → Nat → Nat) (rE : Nat → Nat → Int32) (sz : Nat) (q0 : Int32) (v : Int32) (d : Nat)  (hn : cg 0 ≤ 4) (hrc : rg 0 ≤ 8) (hd : d ≤ 1) : Met l yX5_reading wsX5_reading ({ frames := 1, cells := 0, slots := 0, locals := 23 }) (va_Pc [.ref xq, .int q0, .int v, .int (nI d)] (st_W D (ty3 cI cZ cO) (wX cI cZ xq xa xg xh ++ (wC cI cZ (xa 1) ca cg cF ++ (wR cI cZ (xa 3) ra rg rF rE))) sz)) (va_Qi (fun (rr : Int32) (u : Unit) => rr = aRead (cg 0) (rg 0) q0 v) (fun u t => at_W D (ty3 cI cZ cO) (va_A (wX cI cZ xq xa xg xh ++ (wC cI cZ (xa 1) ca cg cF ++ (wR cI cZ (xa 3) ra rg rF rE))) sz) (wX cI cZ xq xa xg xh ++ (wC cI cZ (xa 1) ca cg cF ++ (wR cI cZ (xa 3) ra (sF rg 0 (sRead (cg 0) (rg 0) q0 v (rg 0) (fun _ => rg 0 + 1))) (sF (sF rF 1 (sRead (cg 0) (rg 0) q0 v (rF 1) (fun j => sF (rF 1) (rg 0) j))) 3 (sRead (cg 0) (rg 0) q0 v (rF 3) (fun _ => sF (rF 3) (rg 0) d))) (sF rE 2 (sRead (cg 0) (rg 0) q0 v (rE 2) (fun _ => sF (rE 2) (rg 0) v)))))) t) (va_A (wX cI cZ xq xa xg xh ++ (wC cI cZ (xa 1) ca cg cF ++ (wR cI cZ (xa 3) ra rg rF rE))) sz)) 0 0 (va_A (wX cI cZ xq xa xg xh ++ (wC cI cZ (xa 1) ca cg cF ++ (wR cI cZ (xa 3) ra rg rF rE))) sz) := by
  refine Met.goi (cc := cX5_reading) (maxL := 4) (ret := (some .int)) (by decide) rfl (Nat.le_of_ble_eq_true rfl) (fun p e s m below meth c A ls X hW hl => ?_)
  have hi5 : ∀ w ∈ wsX50, w ∈ wsX5_reading := fun w h => List.mem_cons_of_mem _ (List.mem_append_left _ (List.mem_append_left _ (List.mem_append_right _ h)))
  have hi1 : ∀ w ∈ wsX10, w ∈ wsX5_reading := fun w h => List.mem_cons_of_mem _ (List.mem_append_left _ (List.mem_append_right _ h))
  have hi0 : ∀ w ∈ wsX00, w ∈ wsX5_reading := fun w h => List.mem_cons_of_mem _ (List.mem_append_right _ h)
  have hl : lv_has ls 4 [(0, .ref xq), (1, .int q0), (2, .int v), (3, .int (nI d))] := hl
  refine x_aload_n X dX5_reading_0 rfl (lv_at hl 0 rfl) ?_
  refine x_get X hW (v := .ref (xa 1)) hi5 0 rfl rfl 1 (by decide) (List.mem_of_getElem? (i := 1) rfl) rfl rfl dX5_reading_1 ?_
  refine x_iload_n X dX5_reading_4 rfl (lv_at hl 1 rfl) ?_
  refine x_callVi X hW (As := [.int q0]) (rest := []) (wz := fun u => (wX cI cZ xq xa xg xh ++ (wC cI cZ (xa 1) ca cg cF ++ (wR cI cZ (xa 3) ra rg rF rE)))) (c_X0_has l D cI cZ cO (xa 1) ca cg cF _ q0 (show (cg 0) ≤ 4 from (by first | assumption | omega))) (cwV 1 X.2.2.2.2.2.1 gX5_reading_X0_has rfl rfl rfl (by decide +kernel) ⟨Nat.le_of_ble_eq_true rfl, Nat.le_of_ble_eq_true rfl⟩) 1 0 rfl rfl rfl [1, 2, 3, 4] [0, 5, 6, 7, 8] [0, 5, 6, 7, 8, 1, 2, 3, 4] rfl rfl (by decide) (fun _ => rfl) rfl hl.1 rfl (Nat.le_of_ble_eq_true rfl) ⟨Nat.le_of_ble_eq_true rfl, Nat.le_of_ble_eq_true rfl⟩ dX5_reading_5 (fun r1 u2 H locs w5 hW => ?_)
  have hW : Wd D A s.heap H locs (wX cI cZ xq xa xg xh ++ (wC cI cZ (xa 1) ca cg cF ++ (wR cI cZ (xa 3) ra rg rF rE))) := hW
  replace w5 : (r1 = nI 1 ∧ (inR q0 ((cg 0))) ∨ r1 = nI 0 ∧ ¬ (inR q0 ((cg 0)))) := w5
  rcases w5 with ⟨w5, h5⟩ | ⟨w5, h5⟩
  · subst w5
    obtain ⟨j, hj, rfl⟩ := inR_ex ((Iff.refl (inR q0 (cg 0))).mp h5) (by omega)
    refine n_if_ne X 13 dX5_reading_8 (by decide) (by decide) (fun c8 => ?_) (fun c8 => by exact absurd c8 (by decide))
    refine x_iload_n X dX5_reading_13 rfl (lv_at hl 2 rfl) ?_
    refine x_bipush (v := (-9 : Int32)) X dX5_reading_14 (by decide) ?_
    refine x_icmp_eq X 31 dX5_reading_16 (by decide) (fun c16 => ?_) (fun c16 => ?_)
    · have gok : v = -9 ∨ inR v 10 := by first | exact Or.inl c16 | exact Or.inr gv
      refine x_aload_n X dX5_reading_31 rfl (lv_at hl 0 rfl) ?_
      refine x_get X hW (v := .ref (xa 3)) hi5 0 rfl rfl 3 (by decide) (List.mem_of_getElem? (i := 2) rfl) rfl rfl dX5_reading_32 ?_
      refine x_iload_n X dX5_reading_35 rfl (lv_at hl 1 rfl) ?_
      refine x_iload_n X dX5_reading_36 rfl (lv_at hl 2 rfl) ?_
      refine x_iload_n X dX5_reading_37 rfl (lv_at hl 3 rfl) ?_
      refine x_callVi X hW (As := [.int (nI j), .int v, .int (nI d)]) (rest := []) (wz := fun u => (wX cI cZ xq xa xg xh ++ (wC cI cZ (xa 1) ca cg cF ++ (wR cI cZ (xa 3) ra (sF rg 0 (if (rg 0) < 8 then (rg 0) + 1 else (rg 0))) (sF (sF rF 1 (if (rg 0) < 8 then sF ((rF 1)) ((rg 0)) j else (rF 1))) 3 (if (rg 0) < 8 then sF ((rF 3)) ((rg 0)) d else (rF 3))) (sF rE 2 (if (rg 0) < 8 then sF ((rE 2)) ((rg 0)) v else (rE 2))))))) (c_X1_note l D cI cZ cO (xa 3) ra rg rF rE _ j v d (show (rg 0) ≤ 8 from (by first | assumption | omega)) (show d ≤ 1 from (by first | assumption | omega))) (cwV 3 X.2.2.2.2.2.1 gX5_reading_X1_note rfl rfl rfl (by decide +kernel) ⟨Nat.le_of_ble_eq_true rfl, Nat.le_of_ble_eq_true rfl⟩) 5 1 rfl rfl rfl [5, 6, 7, 8] [0, 1, 2, 3, 4] [0, 1, 2, 3, 4, 5, 6, 7, 8] rfl rfl (by decide) (fun _ => rfl) rfl hl.1 rfl (Nat.le_of_ble_eq_true rfl) ⟨Nat.le_of_ble_eq_true rfl, Nat.le_of_ble_eq_true rfl⟩ dX5_reading_38 (fun r3 u4 H locs w38 hW => ?_)
      have hW : Wd D A s.heap H locs (wX cI cZ xq xa xg xh ++ (wC cI cZ (xa 1) ca cg cF ++ (wR cI cZ (xa 3) ra (sF rg 0 (if (rg 0) < 8 then (rg 0) + 1 else (rg 0))) (sF (sF rF 1 (if (rg 0) < 8 then sF ((rF 1)) ((rg 0)) j else (rF 1))) 3 (if (rg 0) < 8 then sF ((rF 3)) ((rg 0)) d else (rF 3))) (sF rE 2 (if (rg 0) < 8 then sF ((rE 2)) ((rg 0)) v else (rE 2)))))) := hW
      replace w38 : (r3 = nI 1 ∧ ((rg 0) < 8) ∨ r3 = nI 0 ∧ ¬ ((rg 0) < 8)) := w38
      rcases w38 with ⟨w38, h38⟩ | ⟨w38, h38⟩
      · subst w38
        have hW : Wd D A s.heap H locs (wX cI cZ xq xa xg xh ++ (wC cI cZ (xa 1) ca cg cF ++ (wR cI cZ (xa 3) ra (sF rg 0 (rg 0 + 1)) (sF (sF rF 1 (if (rg 0) < 8 then sF ((rF 1)) ((rg 0)) j else (rF 1))) 3 (if (rg 0) < 8 then sF ((rF 3)) ((rg 0)) d else (rF 3))) (sF rE 2 (if (rg 0) < 8 then sF ((rE 2)) ((rg 0)) v else (rE 2)))))) := hW.eq (congrArg (fun z => (wX cI cZ xq xa xg xh ++ (wC cI cZ (xa 1) ca cg cF ++ (wR cI cZ (xa 3) ra (sF rg 0 z) (sF (sF rF 1 (if (rg 0) < 8 then sF ((rF 1)) ((rg 0)) j else (rF 1))) 3 (if (rg 0) < 8 then sF ((rF 3)) ((rg 0)) d else (rF 3))) (sF rE 2 (if (rg 0) < 8 then sF ((rE 2)) ((rg 0)) v else (rE 2))))))) (show (if (rg 0) < 8 then (rg 0) + 1 else (rg 0)) = (rg 0 + 1) from by exact if_pos h38))
        have hW : Wd D A s.heap H locs (wX cI cZ xq xa xg xh ++ (wC cI cZ (xa 1) ca cg cF ++ (wR cI cZ (xa 3) ra (sF rg 0 (rg 0 + 1)) (sF (sF rF 1 (sF (rF 1) (rg 0) j)) 3 (if (rg 0) < 8 then sF ((rF 3)) ((rg 0)) d else (rF 3))) (sF rE 2 (if (rg 0) < 8 then sF ((rE 2)) ((rg 0)) v else (rE 2)))))) := hW.eq (congrArg (fun z => (wX cI cZ xq xa xg xh ++ (wC cI cZ (xa 1) ca cg cF ++ (wR cI cZ (xa 3) ra (sF rg 0 (rg 0 + 1)) (sF (sF rF 1 z) 3 (if (rg 0) < 8 then sF ((rF 3)) ((rg 0)) d else (rF 3))) (sF rE 2 (if (rg 0) < 8 then sF ((rE 2)) ((rg 0)) v else (rE 2))))))) (show (if (rg 0) < 8 then sF ((rF 1)) ((rg 0)) j else (rF 1)) = (sF (rF 1) (rg 0) j) from by exact if_pos h38))
        have hW : Wd D A s.heap H locs (wX cI cZ xq xa xg xh ++ (wC cI cZ (xa 1) ca cg cF ++ (wR cI cZ (xa 3) ra (sF rg 0 (rg 0 + 1)) (sF (sF rF 1 (sF (rF 1) (rg 0) j)) 3 (if (rg 0) < 8 then sF ((rF 3)) ((rg 0)) d else (rF 3))) (sF rE 2 (sF (rE 2) (rg 0) v))))) := hW.eq (congrArg (fun z => (wX cI cZ xq xa xg xh ++ (wC cI cZ (xa 1) ca cg cF ++ (wR cI cZ (xa 3) ra (sF rg 0 (rg 0 + 1)) (sF (sF rF 1 (sF (rF 1) (rg 0) j)) 3 (if (rg 0) < 8 then sF ((rF 3)) ((rg 0)) d else (rF 3))) (sF rE 2 z))))) (show (if (rg 0) < 8 then sF ((rE 2)) ((rg 0)) v else (rE 2)) = (sF (rE 2) (rg 0) v) from by exact if_pos h38))
        have hW : Wd D A s.heap H locs (wX cI cZ xq xa xg xh ++ (wC cI cZ (xa 1) ca cg cF ++ (wR cI cZ (xa 3) ra (sF rg 0 (rg 0 + 1)) (sF (sF rF 1 (sF (rF 1) (rg 0) j)) 3 (sF (rF 3) (rg 0) d)) (sF rE 2 (sF (rE 2) (rg 0) v))))) := hW.eq (congrArg (fun z => (wX cI cZ xq xa xg xh ++ (wC cI cZ (xa 1) ca cg cF ++ (wR cI cZ (xa 3) ra (sF rg 0 (rg 0 + 1)) (sF (sF rF 1 (sF (rF 1) (rg 0) j)) 3 z) (sF rE 2 (sF (rE 2) (rg 0) v)))))) (show (if (rg 0) < 8 then sF ((rF 3)) ((rg 0)) d else (rF 3)) = (sF (rF 3) (rg 0) d) from by exact if_pos h38))
        refine n_if_eq X 56 dX5_reading_41 (by decide) (by decide) (fun c41 => by exact absurd c41 (by decide)) (fun c41 => ?_)
        refine x_aload_n X dX5_reading_44 rfl (lv_at hl 0 rfl) ?_
        refine x_get X hW (v := .ref (xa 3)) hi5 0 rfl rfl 3 (by decide) (List.mem_of_getElem? (i := 2) rfl) rfl rfl dX5_reading_45 ?_
        refine x_get X hW (v := .int (nI (rg 0 + 1))) hi1 5 rfl rfl 0 (by decide) (List.mem_of_getElem? (i := 3) rfl) rfl rfl dX5_reading_48 ?_
        refine x_iconst (v := nI 1) X dX5_reading_51 (by decide) ?_
        refine n_isub X dX5_reading_52 (by omega) ?_
        refine n_as0 (b := rg 0) (Nat.add_sub_cancel _ _) ?_
        refine x_goto X 58 dX5_reading_53 (by decide) ?_
        exact x_iret X hW rfl () ((by unfold aRead; (try rw [onR_in hj (by omega)]); (try rw [if_neg (not_not_intro gok)]); (try rw [if_neg (show ¬ rg 0 = 8 by omega)]); (try rfl))) (Eq.trans (Eq.trans (Eq.trans (congrArg (fun z => (wX cI cZ xq xa xg xh ++ (wC cI cZ (xa 1) ca cg cF ++ (wR cI cZ (xa 3) ra (sF rg 0 z) (sF (sF rF 1 (sF (rF 1) (rg 0) j)) 3 (sF (rF 3) (rg 0) d)) (sF rE 2 (sF (rE 2) (rg 0) v)))))) (show (rg 0 + 1) = (sRead (cg 0) (rg 0) (nI j) v (rg 0) (fun _ => rg 0 + 1)) from by unfold sRead; (try rw [onR_in hj (by omega)]); (try rw [if_neg (not_not_intro gok)]); (try rw [if_neg (show ¬ rg 0 = 8 by omega)]); (try rfl))) (congrArg (fun z => (wX cI cZ xq xa xg xh ++ (wC cI cZ (xa 1) ca cg cF ++ (wR cI cZ (xa 3) ra (sF rg 0 (sRead (cg 0) (rg 0) (nI j) v (rg 0) (fun _ => rg 0 + 1))) (sF (sF rF 1 z) 3 (sF (rF 3) (rg 0) d)) (sF rE 2 (sF (rE 2) (rg 0) v)))))) (show (sF (rF 1) (rg 0) j) = (sRead (cg 0) (rg 0) (nI j) v (rF 1) (fun j => sF (rF 1) (rg 0) j)) from by unfold sRead; (try rw [onR_in hj (by omega)]); (try rw [if_neg (not_not_intro gok)]); (try rw [if_neg (show ¬ rg 0 = 8 by omega)]); (try rfl)))) (congrArg (fun z => (wX cI cZ xq xa xg xh ++ (wC cI cZ (xa 1) ca cg cF ++ (wR cI cZ (xa 3) ra (sF rg 0 (sRead (cg 0) (rg 0) (nI j) v (rg 0) (fun _ => rg 0 + 1))) (sF (sF rF 1 (sRead (cg 0) (rg 0) (nI j) v (rF 1) (fun j => sF (rF 1) (rg 0) j))) 3 (sF (rF 3) (rg 0) d)) (sF rE 2 z))))) (show (sF (rE 2) (rg 0) v) = (sRead (cg 0) (rg 0) (nI j) v (rE 2) (fun _ => sF (rE 2) (rg 0) v)) from by unfold sRead; (try rw [onR_in hj (by omega)]); (try rw [if_neg (not_not_intro gok)]); (try rw [if_neg (show ¬ rg 0 = 8 by omega)]); (try rfl)))) (congrArg (fun z => (wX cI cZ xq xa xg xh ++ (wC cI cZ (xa 1) ca cg cF ++ (wR cI cZ (xa 3) ra (sF rg 0 (sRead (cg 0) (rg 0) (nI j) v (rg 0) (fun _ => rg 0 + 1))) (sF (sF rF 1 (sRead (cg 0) (rg 0) (nI j) v (rF 1) (fun j => sF (rF 1) (rg 0) j))) 3 z) (sF rE 2 (sRead (cg 0) (rg 0) (nI j) v (rE 2) (fun _ => sF (rE 2) (rg 0) v))))))) (show (sF (rF 3) (rg 0) d) = (sRead (cg 0) (rg 0) (nI j) v (rF 3) (fun _ => sF (rF 3) (rg 0) d)) from by unfold sRead; (try rw [onR_in hj (by omega)]); (try rw [if_neg (not_not_intro gok)]); (try rw [if_neg (show ¬ rg 0 = 8 by omega)]); (try rfl)))) dX5_reading_58
      · subst w38
        have hW : Wd D A s.heap H locs (wX cI cZ xq xa xg xh ++ (wC cI cZ (xa 1) ca cg cF ++ (wR cI cZ (xa 3) ra (sF rg 0 (rg 0)) (sF (sF rF 1 (if (rg 0) < 8 then sF ((rF 1)) ((rg 0)) j else (rF 1))) 3 (if (rg 0) < 8 then sF ((rF 3)) ((rg 0)) d else (rF 3))) (sF rE 2 (if (rg 0) < 8 then sF ((rE 2)) ((rg 0)) v else (rE 2)))))) := hW.eq (congrArg (fun z => (wX cI cZ xq xa xg xh ++ (wC cI cZ (xa 1) ca cg cF ++ (wR cI cZ (xa 3) ra (sF rg 0 z) (sF (sF rF 1 (if (rg 0) < 8 then sF ((rF 1)) ((rg 0)) j else (rF 1))) 3 (if (rg 0) < 8 then sF ((rF 3)) ((rg 0)) d else (rF 3))) (sF rE 2 (if (rg 0) < 8 then sF ((rE 2)) ((rg 0)) v else (rE 2))))))) (show (if (rg 0) < 8 then (rg 0) + 1 else (rg 0)) = (rg 0) from by exact if_neg h38))
        have hW : Wd D A s.heap H locs (wX cI cZ xq xa xg xh ++ (wC cI cZ (xa 1) ca cg cF ++ (wR cI cZ (xa 3) ra (sF rg 0 (rg 0)) (sF (sF rF 1 (rF 1)) 3 (if (rg 0) < 8 then sF ((rF 3)) ((rg 0)) d else (rF 3))) (sF rE 2 (if (rg 0) < 8 then sF ((rE 2)) ((rg 0)) v else (rE 2)))))) := hW.eq (congrArg (fun z => (wX cI cZ xq xa xg xh ++ (wC cI cZ (xa 1) ca cg cF ++ (wR cI cZ (xa 3) ra (sF rg 0 (rg 0)) (sF (sF rF 1 z) 3 (if (rg 0) < 8 then sF ((rF 3)) ((rg 0)) d else (rF 3))) (sF rE 2 (if (rg 0) < 8 then sF ((rE 2)) ((rg 0)) v else (rE 2))))))) (show (if (rg 0) < 8 then sF ((rF 1)) ((rg 0)) j else (rF 1)) = (rF 1) from by exact if_neg h38))
        have hW : Wd D A s.heap H locs (wX cI cZ xq xa xg xh ++ (wC cI cZ (xa 1) ca cg cF ++ (wR cI cZ (xa 3) ra (sF rg 0 (rg 0)) (sF (sF rF 1 (rF 1)) 3 (if (rg 0) < 8 then sF ((rF 3)) ((rg 0)) d else (rF 3))) (sF rE 2 (rE 2))))) := hW.eq (congrArg (fun z => (wX cI cZ xq xa xg xh ++ (wC cI cZ (xa 1) ca cg cF ++ (wR cI cZ (xa 3) ra (sF rg 0 (rg 0)) (sF (sF rF 1 (rF 1)) 3 (if (rg 0) < 8 then sF ((rF 3)) ((rg 0)) d else (rF 3))) (sF rE 2 z))))) (show (if (rg 0) < 8 then sF ((rE 2)) ((rg 0)) v else (rE 2)) = (rE 2) from by exact if_neg h38))
        have hW : Wd D A s.heap H locs (wX cI cZ xq xa xg xh ++ (wC cI cZ (xa 1) ca cg cF ++ (wR cI cZ (xa 3) ra (sF rg 0 (rg 0)) (sF (sF rF 1 (rF 1)) 3 (rF 3)) (sF rE 2 (rE 2))))) := hW.eq (congrArg (fun z => (wX cI cZ xq xa xg xh ++ (wC cI cZ (xa 1) ca cg cF ++ (wR cI cZ (xa 3) ra (sF rg 0 (rg 0)) (sF (sF rF 1 (rF 1)) 3 z) (sF rE 2 (rE 2)))))) (show (if (rg 0) < 8 then sF ((rF 3)) ((rg 0)) d else (rF 3)) = (rF 3) from by exact if_neg h38))
        refine n_if_eq X 56 dX5_reading_41 (by decide) (by decide) (fun c41 => ?_) (fun c41 => by exact absurd c41 (by decide))
        refine x_bipush (v := (-4 : Int32)) X dX5_reading_56 (by decide) ?_
        exact x_iret X hW rfl () ((by unfold aRead; (try rw [onR_in hj (by omega)]); (try rw [if_neg (not_not_intro gok)]); (try rw [if_pos (show rg 0 = 8 by omega)]); (try rfl))) (Eq.trans (Eq.trans (Eq.trans (congrArg (fun z => (wX cI cZ xq xa xg xh ++ (wC cI cZ (xa 1) ca cg cF ++ (wR cI cZ (xa 3) ra (sF rg 0 z) (sF (sF rF 1 (rF 1)) 3 (rF 3)) (sF rE 2 (rE 2)))))) (show (rg 0) = (sRead (cg 0) (rg 0) (nI j) v (rg 0) (fun _ => rg 0 + 1)) from by unfold sRead; (try rw [onR_in hj (by omega)]); (try rw [if_neg (not_not_intro gok)]); (try rw [if_pos (show rg 0 = 8 by omega)]); (try rfl))) (congrArg (fun z => (wX cI cZ xq xa xg xh ++ (wC cI cZ (xa 1) ca cg cF ++ (wR cI cZ (xa 3) ra (sF rg 0 (sRead (cg 0) (rg 0) (nI j) v (rg 0) (fun _ => rg 0 + 1))) (sF (sF rF 1 z) 3 (rF 3)) (sF rE 2 (rE 2)))))) (show (rF 1) = (sRead (cg 0) (rg 0) (nI j) v (rF 1) (fun j => sF (rF 1) (rg 0) j)) from by unfold sRead; (try rw [onR_in hj (by omega)]); (try rw [if_neg (not_not_intro gok)]); (try rw [if_pos (show rg 0 = 8 by omega)]); (try rfl)))) (congrArg (fun z => (wX cI cZ xq xa xg xh ++ (wC cI cZ (xa 1) ca cg cF ++ (wR cI cZ (xa 3) ra (sF rg 0 (sRead (cg 0) (rg 0) (nI j) v (rg 0) (fun _ => rg 0 + 1))) (sF (sF rF 1 (sRead (cg 0) (rg 0) (nI j) v (rF 1) (fun j => sF (rF 1) (rg 0) j))) 3 (rF 3)) (sF rE 2 z))))) (show (rE 2) = (sRead (cg 0) (rg 0) (nI j) v (rE 2) (fun _ => sF (rE 2) (rg 0) v)) from by unfold sRead; (try rw [onR_in hj (by omega)]); (try rw [if_neg (not_not_intro gok)]); (try rw [if_pos (show rg 0 = 8 by omega)]); (try rfl)))) (congrArg (fun z => (wX cI cZ xq xa xg xh ++ (wC cI cZ (xa 1) ca cg cF ++ (wR cI cZ (xa 3) ra (sF rg 0 (sRead (cg 0) (rg 0) (nI j) v (rg 0) (fun _ => rg 0 + 1))) (sF (sF rF 1 (sRead (cg 0) (rg 0) (nI j) v (rF 1) (fun j => sF (rF 1) (rg 0) j))) 3 z) (sF rE 2 (sRead (cg 0) (rg 0) (nI j) v (rE 2) (fun _ => sF (rE 2) (rg 0) v))))))) (show (rF 3) = (sRead (cg 0) (rg 0) (nI j) v (rF 3) (fun _ => sF (rF 3) (rg 0) d)) from by unfold sRead; (try rw [onR_in hj (by omega)]); (try rw [if_neg (not_not_intro gok)]); (try rw [if_pos (show rg 0 = 8 by omega)]); (try rfl)))) dX5_reading_58
    · refine x_iload_n X dX5_reading_19 rfl (lv_at hl 2 rfl) ?_
      refine x_bipush (v := nI 9) X dX5_reading_20 (by decide) ?_
      refine x_callSie X hW (As := [.int v, .int (nI 9)]) (rest := []) (c_X5_isFrom0To l D cI cZ cO  _ v 9 10 (show 9 + 1 = 10 from (by first | assumption | omega)) (show 9 < 1000 from (by first | assumption | omega))) (va_cwS 2 X.2.2.2.2.2.1 gX5_reading_X5_isFrom0To rfl rfl rfl (by decide +kernel) ⟨Nat.le_of_ble_eq_true rfl, Nat.le_of_ble_eq_true rfl⟩) rfl hl.1 rfl (Nat.le_of_ble_eq_true rfl) ⟨Nat.le_of_ble_eq_true rfl, Nat.le_of_ble_eq_true rfl⟩ dX5_reading_22 (fun r5 u6 H locs w22 hW => ?_)
      have hW : Wd D A s.heap H locs (wX cI cZ xq xa xg xh ++ (wC cI cZ (xa 1) ca cg cF ++ (wR cI cZ (xa 3) ra rg rF rE))) := hW
      replace w22 : (r5 = nI 1 ∧ (inR v 10) ∨ r5 = nI 0 ∧ ¬ (inR v 10)) := w22
      rcases w22 with ⟨w22, h22⟩ | ⟨w22, h22⟩
      · subst w22
        have gv := h22
        refine n_if_ne X 31 dX5_reading_25 (by decide) (by decide) (fun c25 => ?_) (fun c25 => by exact absurd c25 (by decide))
        have gok : v = -9 ∨ inR v 10 := by first | exact Or.inl c16 | exact Or.inr gv
        refine x_aload_n X dX5_reading_31 rfl (lv_at hl 0 rfl) ?_
        refine x_get X hW (v := .ref (xa 3)) hi5 0 rfl rfl 3 (by decide) (List.mem_of_getElem? (i := 2) rfl) rfl rfl dX5_reading_32 ?_
        refine x_iload_n X dX5_reading_35 rfl (lv_at hl 1 rfl) ?_
        refine x_iload_n X dX5_reading_36 rfl (lv_at hl 2 rfl) ?_
        refine x_iload_n X dX5_reading_37 rfl (lv_at hl 3 rfl) ?_
        refine x_callVi X hW (As := [.int (nI j), .int v, .int (nI d)]) (rest := []) (wz := fun u => (wX cI cZ xq xa xg xh ++ (wC cI cZ (xa 1) ca cg cF ++ (wR cI cZ (xa 3) ra (sF rg 0 (if (rg 0) < 8 then (rg 0) + 1 else (rg 0))) (sF (sF rF 1 (if (rg 0) < 8 then sF ((rF 1)) ((rg 0)) j else (rF 1))) 3 (if (rg 0) < 8 then sF ((rF 3)) ((rg 0)) d else (rF 3))) (sF rE 2 (if (rg 0) < 8 then sF ((rE 2)) ((rg 0)) v else (rE 2))))))) (c_X1_note l D cI cZ cO (xa 3) ra rg rF rE _ j v d (show (rg 0) ≤ 8 from (by first | assumption | omega)) (show d ≤ 1 from (by first | assumption | omega))) (cwV 3 X.2.2.2.2.2.1 gX5_reading_X1_note rfl rfl rfl (by decide +kernel) ⟨Nat.le_of_ble_eq_true rfl, Nat.le_of_ble_eq_true rfl⟩) 5 1 rfl rfl rfl [5, 6, 7, 8] [0, 1, 2, 3, 4] [0, 1, 2, 3, 4, 5, 6, 7, 8] rfl rfl (by decide) (fun _ => rfl) rfl hl.1 rfl (Nat.le_of_ble_eq_true rfl) ⟨Nat.le_of_ble_eq_true rfl, Nat.le_of_ble_eq_true rfl⟩ dX5_reading_38 (fun r7 u8 H locs w38 hW => ?_)
        have hW : Wd D A s.heap H locs (wX cI cZ xq xa xg xh ++ (wC cI cZ (xa 1) ca cg cF ++ (wR cI cZ (xa 3) ra (sF rg 0 (if (rg 0) < 8 then (rg 0) + 1 else (rg 0))) (sF (sF rF 1 (if (rg 0) < 8 then sF ((rF 1)) ((rg 0)) j else (rF 1))) 3 (if (rg 0) < 8 then sF ((rF 3)) ((rg 0)) d else (rF 3))) (sF rE 2 (if (rg 0) < 8 then sF ((rE 2)) ((rg 0)) v else (rE 2)))))) := hW
        replace w38 : (r7 = nI 1 ∧ ((rg 0) < 8) ∨ r7 = nI 0 ∧ ¬ ((rg 0) < 8)) := w38
        rcases w38 with ⟨w38, h38⟩ | ⟨w38, h38⟩
        · subst w38
          have hW : Wd D A s.heap H locs (wX cI cZ xq xa xg xh ++ (wC cI cZ (xa 1) ca cg cF ++ (wR cI cZ (xa 3) ra (sF rg 0 (rg 0 + 1)) (sF (sF rF 1 (if (rg 0) < 8 then sF ((rF 1)) ((rg 0)) j else (rF 1))) 3 (if (rg 0) < 8 then sF ((rF 3)) ((rg 0)) d else (rF 3))) (sF rE 2 (if (rg 0) < 8 then sF ((rE 2)) ((rg 0)) v else (rE 2)))))) := hW.eq (congrArg (fun z => (wX cI cZ xq xa xg xh ++ (wC cI cZ (xa 1) ca cg cF ++ (wR cI cZ (xa 3) ra (sF rg 0 z) (sF (sF rF 1 (if (rg 0) < 8 then sF ((rF 1)) ((rg 0)) j else (rF 1))) 3 (if (rg 0) < 8 then sF ((rF 3)) ((rg 0)) d else (rF 3))) (sF rE 2 (if (rg 0) < 8 then sF ((rE 2)) ((rg 0)) v else (rE 2))))))) (show (if (rg 0) < 8 then (rg 0) + 1 else (rg 0)) = (rg 0 + 1) from by exact if_pos h38))
          have hW : Wd D A s.heap H locs (wX cI cZ xq xa xg xh ++ (wC cI cZ (xa 1) ca cg cF ++ (wR cI cZ (xa 3) ra (sF rg 0 (rg 0 + 1)) (sF (sF rF 1 (sF (rF 1) (rg 0) j)) 3 (if (rg 0) < 8 then sF ((rF 3)) ((rg 0)) d else (rF 3))) (sF rE 2 (if (rg 0) < 8 then sF ((rE 2)) ((rg 0)) v else (rE 2)))))) := hW.eq (congrArg (fun z => (wX cI cZ xq xa xg xh ++ (wC cI cZ (xa 1) ca cg cF ++ (wR cI cZ (xa 3) ra (sF rg 0 (rg 0 + 1)) (sF (sF rF 1 z) 3 (if (rg 0) < 8 then sF ((rF 3)) ((rg 0)) d else (rF 3))) (sF rE 2 (if (rg 0) < 8 then sF ((rE 2)) ((rg 0)) v else (rE 2))))))) (show (if (rg 0) < 8 then sF ((rF 1)) ((rg 0)) j else (rF 1)) = (sF (rF 1) (rg 0) j) from by exact if_pos h38))
          have hW : Wd D A s.heap H locs (wX cI cZ xq xa xg xh ++ (wC cI cZ (xa 1) ca cg cF ++ (wR cI cZ (xa 3) ra (sF rg 0 (rg 0 + 1)) (sF (sF rF 1 (sF (rF 1) (rg 0) j)) 3 (if (rg 0) < 8 then sF ((rF 3)) ((rg 0)) d else (rF 3))) (sF rE 2 (sF (rE 2) (rg 0) v))))) := hW.eq (congrArg (fun z => (wX cI cZ xq xa xg xh ++ (wC cI cZ (xa 1) ca cg cF ++ (wR cI cZ (xa 3) ra (sF rg 0 (rg 0 + 1)) (sF (sF rF 1 (sF (rF 1) (rg 0) j)) 3 (if (rg 0) < 8 then sF ((rF 3)) ((rg 0)) d else (rF 3))) (sF rE 2 z))))) (show (if (rg 0) < 8 then sF ((rE 2)) ((rg 0)) v else (rE 2)) = (sF (rE 2) (rg 0) v) from by exact if_pos h38))
          have hW : Wd D A s.heap H locs (wX cI cZ xq xa xg xh ++ (wC cI cZ (xa 1) ca cg cF ++ (wR cI cZ (xa 3) ra (sF rg 0 (rg 0 + 1)) (sF (sF rF 1 (sF (rF 1) (rg 0) j)) 3 (sF (rF 3) (rg 0) d)) (sF rE 2 (sF (rE 2) (rg 0) v))))) := hW.eq (congrArg (fun z => (wX cI cZ xq xa xg xh ++ (wC cI cZ (xa 1) ca cg cF ++ (wR cI cZ (xa 3) ra (sF rg 0 (rg 0 + 1)) (sF (sF rF 1 (sF (rF 1) (rg 0) j)) 3 z) (sF rE 2 (sF (rE 2) (rg 0) v)))))) (show (if (rg 0) < 8 then sF ((rF 3)) ((rg 0)) d else (rF 3)) = (sF (rF 3) (rg 0) d) from by exact if_pos h38))
          refine n_if_eq X 56 dX5_reading_41 (by decide) (by decide) (fun c41 => by exact absurd c41 (by decide)) (fun c41 => ?_)
          refine x_aload_n X dX5_reading_44 rfl (lv_at hl 0 rfl) ?_
          refine x_get X hW (v := .ref (xa 3)) hi5 0 rfl rfl 3 (by decide) (List.mem_of_getElem? (i := 2) rfl) rfl rfl dX5_reading_45 ?_
          refine x_get X hW (v := .int (nI (rg 0 + 1))) hi1 5 rfl rfl 0 (by decide) (List.mem_of_getElem? (i := 3) rfl) rfl rfl dX5_reading_48 ?_
          refine x_iconst (v := nI 1) X dX5_reading_51 (by decide) ?_
          refine n_isub X dX5_reading_52 (by omega) ?_
          refine n_as0 (b := rg 0) (Nat.add_sub_cancel _ _) ?_
          refine x_goto X 58 dX5_reading_53 (by decide) ?_
          exact x_iret X hW rfl () ((by unfold aRead; (try rw [onR_in hj (by omega)]); (try rw [if_neg (not_not_intro gok)]); (try rw [if_neg (show ¬ rg 0 = 8 by omega)]); (try rfl))) (Eq.trans (Eq.trans (Eq.trans (congrArg (fun z => (wX cI cZ xq xa xg xh ++ (wC cI cZ (xa 1) ca cg cF ++ (wR cI cZ (xa 3) ra (sF rg 0 z) (sF (sF rF 1 (sF (rF 1) (rg 0) j)) 3 (sF (rF 3) (rg 0) d)) (sF rE 2 (sF (rE 2) (rg 0) v)))))) (show (rg 0 + 1) = (sRead (cg 0) (rg 0) (nI j) v (rg 0) (fun _ => rg 0 + 1)) from by unfold sRead; (try rw [onR_in hj (by omega)]); (try rw [if_neg (not_not_intro gok)]); (try rw [if_neg (show ¬ rg 0 = 8 by omega)]); (try rfl))) (congrArg (fun z => (wX cI cZ xq xa xg xh ++ (wC cI cZ (xa 1) ca cg cF ++ (wR cI cZ (xa 3) ra (sF rg 0 (sRead (cg 0) (rg 0) (nI j) v (rg 0) (fun _ => rg 0 + 1))) (sF (sF rF 1 z) 3 (sF (rF 3) (rg 0) d)) (sF rE 2 (sF (rE 2) (rg 0) v)))))) (show (sF (rF 1) (rg 0) j) = (sRead (cg 0) (rg 0) (nI j) v (rF 1) (fun j => sF (rF 1) (rg 0) j)) from by unfold sRead; (try rw [onR_in hj (by omega)]); (try rw [if_neg (not_not_intro gok)]); (try rw [if_neg (show ¬ rg 0 = 8 by omega)]); (try rfl)))) (congrArg (fun z => (wX cI cZ xq xa xg xh ++ (wC cI cZ (xa 1) ca cg cF ++ (wR cI cZ (xa 3) ra (sF rg 0 (sRead (cg 0) (rg 0) (nI j) v (rg 0) (fun _ => rg 0 + 1))) (sF (sF rF 1 (sRead (cg 0) (rg 0) (nI j) v (rF 1) (fun j => sF (rF 1) (rg 0) j))) 3 (sF (rF 3) (rg 0) d)) (sF rE 2 z))))) (show (sF (rE 2) (rg 0) v) = (sRead (cg 0) (rg 0) (nI j) v (rE 2) (fun _ => sF (rE 2) (rg 0) v)) from by unfold sRead; (try rw [onR_in hj (by omega)]); (try rw [if_neg (not_not_intro gok)]); (try rw [if_neg (show ¬ rg 0 = 8 by omega)]); (try rfl)))) (congrArg (fun z => (wX cI cZ xq xa xg xh ++ (wC cI cZ (xa 1) ca cg cF ++ (wR cI cZ (xa 3) ra (sF rg 0 (sRead (cg 0) (rg 0) (nI j) v (rg 0) (fun _ => rg 0 + 1))) (sF (sF rF 1 (sRead (cg 0) (rg 0) (nI j) v (rF 1) (fun j => sF (rF 1) (rg 0) j))) 3 z) (sF rE 2 (sRead (cg 0) (rg 0) (nI j) v (rE 2) (fun _ => sF (rE 2) (rg 0) v))))))) (show (sF (rF 3) (rg 0) d) = (sRead (cg 0) (rg 0) (nI j) v (rF 3) (fun _ => sF (rF 3) (rg 0) d)) from by unfold sRead; (try rw [onR_in hj (by omega)]); (try rw [if_neg (not_not_intro gok)]); (try rw [if_neg (show ¬ rg 0 = 8 by omega)]); (try rfl)))) dX5_reading_58
        · subst w38
          have hW : Wd D A s.heap H locs (wX cI cZ xq xa xg xh ++ (wC cI cZ (xa 1) ca cg cF ++ (wR cI cZ (xa 3) ra (sF rg 0 (rg 0)) (sF (sF rF 1 (if (rg 0) < 8 then sF ((rF 1)) ((rg 0)) j else (rF 1))) 3 (if (rg 0) < 8 then sF ((rF 3)) ((rg 0)) d else (rF 3))) (sF rE 2 (if (rg 0) < 8 then sF ((rE 2)) ((rg 0)) v else (rE 2)))))) := hW.eq (congrArg (fun z => (wX cI cZ xq xa xg xh ++ (wC cI cZ (xa 1) ca cg cF ++ (wR cI cZ (xa 3) ra (sF rg 0 z) (sF (sF rF 1 (if (rg 0) < 8 then sF ((rF 1)) ((rg 0)) j else (rF 1))) 3 (if (rg 0) < 8 then sF ((rF 3)) ((rg 0)) d else (rF 3))) (sF rE 2 (if (rg 0) < 8 then sF ((rE 2)) ((rg 0)) v else (rE 2))))))) (show (if (rg 0) < 8 then (rg 0) + 1 else (rg 0)) = (rg 0) from by exact if_neg h38))
          have hW : Wd D A s.heap H locs (wX cI cZ xq xa xg xh ++ (wC cI cZ (xa 1) ca cg cF ++ (wR cI cZ (xa 3) ra (sF rg 0 (rg 0)) (sF (sF rF 1 (rF 1)) 3 (if (rg 0) < 8 then sF ((rF 3)) ((rg 0)) d else (rF 3))) (sF rE 2 (if (rg 0) < 8 then sF ((rE 2)) ((rg 0)) v else (rE 2)))))) := hW.eq (congrArg (fun z => (wX cI cZ xq xa xg xh ++ (wC cI cZ (xa 1) ca cg cF ++ (wR cI cZ (xa 3) ra (sF rg 0 (rg 0)) (sF (sF rF 1 z) 3 (if (rg 0) < 8 then sF ((rF 3)) ((rg 0)) d else (rF 3))) (sF rE 2 (if (rg 0) < 8 then sF ((rE 2)) ((rg 0)) v else (rE 2))))))) (show (if (rg 0) < 8 then sF ((rF 1)) ((rg 0)) j else (rF 1)) = (rF 1) from by exact if_neg h38))
          have hW : Wd D A s.heap H locs (wX cI cZ xq xa xg xh ++ (wC cI cZ (xa 1) ca cg cF ++ (wR cI cZ (xa 3) ra (sF rg 0 (rg 0)) (sF (sF rF 1 (rF 1)) 3 (if (rg 0) < 8 then sF ((rF 3)) ((rg 0)) d else (rF 3))) (sF rE 2 (rE 2))))) := hW.eq (congrArg (fun z => (wX cI cZ xq xa xg xh ++ (wC cI cZ (xa 1) ca cg cF ++ (wR cI cZ (xa 3) ra (sF rg 0 (rg 0)) (sF (sF rF 1 (rF 1)) 3 (if (rg 0) < 8 then sF ((rF 3)) ((rg 0)) d else (rF 3))) (sF rE 2 z))))) (show (if (rg 0) < 8 then sF ((rE 2)) ((rg 0)) v else (rE 2)) = (rE 2) from by exact if_neg h38))
          have hW : Wd D A s.heap H locs (wX cI cZ xq xa xg xh ++ (wC cI cZ (xa 1) ca cg cF ++ (wR cI cZ (xa 3) ra (sF rg 0 (rg 0)) (sF (sF rF 1 (rF 1)) 3 (rF 3)) (sF rE 2 (rE 2))))) := hW.eq (congrArg (fun z => (wX cI cZ xq xa xg xh ++ (wC cI cZ (xa 1) ca cg cF ++ (wR cI cZ (xa 3) ra (sF rg 0 (rg 0)) (sF (sF rF 1 (rF 1)) 3 z) (sF rE 2 (rE 2)))))) (show (if (rg 0) < 8 then sF ((rF 3)) ((rg 0)) d else (rF 3)) = (rF 3) from by exact if_neg h38))
          refine n_if_eq X 56 dX5_reading_41 (by decide) (by decide) (fun c41 => ?_) (fun c41 => by exact absurd c41 (by decide))
          refine x_bipush (v := (-4 : Int32)) X dX5_reading_56 (by decide) ?_
          exact x_iret X hW rfl () ((by unfold aRead; (try rw [onR_in hj (by omega)]); (try rw [if_neg (not_not_intro gok)]); (try rw [if_pos (show rg 0 = 8 by omega)]); (try rfl))) (Eq.trans (Eq.trans (Eq.trans (congrArg (fun z => (wX cI cZ xq xa xg xh ++ (wC cI cZ (xa 1) ca cg cF ++ (wR cI cZ (xa 3) ra (sF rg 0 z) (sF (sF rF 1 (rF 1)) 3 (rF 3)) (sF rE 2 (rE 2)))))) (show (rg 0) = (sRead (cg 0) (rg 0) (nI j) v (rg 0) (fun _ => rg 0 + 1)) from by unfold sRead; (try rw [onR_in hj (by omega)]); (try rw [if_neg (not_not_intro gok)]); (try rw [if_pos (show rg 0 = 8 by omega)]); (try rfl))) (congrArg (fun z => (wX cI cZ xq xa xg xh ++ (wC cI cZ (xa 1) ca cg cF ++ (wR cI cZ (xa 3) ra (sF rg 0 (sRead (cg 0) (rg 0) (nI j) v (rg 0) (fun _ => rg 0 + 1))) (sF (sF rF 1 z) 3 (rF 3)) (sF rE 2 (rE 2)))))) (show (rF 1) = (sRead (cg 0) (rg 0) (nI j) v (rF 1) (fun j => sF (rF 1) (rg 0) j)) from by unfold sRead; (try rw [onR_in hj (by omega)]); (try rw [if_neg (not_not_intro gok)]); (try rw [if_pos (show rg 0 = 8 by omega)]); (try rfl)))) (congrArg (fun z => (wX cI cZ xq xa xg xh ++ (wC cI cZ (xa 1) ca cg cF ++ (wR cI cZ (xa 3) ra (sF rg 0 (sRead (cg 0) (rg 0) (nI j) v (rg 0) (fun _ => rg 0 + 1))) (sF (sF rF 1 (sRead (cg 0) (rg 0) (nI j) v (rF 1) (fun j => sF (rF 1) (rg 0) j))) 3 (rF 3)) (sF rE 2 z))))) (show (rE 2) = (sRead (cg 0) (rg 0) (nI j) v (rE 2) (fun _ => sF (rE 2) (rg 0) v)) from by unfold sRead; (try rw [onR_in hj (by omega)]); (try rw [if_neg (not_not_intro gok)]); (try rw [if_pos (show rg 0 = 8 by omega)]); (try rfl)))) (congrArg (fun z => (wX cI cZ xq xa xg xh ++ (wC cI cZ (xa 1) ca cg cF ++ (wR cI cZ (xa 3) ra (sF rg 0 (sRead (cg 0) (rg 0) (nI j) v (rg 0) (fun _ => rg 0 + 1))) (sF (sF rF 1 (sRead (cg 0) (rg 0) (nI j) v (rF 1) (fun j => sF (rF 1) (rg 0) j))) 3 z) (sF rE 2 (sRead (cg 0) (rg 0) (nI j) v (rE 2) (fun _ => sF (rE 2) (rg 0) v))))))) (show (rF 3) = (sRead (cg 0) (rg 0) (nI j) v (rF 3) (fun _ => sF (rF 3) (rg 0) d)) from by unfold sRead; (try rw [onR_in hj (by omega)]); (try rw [if_neg (not_not_intro gok)]); (try rw [if_pos (show rg 0 = 8 by omega)]); (try rfl)))) dX5_reading_58
      · subst w22
        have gv := h22
        refine n_if_ne X 31 dX5_reading_25 (by decide) (by decide) (fun c25 => by exact absurd c25 (by decide)) (fun c25 => ?_)
        refine x_bipush (v := (-2 : Int32)) X dX5_reading_28 (by decide) ?_
        exact x_iret X hW rfl () ((by unfold aRead; (try rw [onR_in hj (by omega)]); (try rw [if_pos (fun q => q.elim c16 gv)]); (try rfl))) (Eq.trans (Eq.trans (Eq.trans (congrArg (fun z => (wX cI cZ xq xa xg xh ++ (wC cI cZ (xa 1) ca cg cF ++ (wR cI cZ (xa 3) ra (sF rg 0 z) rF rE)))) (show (rg 0) = (sRead (cg 0) (rg 0) (nI j) v (rg 0) (fun _ => rg 0 + 1)) from by unfold sRead; (try rw [onR_in hj (by omega)]); (try rw [if_pos (fun q => q.elim c16 gv)]); (try rfl))) (congrArg (fun z => (wX cI cZ xq xa xg xh ++ (wC cI cZ (xa 1) ca cg cF ++ (wR cI cZ (xa 3) ra (sF rg 0 (sRead (cg 0) (rg 0) (nI j) v (rg 0) (fun _ => rg 0 + 1))) (sF rF 1 z) rE)))) (show (rF 1) = (sRead (cg 0) (rg 0) (nI j) v (rF 1) (fun j => sF (rF 1) (rg 0) j)) from by unfold sRead; (try rw [onR_in hj (by omega)]); (try rw [if_pos (fun q => q.elim c16 gv)]); (try rfl)))) (congrArg (fun z => (wX cI cZ xq xa xg xh ++ (wC cI cZ (xa 1) ca cg cF ++ (wR cI cZ (xa 3) ra (sF rg 0 (sRead (cg 0) (rg 0) (nI j) v (rg 0) (fun _ => rg 0 + 1))) (sF rF 1 (sRead (cg 0) (rg 0) (nI j) v (rF 1) (fun j => sF (rF 1) (rg 0) j))) (sF rE 2 z))))) (show (rE 2) = (sRead (cg 0) (rg 0) (nI j) v (rE 2) (fun _ => sF (rE 2) (rg 0) v)) from by unfold sRead; (try rw [onR_in hj (by omega)]); (try rw [if_pos (fun q => q.elim c16 gv)]); (try rfl)))) (congrArg (fun z => (wX cI cZ xq xa xg xh ++ (wC cI cZ (xa 1) ca cg cF ++ (wR cI cZ (xa 3) ra (sF rg 0 (sRead (cg 0) (rg 0) (nI j) v (rg 0) (fun _ => rg 0 + 1))) (sF (sF rF 1 (sRead (cg 0) (rg 0) (nI j) v (rF 1) (fun j => sF (rF 1) (rg 0) j))) 3 z) (sF rE 2 (sRead (cg 0) (rg 0) (nI j) v (rE 2) (fun _ => sF (rE 2) (rg 0) v))))))) (show (rF 3) = (sRead (cg 0) (rg 0) (nI j) v (rF 3) (fun _ => sF (rF 3) (rg 0) d)) from by unfold sRead; (try rw [onR_in hj (by omega)]); (try rw [if_pos (fun q => q.elim c16 gv)]); (try rfl)))) dX5_reading_30
  · subst w5
    have gq0 := fun q => h5 ((Iff.refl (inR q0 (cg 0))).mpr q)
    refine n_if_ne X 13 dX5_reading_8 (by decide) (by decide) (fun c8 => by exact absurd c8 (by decide)) (fun c8 => ?_)
    refine x_iconst (v := (-1 : Int32)) X dX5_reading_11 (by decide) ?_
    exact x_iret X hW rfl () ((by unfold aRead; (try rw [onR_out gq0]); (try rfl))) (Eq.trans (Eq.trans (Eq.trans (congrArg (fun z => (wX cI cZ xq xa xg xh ++ (wC cI cZ (xa 1) ca cg cF ++ (wR cI cZ (xa 3) ra (sF rg 0 z) rF rE)))) (show (rg 0) = (sRead (cg 0) (rg 0) q0 v (rg 0) (fun _ => rg 0 + 1)) from by unfold sRead; (try rw [onR_out gq0]); (try rfl))) (congrArg (fun z => (wX cI cZ xq xa xg xh ++ (wC cI cZ (xa 1) ca cg cF ++ (wR cI cZ (xa 3) ra (sF rg 0 (sRead (cg 0) (rg 0) q0 v (rg 0) (fun _ => rg 0 + 1))) (sF rF 1 z) rE)))) (show (rF 1) = (sRead (cg 0) (rg 0) q0 v (rF 1) (fun j => sF (rF 1) (rg 0) j)) from by unfold sRead; (try rw [onR_out gq0]); (try rfl)))) (congrArg (fun z => (wX cI cZ xq xa xg xh ++ (wC cI cZ (xa 1) ca cg cF ++ (wR cI cZ (xa 3) ra (sF rg 0 (sRead (cg 0) (rg 0) q0 v (rg 0) (fun _ => rg 0 + 1))) (sF rF 1 (sRead (cg 0) (rg 0) q0 v (rF 1) (fun j => sF (rF 1) (rg 0) j))) (sF rE 2 z))))) (show (rE 2) = (sRead (cg 0) (rg 0) q0 v (rE 2) (fun _ => sF (rE 2) (rg 0) v)) from by unfold sRead; (try rw [onR_out gq0]); (try rfl)))) (congrArg (fun z => (wX cI cZ xq xa xg xh ++ (wC cI cZ (xa 1) ca cg cF ++ (wR cI cZ (xa 3) ra (sF rg 0 (sRead (cg 0) (rg 0) q0 v (rg 0) (fun _ => rg 0 + 1))) (sF (sF rF 1 (sRead (cg 0) (rg 0) q0 v (rF 1) (fun j => sF (rF 1) (rg 0) j))) 3 z) (sF rE 2 (sRead (cg 0) (rg 0) q0 v (rE 2) (fun _ => sF (rE 2) (rg 0) v))))))) (show (rF 3) = (sRead (cg 0) (rg 0) q0 v (rF 3) (fun _ => sF (rF 3) (rg 0) d)) from by unfold sRead; (try rw [onR_out gq0]); (try rfl)))) dX5_reading_12
set_option maxHeartbeats 4000000 in
set_option maxRecDepth 100000 in
theorem c_X5_back (l : Launch) (D : va_G) (cI cZ cO : ClassId) (xq : Nat) (xa : Nat → Nat) (xg : Nat → Nat) (xh : Nat → Int32) (ra : Nat → Nat) (rg : Nat → Nat) (rF : Nat → Nat → Nat) (rE : Nat → Nat → Int32) (sz : Nat) (k : Int32)  (hrc : rg 0 ≤ 8) : Met l yX5_back wsX5_back ({ frames := 1, cells := 0, slots := 0, locals := 21 }) (va_Pc [.ref xq, .int k] (st_W D (ty3 cI cZ cO) (wX cI cZ xq xa xg xh ++ (wR cI cZ (xa 3) ra rg rF rE)) sz)) (va_Qi (fun (rr : Int32) (u : Unit) => rr = aBack (rg 0) k) (fun u t => at_W D (ty3 cI cZ cO) (va_A (wX cI cZ xq xa xg xh ++ (wR cI cZ (xa 3) ra rg rF rE)) sz) (wX cI cZ xq xa xg xh ++ (wR cI cZ (xa 3) ra (sF rg 0 (sBack (rg 0) k)) rF rE)) t) (va_A (wX cI cZ xq xa xg xh ++ (wR cI cZ (xa 3) ra rg rF rE)) sz)) 0 0 (va_A (wX cI cZ xq xa xg xh ++ (wR cI cZ (xa 3) ra rg rF rE)) sz) := by
  refine Met.goi (cc := cX5_back) (maxL := 2) (ret := (some .int)) (by decide) rfl (Nat.le_of_ble_eq_true rfl) (fun p e s m below meth c A ls X hW hl => ?_)
  have hi5 : ∀ w ∈ wsX50, w ∈ wsX5_back := fun w h => List.mem_cons_of_mem _ (List.mem_append_left _ (List.mem_append_right _ h))
  have hi1 : ∀ w ∈ wsX10, w ∈ wsX5_back := fun w h => List.mem_cons_of_mem _ (List.mem_append_right _ h)
  have hl : lv_has ls 2 [(0, .ref xq), (1, .int k)] := hl
  refine x_iload_n X dX5_back_0 rfl (lv_at hl 1 rfl) ?_
  refine x_aload_n X dX5_back_1 rfl (lv_at hl 0 rfl) ?_
  refine x_get X hW (v := .ref (xa 3)) hi5 0 rfl rfl 3 (by decide) (List.mem_of_getElem? (i := 1) rfl) rfl rfl dX5_back_2 ?_
  refine x_get X hW (v := .int (nI (rg 0))) hi1 1 rfl rfl 0 (by decide) (List.mem_of_getElem? (i := 2) rfl) rfl rfl dX5_back_5 ?_
  refine x_callSie X hW (As := [.int k, .int (nI (rg 0))]) (rest := []) (c_X5_isFrom0To l D cI cZ cO  _ k (rg 0) (rg 0 + 1) (show (rg 0) + 1 = (rg 0 + 1) from (by first | assumption | omega)) (show (rg 0) < 1000 from (by first | assumption | omega))) (va_cwS 2 X.2.2.2.2.2.1 gX5_back_X5_isFrom0To rfl rfl rfl (by decide +kernel) ⟨Nat.le_of_ble_eq_true rfl, Nat.le_of_ble_eq_true rfl⟩) rfl hl.1 rfl (Nat.le_of_ble_eq_true rfl) ⟨Nat.le_of_ble_eq_true rfl, Nat.le_of_ble_eq_true rfl⟩ dX5_back_8 (fun r1 u2 H locs w8 hW => ?_)
  have hW : Wd D A s.heap H locs (wX cI cZ xq xa xg xh ++ (wR cI cZ (xa 3) ra rg rF rE)) := hW
  replace w8 : (r1 = nI 1 ∧ (inR k (rg 0 + 1)) ∨ r1 = nI 0 ∧ ¬ (inR k (rg 0 + 1))) := w8
  rcases w8 with ⟨w8, h8⟩ | ⟨w8, h8⟩
  · subst w8
    obtain ⟨kk, hkk, rfl⟩ := inR_ex ((Iff.refl (inR k (rg 0 + 1))).mp h8) (by omega)
    refine n_if_ne X 17 dX5_back_11 (by decide) (by decide) (fun c11 => ?_) (fun c11 => by exact absurd c11 (by decide))
    refine x_aload_n X dX5_back_17 rfl (lv_at hl 0 rfl) ?_
    refine x_get X hW (v := .ref (xa 3)) hi5 0 rfl rfl 3 (by decide) (List.mem_of_getElem? (i := 1) rfl) rfl rfl dX5_back_18 ?_
    refine x_dup X dX5_back_21 rfl ?_
    refine x_get X hW (v := .int (nI (rg 0))) hi1 1 rfl rfl 0 (by decide) (List.mem_of_getElem? (i := 2) rfl) rfl rfl dX5_back_22 ?_
    refine x_iload_n X dX5_back_25 rfl (lv_at hl 1 rfl) ?_
    refine n_isub X dX5_back_26 (by omega) ?_
    refine x_put X hW (v := .int (nI (rg 0 - kk))) hi1 tyX1 tyX1_ok nmX1 1 rfl rfl 0 (by decide) (List.mem_of_getElem? (i := 2) rfl) rfl rfl rfl rfl (Nat.le_of_ble_eq_true rfl) dX5_back_27 (wX cI cZ xq xa xg xh ++ (wR cI cZ (xa 3) ra (sF rg 0 (rg 0 - kk)) rF rE)) rfl (fun H locs hW => ?_)
    refine x_aload_n X dX5_back_30 rfl (lv_at hl 0 rfl) ?_
    refine x_get X hW (v := .ref (xa 3)) hi5 0 rfl rfl 3 (by decide) (List.mem_of_getElem? (i := 1) rfl) rfl rfl dX5_back_31 ?_
    refine x_get X hW (v := .int (nI (rg 0 - kk))) hi1 1 rfl rfl 0 (by decide) (List.mem_of_getElem? (i := 2) rfl) rfl rfl dX5_back_34 ?_
    exact x_iret X hW rfl () ((by unfold aBack; (try rw [onR_in hkk (by omega)]); (try rfl))) (congrArg (fun z => (wX cI cZ xq xa xg xh ++ (wR cI cZ (xa 3) ra (sF rg 0 z) rF rE))) (show (rg 0 - kk) = (sBack (rg 0) (nI kk)) from by unfold sBack; (try rw [onR_in hkk (by omega)]); (try rfl))) dX5_back_37
  · subst w8
    have gk := fun q => h8 ((Iff.refl (inR k (rg 0 + 1))).mpr q)
    refine n_if_ne X 17 dX5_back_11 (by decide) (by decide) (fun c11 => by exact absurd c11 (by decide)) (fun c11 => ?_)
    refine x_bipush (v := (-2 : Int32)) X dX5_back_14 (by decide) ?_
    exact x_iret X hW rfl () ((by unfold aBack; (try rw [onR_out gk]); (try rfl))) (congrArg (fun z => (wX cI cZ xq xa xg xh ++ (wR cI cZ (xa 3) ra (sF rg 0 z) rF rE))) (show (rg 0) = (sBack (rg 0) k) from by unfold sBack; (try rw [onR_out gk]); (try rfl))) dX5_back_16
set_option maxHeartbeats 4000000 in
set_option maxRecDepth 100000 in
theorem c_X5_many (l : Launch) (D : va_G) (cI cZ cO : ClassId) (xq : Nat) (xa : Nat → Nat) (xg : Nat → Nat) (xh : Nat → Int32) (ca : Nat → Nat) (cg : Nat → Nat) (cF : Nat → Nat → Nat) (ra : Nat → Nat) (rg : Nat → Nat) (rF : Nat → Nat → Nat) (rE : Nat → Nat → Int32) (sz : Nat) (w : Int32)  (hn : cg 0 ≤ 4) (hlv : ∀ z0, cF 3 z0 ≤ 9) : Met l yX5_many wsX5_many ({ frames := 3, cells := 0, slots := 0, locals := 64 }) (va_Pc [.ref xq, .int w] (st_W D (ty3 cI cZ cO) (wX cI cZ xq xa xg xh ++ (wC cI cZ (xa 1) ca cg cF ++ (wR cI cZ (xa 3) ra rg rF rE))) sz)) (va_Qi (fun (rr : Int32) (u : Unit) => rr = aMany (cg 0) (cg 1) (rg 0) (cF 3) w) (fun u t => at_W D (ty3 cI cZ cO) (va_A (wX cI cZ xq xa xg xh ++ (wC cI cZ (xa 1) ca cg cF ++ (wR cI cZ (xa 3) ra rg rF rE))) sz) (wX cI cZ xq xa xg xh ++ (wC cI cZ (xa 1) ca cg cF ++ (wR cI cZ (xa 3) ra rg rF rE))) t) (va_A (wX cI cZ xq xa xg xh ++ (wC cI cZ (xa 1) ca cg cF ++ (wR cI cZ (xa 3) ra rg rF rE))) sz)) 0 0 (va_A (wX cI cZ xq xa xg xh ++ (wC cI cZ (xa 1) ca cg cF ++ (wR cI cZ (xa 3) ra rg rF rE))) sz) := by
  refine Met.goi (cc := cX5_many) (maxL := 2) (ret := (some .int)) (by decide) rfl (Nat.le_of_ble_eq_true rfl) (fun p e s m below meth c A ls X hW hl => ?_)
  have hi5 : ∀ w ∈ wsX50, w ∈ wsX5_many := fun w h => List.mem_cons_of_mem _ (List.mem_append_left _ (List.mem_append_left _ (List.mem_append_right _ h)))
  have hi0 : ∀ w ∈ wsX00, w ∈ wsX5_many := fun w h => List.mem_cons_of_mem _ (List.mem_append_left _ (List.mem_append_right _ h))
  have hi1 : ∀ w ∈ wsX10, w ∈ wsX5_many := fun w h => List.mem_cons_of_mem _ (List.mem_append_right _ h)
  have hl : lv_has ls 2 [(0, .ref xq), (1, .int w)] := hl
  refine x_iload_n X dX5_many_0 rfl (lv_at hl 1 rfl) ?_
  rcases (show ¬ inR w 4 ∨ w = nI 0 ∨ w = nI 1 ∨ w = nI 2 ∨ w = nI 3 from sw4 w) with hq | rfl | rfl | rfl | rfl
  · have gw := hq
    refine lv_tableOut (tgt := 64) X.1 X.2.1 dX5_many_1 (by have z1 := gw; omega) (by decide) ?_
    refine x_bipush (v := (-2 : Int32)) X dX5_many_64 (by decide) ?_
    exact x_iret X hW rfl () ((by unfold aMany; (try rw [onR_out gw]); (try rfl))) rfl dX5_many_66
  · refine lv_tableIn (off := 31) (tgt := 32) X.1 X.2.1 dX5_many_1 (by decide) (by decide) (by decide) (by decide) ?_
    refine x_aload_n X dX5_many_32 rfl (lv_at hl 0 rfl) ?_
    refine x_get X hW (v := .ref (xa 1)) hi5 0 rfl rfl 1 (by decide) (List.mem_of_getElem? (i := 1) rfl) rfl rfl dX5_many_33 ?_
    refine x_get X hW (v := .int (nI (cg 0))) hi0 1 rfl rfl 0 (by decide) (List.mem_of_getElem? (i := 2) rfl) rfl rfl dX5_many_36 ?_
    exact x_iret X hW rfl () ((by unfold aMany; (try rw [onR_in (by decide) (by decide)]); (try rw [aMany0]); (try rfl))) rfl dX5_many_39
  · refine lv_tableIn (off := 39) (tgt := 40) X.1 X.2.1 dX5_many_1 (by decide) (by decide) (by decide) (by decide) ?_
    refine x_aload_n X dX5_many_40 rfl (lv_at hl 0 rfl) ?_
    refine x_get X hW (v := .ref (xa 1)) hi5 0 rfl rfl 1 (by decide) (List.mem_of_getElem? (i := 1) rfl) rfl rfl dX5_many_41 ?_
    refine x_get X hW (v := .int (nI (cg 1))) hi0 1 rfl rfl 1 (by decide) (List.mem_of_getElem? (i := 3) rfl) rfl rfl dX5_many_44 ?_
    exact x_iret X hW rfl () ((by unfold aMany; (try rw [onR_in (by decide) (by decide)]); (try rw [aMany1]); (try rfl))) rfl dX5_many_47
  · refine lv_tableIn (off := 47) (tgt := 48) X.1 X.2.1 dX5_many_1 (by decide) (by decide) (by decide) (by decide) ?_
    refine x_aload_n X dX5_many_48 rfl (lv_at hl 0 rfl) ?_
    refine x_get X hW (v := .ref (xa 1)) hi5 0 rfl rfl 1 (by decide) (List.mem_of_getElem? (i := 1) rfl) rfl rfl dX5_many_49 ?_
    refine x_callVi X hW (As := []) (rest := []) (wz := fun u => (wX cI cZ xq xa xg xh ++ (wC cI cZ (xa 1) ca cg cF ++ (wR cI cZ (xa 3) ra rg rF rE)))) (c_X0_levelsTogether l D cI cZ cO (xa 1) ca cg cF _ (show (cg 0) ≤ 4 from (by first | assumption | omega)) (show ∀ z0, (cF 3) z0 ≤ 9 from (by first | assumption | omega))) (cwV 0 X.2.2.2.2.2.1 gX5_many_X0_levelsTogether rfl rfl rfl (by decide +kernel) ⟨Nat.le_of_ble_eq_true rfl, Nat.le_of_ble_eq_true rfl⟩) 1 0 rfl rfl rfl [1, 2, 3, 4] [0, 5, 6, 7, 8] [0, 5, 6, 7, 8, 1, 2, 3, 4] rfl rfl (by decide) (fun _ => rfl) rfl hl.1 rfl (Nat.le_of_ble_eq_true rfl) ⟨Nat.le_of_ble_eq_true rfl, Nat.le_of_ble_eq_true rfl⟩ dX5_many_52 (fun r1 u2 H locs w52 hW => ?_)
    have hW : Wd D A s.heap H locs (wX cI cZ xq xa xg xh ++ (wC cI cZ (xa 1) ca cg cF ++ (wR cI cZ (xa 3) ra rg rF rE))) := hW
    replace w52 : r1 = nI (smN ((cF 3)) ((cg 0))) := w52
    subst w52
    exact x_iret X hW rfl () ((by unfold aMany; (try rw [onR_in (by decide) (by decide)]); (try rw [aMany2]); (try rfl))) rfl dX5_many_55
  · refine lv_tableIn (off := 55) (tgt := 56) X.1 X.2.1 dX5_many_1 (by decide) (by decide) (by decide) (by decide) ?_
    refine x_aload_n X dX5_many_56 rfl (lv_at hl 0 rfl) ?_
    refine x_get X hW (v := .ref (xa 3)) hi5 0 rfl rfl 3 (by decide) (List.mem_of_getElem? (i := 4) rfl) rfl rfl dX5_many_57 ?_
    refine x_get X hW (v := .int (nI (rg 0))) hi1 5 rfl rfl 0 (by decide) (List.mem_of_getElem? (i := 5) rfl) rfl rfl dX5_many_60 ?_
    exact x_iret X hW rfl () ((by unfold aMany; (try rw [onR_in (by decide) (by decide)]); (try rw [aMany3]); (try rfl))) rfl dX5_many_63
set_option maxHeartbeats 4000000 in
set_option maxRecDepth 100000 in
theorem c_X5_as (l : Launch) (D : va_G) (cI cZ cO : ClassId) (xq : Nat) (xa : Nat → Nat) (xg : Nat → Nat) (xh : Nat → Int32) (ca : Nat → Nat) (cg : Nat → Nat) (cF : Nat → Nat → Nat) (sz : Nat) (r : Int32) (w : Int32)  (hn : cg 0 ≤ 4) (hk : ∀ z0, cF 2 z0 ≤ 2) : Met l yX5_as wsX5_as ({ frames := 2, cells := 0, slots := 0, locals := 42 }) (va_Pc [.ref xq, .int r, .int w] (st_W D (ty3 cI cZ cO) (wX cI cZ xq xa xg xh ++ (wC cI cZ (xa 1) ca cg cF)) sz)) (va_Qi (fun (rr : Int32) (u : Unit) => rr = aAs (cg 0) (cF 2) r w) (fun u t => at_W D (ty3 cI cZ cO) (va_A (wX cI cZ xq xa xg xh ++ (wC cI cZ (xa 1) ca cg cF)) sz) (wX cI cZ xq xa (sF xg 6 (fAs (cg 0) (cF 2) r w)) xh ++ (wC cI cZ (xa 1) ca cg cF)) t) (va_A (wX cI cZ xq xa xg xh ++ (wC cI cZ (xa 1) ca cg cF)) sz)) 0 0 (va_A (wX cI cZ xq xa xg xh ++ (wC cI cZ (xa 1) ca cg cF)) sz) := by
  refine Met.goi (cc := cX5_as) (maxL := 3) (ret := (some .int)) (by decide) rfl (Nat.le_of_ble_eq_true rfl) (fun p e s m below meth c A ls X hW hl => ?_)
  have hi5 : ∀ w ∈ wsX50, w ∈ wsX5_as := fun w h => List.mem_cons_of_mem _ (List.mem_append_left _ (List.mem_append_right _ h))
  have hi0 : ∀ w ∈ wsX00, w ∈ wsX5_as := fun w h => List.mem_cons_of_mem _ (List.mem_append_right _ h)
  have hl : lv_has ls 3 [(0, .ref xq), (1, .int r), (2, .int w)] := hl
  refine x_aload_n X dX5_as_0 rfl (lv_at hl 0 rfl) ?_
  refine x_iconst (v := nI 0) X dX5_as_1 (by decide) ?_
  refine x_put X hW (v := .int (nI 0)) hi5 tyX5 tyX5_ok nmX5 0 rfl rfl 6 (by decide) (List.mem_of_getElem? (i := 1) rfl) rfl rfl rfl rfl (Nat.le_of_ble_eq_true rfl) dX5_as_2 (wX cI cZ xq xa (sF xg 6 0) xh ++ (wC cI cZ (xa 1) ca cg cF)) rfl (fun H locs hW => ?_)
  refine x_aload_n X dX5_as_5 rfl (lv_at hl 0 rfl) ?_
  refine x_get X hW (v := .ref (xa 1)) hi5 0 rfl rfl 1 (by decide) (List.mem_of_getElem? (i := 2) rfl) rfl rfl dX5_as_6 ?_
  refine x_iload_n X dX5_as_9 rfl (lv_at hl 1 rfl) ?_
  refine x_callVi X hW (As := [.int r]) (rest := []) (wz := fun u => (wX cI cZ xq xa (sF xg 6 0) xh ++ (wC cI cZ (xa 1) ca cg cF))) (c_X0_has l D cI cZ cO (xa 1) ca cg cF _ r (show (cg 0) ≤ 4 from (by first | assumption | omega))) (cwV 1 X.2.2.2.2.2.1 gX5_as_X0_has rfl rfl rfl (by decide +kernel) ⟨Nat.le_of_ble_eq_true rfl, Nat.le_of_ble_eq_true rfl⟩) 1 0 rfl rfl rfl [1, 2, 3, 4] [0] [0, 1, 2, 3, 4] rfl rfl (by decide) (fun _ => rfl) rfl hl.1 rfl (Nat.le_of_ble_eq_true rfl) ⟨Nat.le_of_ble_eq_true rfl, Nat.le_of_ble_eq_true rfl⟩ dX5_as_10 (fun r1 u2 H locs w10 hW => ?_)
  have hW : Wd D A s.heap H locs (wX cI cZ xq xa (sF xg 6 0) xh ++ (wC cI cZ (xa 1) ca cg cF)) := hW
  replace w10 : (r1 = nI 1 ∧ (inR r ((cg 0))) ∨ r1 = nI 0 ∧ ¬ (inR r ((cg 0)))) := w10
  rcases w10 with ⟨w10, h10⟩ | ⟨w10, h10⟩
  · subst w10
    obtain ⟨j, hj, rfl⟩ := inR_ex ((Iff.refl (inR r (cg 0))).mp h10) (by omega)
    refine n_if_ne X 18 dX5_as_13 (by decide) (by decide) (fun c13 => ?_) (fun c13 => by exact absurd c13 (by decide))
    refine x_iload_n X dX5_as_18 rfl (lv_at hl 2 rfl) ?_
    refine x_iconst (v := nI 2) X dX5_as_19 (by decide) ?_
    refine x_callSie X hW (As := [.int w, .int (nI 2)]) (rest := []) (c_X5_isFrom0To l D cI cZ cO  _ w 2 3 (show 2 + 1 = 3 from (by first | assumption | omega)) (show 2 < 1000 from (by first | assumption | omega))) (va_cwS 2 X.2.2.2.2.2.1 gX5_as_X5_isFrom0To rfl rfl rfl (by decide +kernel) ⟨Nat.le_of_ble_eq_true rfl, Nat.le_of_ble_eq_true rfl⟩) rfl hl.1 rfl (Nat.le_of_ble_eq_true rfl) ⟨Nat.le_of_ble_eq_true rfl, Nat.le_of_ble_eq_true rfl⟩ dX5_as_20 (fun r3 u4 H locs w20 hW => ?_)
    have hW : Wd D A s.heap H locs (wX cI cZ xq xa (sF xg 6 0) xh ++ (wC cI cZ (xa 1) ca cg cF)) := hW
    replace w20 : (r3 = nI 1 ∧ (inR w 3) ∨ r3 = nI 0 ∧ ¬ (inR w 3)) := w20
    rcases w20 with ⟨w20, h20⟩ | ⟨w20, h20⟩
    · subst w20
      obtain ⟨kw, hkw, rfl⟩ := inR_ex ((Iff.refl (inR w 3)).mp h20) (by omega)
      refine n_if_ne X 29 dX5_as_23 (by decide) (by decide) (fun c23 => ?_) (fun c23 => by exact absurd c23 (by decide))
      refine x_aload_n X dX5_as_29 rfl (lv_at hl 0 rfl) ?_
      refine x_get X hW (v := .ref (xa 1)) hi5 0 rfl rfl 1 (by decide) (List.mem_of_getElem? (i := 2) rfl) rfl rfl dX5_as_30 ?_
      refine x_iload_n X dX5_as_33 rfl (lv_at hl 1 rfl) ?_
      refine x_callVi X hW (As := [.int (nI j)]) (rest := []) (wz := fun u => (wX cI cZ xq xa (sF xg 6 0) xh ++ (wC cI cZ (xa 1) ca cg cF))) (c_X0_kindOf l D cI cZ cO (xa 1) ca cg cF _ j (show j < (cg 0) from (by first | assumption | omega)) (show (cg 0) ≤ 4 from (by first | assumption | omega))) (cwV 1 X.2.2.2.2.2.1 gX5_as_X0_kindOf rfl rfl rfl (by decide +kernel) ⟨Nat.le_of_ble_eq_true rfl, Nat.le_of_ble_eq_true rfl⟩) 1 0 rfl rfl rfl [1, 2, 3, 4] [0] [0, 1, 2, 3, 4] rfl rfl (by decide) (fun _ => rfl) rfl hl.1 rfl (Nat.le_of_ble_eq_true rfl) ⟨Nat.le_of_ble_eq_true rfl, Nat.le_of_ble_eq_true rfl⟩ dX5_as_34 (fun r5 u6 H locs w34 hW => ?_)
      have hW : Wd D A s.heap H locs (wX cI cZ xq xa (sF xg 6 0) xh ++ (wC cI cZ (xa 1) ca cg cF)) := hW
      replace w34 : r5 = nI ((cF 2) j) := w34
      subst w34
      have b1 := hk j
      refine x_iload_n X dX5_as_37 rfl (lv_at hl 2 rfl) ?_
      refine n_icmp_lt X 45 dX5_as_38 (by decide) (by omega) (by omega) (fun c38 => ?_) (fun c38 => ?_)
      · refine x_aload_n X dX5_as_45 rfl (lv_at hl 0 rfl) ?_
        refine x_iconst (v := nI 2) X dX5_as_46 (by decide) ?_
        refine x_callVi X hW (As := [.int (nI 2)]) (rest := []) (wz := fun u => (wX cI cZ xq xa (sF xg 6 2) xh ++ (wC cI cZ (xa 1) ca cg cF))) (c_X5_faulted l D cI cZ cO xq xa (sF xg 6 0) xh _ 2) (cwV 1 X.2.2.2.2.2.1 gX5_as_X5_faulted rfl rfl rfl (by decide +kernel) ⟨Nat.le_of_ble_eq_true rfl, Nat.le_of_ble_eq_true rfl⟩) 0 4 rfl rfl rfl [0] [1, 2, 3, 4] [4, 0, 1, 2, 3] rfl rfl (by decide) (fun _ => rfl) rfl hl.1 rfl (Nat.le_of_ble_eq_true rfl) ⟨Nat.le_of_ble_eq_true rfl, Nat.le_of_ble_eq_true rfl⟩ dX5_as_47 (fun r7 u8 H locs w47 hW => ?_)
        have hW : Wd D A s.heap H locs (wX cI cZ xq xa (sF xg 6 2) xh ++ (wC cI cZ (xa 1) ca cg cF)) := hW
        replace w47 : r7 = (-10) - nI 2 := w47
        subst w47
        exact x_iret X hW rfl () ((by unfold aAs; (try rw [onR_in hj (by omega)]); (try rw [onR_in hkw (by omega)]); (try rw [if_neg (by omega)]); (try rfl))) (congrArg (fun z => (wX cI cZ xq xa (sF xg 6 z) xh ++ (wC cI cZ (xa 1) ca cg cF))) (show 2 = (fAs (cg 0) (cF 2) (nI j) (nI kw)) from by unfold fAs; (try rw [onR_in hj (by omega)]); (try rw [onR_in hkw (by omega)]); (try rw [if_neg (by omega)]); (try rfl))) dX5_as_50
      · refine x_iconst (v := nI 1) X dX5_as_41 (by decide) ?_
        refine x_goto X 50 dX5_as_42 (by decide) ?_
        exact x_iret X hW rfl () ((by unfold aAs; (try rw [onR_in hj (by omega)]); (try rw [onR_in hkw (by omega)]); (try rw [if_pos (by omega)]); (try rfl))) (congrArg (fun z => (wX cI cZ xq xa (sF xg 6 z) xh ++ (wC cI cZ (xa 1) ca cg cF))) (show 0 = (fAs (cg 0) (cF 2) (nI j) (nI kw)) from by unfold fAs; (try rw [onR_in hj (by omega)]); (try rw [onR_in hkw (by omega)]); (try rw [if_pos (by omega)]); (try rfl))) dX5_as_50
    · subst w20
      have gw := fun q => h20 ((Iff.refl (inR w 3)).mpr q)
      refine n_if_ne X 29 dX5_as_23 (by decide) (by decide) (fun c23 => by exact absurd c23 (by decide)) (fun c23 => ?_)
      refine x_bipush (v := (-2 : Int32)) X dX5_as_26 (by decide) ?_
      exact x_iret X hW rfl () ((by unfold aAs; (try rw [onR_in hj (by omega)]); (try rw [onR_out gw]); (try rfl))) (congrArg (fun z => (wX cI cZ xq xa (sF xg 6 z) xh ++ (wC cI cZ (xa 1) ca cg cF))) (show 0 = (fAs (cg 0) (cF 2) (nI j) w) from by unfold fAs; (try rw [onR_in hj (by omega)]); (try rw [onR_out gw]); (try rfl))) dX5_as_28
  · subst w10
    have gr := fun q => h10 ((Iff.refl (inR r (cg 0))).mpr q)
    refine n_if_ne X 18 dX5_as_13 (by decide) (by decide) (fun c13 => by exact absurd c13 (by decide)) (fun c13 => ?_)
    refine x_iconst (v := (-1 : Int32)) X dX5_as_16 (by decide) ?_
    exact x_iret X hW rfl () ((by unfold aAs; (try rw [onR_out gr]); (try rfl))) (congrArg (fun z => (wX cI cZ xq xa (sF xg 6 z) xh ++ (wC cI cZ (xa 1) ca cg cF))) (show 0 = (fAs (cg 0) (cF 2) r w) from by unfold fAs; (try rw [onR_out gr]); (try rfl))) dX5_as_17
set_option maxHeartbeats 4000000 in
set_option maxRecDepth 100000 in
theorem c_X5_tellingOfMild (l : Launch) (D : va_G) (cI cZ cO : ClassId) (xq : Nat) (xa : Nat → Nat) (xg : Nat → Nat) (xh : Nat → Int32) (ca : Nat → Nat) (cg : Nat → Nat) (cF : Nat → Nat → Nat) (sz : Nat) (j : Nat)  (hj : j < cg 0) (hn : cg 0 ≤ 4) : Met l yX5_tellingOfMild wsX5_tellingOfMild ({ frames := 2, cells := 0, slots := 0, locals := 42 }) (va_Pc [.ref xq, .int (nI j)] (st_W D (ty3 cI cZ cO) (wX cI cZ xq xa xg xh ++ (wC cI cZ (xa 1) ca cg cF)) sz)) (va_Qi (fun (rr : Int32) (u : Unit) => rr = nI (cF 4 j)) (fun u t => at_W D (ty3 cI cZ cO) (va_A (wX cI cZ xq xa xg xh ++ (wC cI cZ (xa 1) ca cg cF)) sz) (wX cI cZ xq xa xg (sF xh 5 (trk 1 (xh 5))) ++ (wC cI cZ (xa 1) ca cg cF)) t) (va_A (wX cI cZ xq xa xg xh ++ (wC cI cZ (xa 1) ca cg cF)) sz)) 0 0 (va_A (wX cI cZ xq xa xg xh ++ (wC cI cZ (xa 1) ca cg cF)) sz) := by
  refine Met.goi (cc := cX5_tellingOfMild) (maxL := 2) (ret := (some .int)) (by decide) rfl (Nat.le_of_ble_eq_true rfl) (fun p e s m below meth c A ls X hW hl => ?_)
  have hi5 : ∀ w ∈ wsX50, w ∈ wsX5_tellingOfMild := fun w h => List.mem_cons_of_mem _ (List.mem_append_left _ (List.mem_append_right _ h))
  have hi0 : ∀ w ∈ wsX00, w ∈ wsX5_tellingOfMild := fun w h => List.mem_cons_of_mem _ (List.mem_append_right _ h)
  have hl : lv_has ls 2 [(0, .ref xq), (1, .int (nI j))] := hl
  refine x_aload_n X dX5_tellingOfMild_0 rfl (lv_at hl 0 rfl) ?_
  refine x_iconst (v := nI 1) X dX5_tellingOfMild_1 (by decide) ?_
  refine x_callVv X hW (As := [.int (nI 1)]) (rest := []) (wz := fun u => (wX cI cZ xq xa xg (sF xh 5 (trk 1 ((xh 5)))) ++ (wC cI cZ (xa 1) ca cg cF))) (c_X5_leave l D cI cZ cO xq xa xg xh _ 1) (cwV 1 X.2.2.2.2.2.1 gX5_tellingOfMild_X5_leave rfl rfl rfl (by decide +kernel) ⟨Nat.le_of_ble_eq_true rfl, Nat.le_of_ble_eq_true rfl⟩) 0 4 rfl rfl rfl [0] [1, 2, 3, 4] [4, 0, 1, 2, 3] rfl rfl (by decide) (fun _ => rfl) rfl hl.1 rfl (Nat.le_of_ble_eq_true rfl) ⟨Nat.le_of_ble_eq_true rfl, Nat.le_of_ble_eq_true rfl⟩ dX5_tellingOfMild_2 (fun u2 H locs w2 hW => ?_)
  have hW : Wd D A s.heap H locs (wX cI cZ xq xa xg (sF xh 5 (trk 1 ((xh 5)))) ++ (wC cI cZ (xa 1) ca cg cF)) := hW
  replace w2 : True := w2
  refine x_aload_n X dX5_tellingOfMild_5 rfl (lv_at hl 0 rfl) ?_
  refine x_get X hW (v := .ref (xa 1)) hi5 0 rfl rfl 1 (by decide) (List.mem_of_getElem? (i := 1) rfl) rfl rfl dX5_tellingOfMild_6 ?_
  refine x_iload_n X dX5_tellingOfMild_9 rfl (lv_at hl 1 rfl) ?_
  refine x_callVi X hW (As := [.int (nI j)]) (rest := []) (wz := fun u => (wX cI cZ xq xa xg (sF xh 5 (trk 1 ((xh 5)))) ++ (wC cI cZ (xa 1) ca cg cF))) (c_X0_limitOf l D cI cZ cO (xa 1) ca cg cF _ j (show j < (cg 0) from (by first | assumption | omega)) (show (cg 0) ≤ 4 from (by first | assumption | omega))) (cwV 1 X.2.2.2.2.2.1 gX5_tellingOfMild_X0_limitOf rfl rfl rfl (by decide +kernel) ⟨Nat.le_of_ble_eq_true rfl, Nat.le_of_ble_eq_true rfl⟩) 1 0 rfl rfl rfl [1, 2, 3, 4] [0] [0, 1, 2, 3, 4] rfl rfl (by decide) (fun _ => rfl) rfl hl.1 rfl (Nat.le_of_ble_eq_true rfl) ⟨Nat.le_of_ble_eq_true rfl, Nat.le_of_ble_eq_true rfl⟩ dX5_tellingOfMild_10 (fun r3 u4 H locs w10 hW => ?_)
  have hW : Wd D A s.heap H locs (wX cI cZ xq xa xg (sF xh 5 (trk 1 ((xh 5)))) ++ (wC cI cZ (xa 1) ca cg cF)) := hW
  replace w10 : r3 = nI ((cF 4) j) := w10
  subst w10
  exact x_iret X hW rfl () ((congrArg nI (show (cF 4) j = cF 4 j from by first | rfl | assumption | omega))) (congrArg (fun z => (wX cI cZ xq xa xg (sF xh 5 z) ++ (wC cI cZ (xa 1) ca cg cF))) (show (trk 1 ((xh 5))) = (trk 1 (xh 5)) from by first | rfl | omega)) dX5_tellingOfMild_13
set_option maxHeartbeats 4000000 in
set_option maxRecDepth 100000 in
theorem c_X5_tellingOfProud (l : Launch) (D : va_G) (cI cZ cO : ClassId) (xq : Nat) (xa : Nat → Nat) (xg : Nat → Nat) (xh : Nat → Int32) (ca : Nat → Nat) (cg : Nat → Nat) (cF : Nat → Nat → Nat) (sz : Nat) (j : Nat)  (hj : j < cg 0) (hn : cg 0 ≤ 4) : Met l yX5_tellingOfProud wsX5_tellingOfProud ({ frames := 3, cells := 0, slots := 0, locals := 63 }) (va_Pc [.ref xq, .int (nI j)] (st_W D (ty3 cI cZ cO) (wX cI cZ xq xa xg xh ++ (wC cI cZ (xa 1) ca cg cF)) sz)) (va_Qi (fun (rr : Int32) (u : Unit) => rr = nI (cF 4 j + 100)) (fun u t => at_W D (ty3 cI cZ cO) (va_A (wX cI cZ xq xa xg xh ++ (wC cI cZ (xa 1) ca cg cF)) sz) (wX cI cZ xq xa xg (sF xh 5 (trk 1 (trk 2 (xh 5)))) ++ (wC cI cZ (xa 1) ca cg cF)) t) (va_A (wX cI cZ xq xa xg xh ++ (wC cI cZ (xa 1) ca cg cF)) sz)) 0 0 (va_A (wX cI cZ xq xa xg xh ++ (wC cI cZ (xa 1) ca cg cF)) sz) := by
  refine Met.goi (cc := cX5_tellingOfProud) (maxL := 2) (ret := (some .int)) (by decide) rfl (Nat.le_of_ble_eq_true rfl) (fun p e s m below meth c A ls X hW hl => ?_)
  have hi5 : ∀ w ∈ wsX50, w ∈ wsX5_tellingOfProud := fun w h => List.mem_cons_of_mem _ (List.mem_append_left _ (List.mem_append_right _ h))
  have hi0 : ∀ w ∈ wsX00, w ∈ wsX5_tellingOfProud := fun w h => List.mem_cons_of_mem _ (List.mem_append_right _ h)
  have hl : lv_has ls 2 [(0, .ref xq), (1, .int (nI j))] := hl
  refine x_aload_n X dX5_tellingOfProud_0 rfl (lv_at hl 0 rfl) ?_
  refine x_iconst (v := nI 2) X dX5_tellingOfProud_1 (by decide) ?_
  refine x_callVv X hW (As := [.int (nI 2)]) (rest := []) (wz := fun u => (wX cI cZ xq xa xg (sF xh 5 (trk 2 ((xh 5)))) ++ (wC cI cZ (xa 1) ca cg cF))) (c_X5_leave l D cI cZ cO xq xa xg xh _ 2) (cwV 1 X.2.2.2.2.2.1 gX5_tellingOfProud_X5_leave rfl rfl rfl (by decide +kernel) ⟨Nat.le_of_ble_eq_true rfl, Nat.le_of_ble_eq_true rfl⟩) 0 4 rfl rfl rfl [0] [1, 2, 3, 4] [4, 0, 1, 2, 3] rfl rfl (by decide) (fun _ => rfl) rfl hl.1 rfl (Nat.le_of_ble_eq_true rfl) ⟨Nat.le_of_ble_eq_true rfl, Nat.le_of_ble_eq_true rfl⟩ dX5_tellingOfProud_2 (fun u2 H locs w2 hW => ?_)
  have hW : Wd D A s.heap H locs (wX cI cZ xq xa xg (sF xh 5 (trk 2 ((xh 5)))) ++ (wC cI cZ (xa 1) ca cg cF)) := hW
  replace w2 : True := w2
  refine x_aload_n X dX5_tellingOfProud_5 rfl (lv_at hl 0 rfl) ?_
  refine x_iload_n X dX5_tellingOfProud_6 rfl (lv_at hl 1 rfl) ?_
  refine x_callVi0 X hW (As := [.int (nI j)]) (rest := []) (c_X5_tellingOfMild l D cI cZ cO xq xa xg (sF xh 5 (trk 2 ((xh 5)))) ca cg cF _ j (show j < (cg 0) from (by first | assumption | omega)) (show (cg 0) ≤ 4 from (by first | assumption | omega))) (cwV 1 X.2.2.2.2.2.1 gX5_tellingOfProud_X5_tellingOfMild rfl rfl rfl (by decide +kernel) ⟨Nat.le_of_ble_eq_true rfl, Nat.le_of_ble_eq_true rfl⟩) 0 4 rfl rfl rfl rfl hl.1 rfl (Nat.le_of_ble_eq_true rfl) ⟨Nat.le_of_ble_eq_true rfl, Nat.le_of_ble_eq_true rfl⟩ dX5_tellingOfProud_7 (fun r3 u4 H locs w7 hW => ?_)
  have hW : Wd D A s.heap H locs (wX cI cZ xq xa xg (sF xh 5 (trk 1 ((trk 2 ((xh 5)))))) ++ (wC cI cZ (xa 1) ca cg cF)) := hW
  replace w7 : r3 = nI ((cF 4) j) := w7
  subst w7
  refine x_bipush (v := nI 100) X dX5_tellingOfProud_10 (by decide) ?_
  refine n_iadd X dX5_tellingOfProud_12 ?_
  exact x_iret X hW rfl () ((congrArg nI (show ((cF 4) j) + 100 = cF 4 j + 100 from by first | rfl | assumption | omega))) (congrArg (fun z => (wX cI cZ xq xa xg (sF xh 5 z) ++ (wC cI cZ (xa 1) ca cg cF))) (show (trk 1 ((trk 2 ((xh 5))))) = (trk 1 (trk 2 (xh 5))) from by first | rfl | omega)) dX5_tellingOfProud_13
set_option maxHeartbeats 4000000 in
set_option maxRecDepth 100000 in
theorem c_X5_tellingOfSulky (l : Launch) (D : va_G) (cI cZ cO : ClassId) (xq : Nat) (xa : Nat → Nat) (xg : Nat → Nat) (xh : Nat → Int32) (ca : Nat → Nat) (cg : Nat → Nat) (cF : Nat → Nat → Nat) (sz : Nat) (j : Nat)  (hj : j < cg 0) (hn : cg 0 ≤ 4) : Met l yX5_tellingOfSulky wsX5_tellingOfSulky ({ frames := 4, cells := 0, slots := 0, locals := 84 }) (va_Pc [.ref xq, .int (nI j)] (st_W D (ty3 cI cZ cO) (wX cI cZ xq xa xg xh ++ (wC cI cZ (xa 1) ca cg cF)) sz)) (va_Qi (fun (rr : Int32) (u : Unit) => rr = nI (cF 4 j + 100 + cF 4 j)) (fun u t => at_W D (ty3 cI cZ cO) (va_A (wX cI cZ xq xa xg xh ++ (wC cI cZ (xa 1) ca cg cF)) sz) (wX cI cZ xq xa xg (sF xh 5 (trk 1 (trk 1 (trk 2 (trk 3 (xh 5)))))) ++ (wC cI cZ (xa 1) ca cg cF)) t) (va_A (wX cI cZ xq xa xg xh ++ (wC cI cZ (xa 1) ca cg cF)) sz)) 0 0 (va_A (wX cI cZ xq xa xg xh ++ (wC cI cZ (xa 1) ca cg cF)) sz) := by
  refine Met.goi (cc := cX5_tellingOfSulky) (maxL := 3) (ret := (some .int)) (by decide) rfl (Nat.le_of_ble_eq_true rfl) (fun p e s m below meth c A ls X hW hl => ?_)
  have hi5 : ∀ w ∈ wsX50, w ∈ wsX5_tellingOfSulky := fun w h => List.mem_cons_of_mem _ (List.mem_append_left _ (List.mem_append_right _ h))
  have hi0 : ∀ w ∈ wsX00, w ∈ wsX5_tellingOfSulky := fun w h => List.mem_cons_of_mem _ (List.mem_append_right _ h)
  have hl : lv_has ls 3 [(0, .ref xq), (1, .int (nI j))] := hl
  refine x_aload_n X dX5_tellingOfSulky_0 rfl (lv_at hl 0 rfl) ?_
  refine x_iconst (v := nI 3) X dX5_tellingOfSulky_1 (by decide) ?_
  refine x_callVv X hW (As := [.int (nI 3)]) (rest := []) (wz := fun u => (wX cI cZ xq xa xg (sF xh 5 (trk 3 ((xh 5)))) ++ (wC cI cZ (xa 1) ca cg cF))) (c_X5_leave l D cI cZ cO xq xa xg xh _ 3) (cwV 1 X.2.2.2.2.2.1 gX5_tellingOfSulky_X5_leave rfl rfl rfl (by decide +kernel) ⟨Nat.le_of_ble_eq_true rfl, Nat.le_of_ble_eq_true rfl⟩) 0 4 rfl rfl rfl [0] [1, 2, 3, 4] [4, 0, 1, 2, 3] rfl rfl (by decide) (fun _ => rfl) rfl hl.1 rfl (Nat.le_of_ble_eq_true rfl) ⟨Nat.le_of_ble_eq_true rfl, Nat.le_of_ble_eq_true rfl⟩ dX5_tellingOfSulky_2 (fun u2 H locs w2 hW => ?_)
  have hW : Wd D A s.heap H locs (wX cI cZ xq xa xg (sF xh 5 (trk 3 ((xh 5)))) ++ (wC cI cZ (xa 1) ca cg cF)) := hW
  replace w2 : True := w2
  refine x_aload_n X dX5_tellingOfSulky_5 rfl (lv_at hl 0 rfl) ?_
  refine x_iload_n X dX5_tellingOfSulky_6 rfl (lv_at hl 1 rfl) ?_
  refine x_callVi0 X hW (As := [.int (nI j)]) (rest := []) (c_X5_tellingOfProud l D cI cZ cO xq xa xg (sF xh 5 (trk 3 ((xh 5)))) ca cg cF _ j (show j < (cg 0) from (by first | assumption | omega)) (show (cg 0) ≤ 4 from (by first | assumption | omega))) (cwV 1 X.2.2.2.2.2.1 gX5_tellingOfSulky_X5_tellingOfProud rfl rfl rfl (by decide +kernel) ⟨Nat.le_of_ble_eq_true rfl, Nat.le_of_ble_eq_true rfl⟩) 0 4 rfl rfl rfl rfl hl.1 rfl (Nat.le_of_ble_eq_true rfl) ⟨Nat.le_of_ble_eq_true rfl, Nat.le_of_ble_eq_true rfl⟩ dX5_tellingOfSulky_7 (fun r3 u4 H locs w7 hW => ?_)
  have hW : Wd D A s.heap H locs (wX cI cZ xq xa xg (sF xh 5 (trk 1 (trk 2 ((trk 3 ((xh 5))))))) ++ (wC cI cZ (xa 1) ca cg cF)) := hW
  replace w7 : r3 = nI ((cF 4) j + 100) := w7
  subst w7
  refine x_istore_n X [(2, .int (nI ((cF 4) j + 100))), (0, .ref xq), (1, .int (nI j))] dX5_tellingOfSulky_10 rfl hl (by decide) rfl (fun ls hl => ?_)
  refine x_iload_n X dX5_tellingOfSulky_11 rfl (lv_at hl 0 rfl) ?_
  refine x_aload_n X dX5_tellingOfSulky_12 rfl (lv_at hl 1 rfl) ?_
  refine x_iload_n X dX5_tellingOfSulky_13 rfl (lv_at hl 2 rfl) ?_
  refine x_callVi0 X hW (As := [.int (nI j)]) (rest := [.int (nI ((cF 4) j + 100))]) (c_X5_tellingOfMild l D cI cZ cO xq xa xg (sF xh 5 (trk 1 (trk 2 ((trk 3 ((xh 5))))))) ca cg cF _ j (show j < (cg 0) from (by first | assumption | omega)) (show (cg 0) ≤ 4 from (by first | assumption | omega))) (cwV 1 X.2.2.2.2.2.1 gX5_tellingOfSulky_X5_tellingOfMild rfl rfl rfl (by decide +kernel) ⟨Nat.le_of_ble_eq_true rfl, Nat.le_of_ble_eq_true rfl⟩) 0 4 rfl rfl rfl rfl hl.1 rfl (Nat.le_of_ble_eq_true rfl) ⟨Nat.le_of_ble_eq_true rfl, Nat.le_of_ble_eq_true rfl⟩ dX5_tellingOfSulky_14 (fun r5 u6 H locs w14 hW => ?_)
  have hW : Wd D A s.heap H locs (wX cI cZ xq xa xg (sF xh 5 (trk 1 ((trk 1 (trk 2 ((trk 3 ((xh 5))))))))) ++ (wC cI cZ (xa 1) ca cg cF)) := hW
  replace w14 : r5 = nI ((cF 4) j) := w14
  subst w14
  refine n_iadd X dX5_tellingOfSulky_17 ?_
  exact x_iret X hW rfl () ((congrArg nI (show ((cF 4) j + 100) + ((cF 4) j) = cF 4 j + 100 + cF 4 j from by first | rfl | assumption | omega))) (congrArg (fun z => (wX cI cZ xq xa xg (sF xh 5 z) ++ (wC cI cZ (xa 1) ca cg cF))) (show (trk 1 ((trk 1 (trk 2 ((trk 3 ((xh 5)))))))) = (trk 1 (trk 1 (trk 2 (trk 3 (xh 5))))) from by first | rfl | omega)) dX5_tellingOfSulky_18
set_option maxHeartbeats 4000000 in
set_option maxRecDepth 100000 in
theorem c_X5_tell (l : Launch) (D : va_G) (cI cZ cO : ClassId) (xq : Nat) (xa : Nat → Nat) (xg : Nat → Nat) (xh : Nat → Int32) (ca : Nat → Nat) (cg : Nat → Nat) (cF : Nat → Nat → Nat) (sz : Nat) (r : Int32)  (hn : cg 0 ≤ 4) (hk : ∀ z0, cF 2 z0 ≤ 2) (hm : ∀ z0, cF 4 z0 ≤ 9) : Met l yX5_tell wsX5_tell ({ frames := 5, cells := 0, slots := 0, locals := 106 }) (va_Pc [.ref xq, .int r] (st_W D (ty3 cI cZ cO) (wX cI cZ xq xa xg xh ++ (wC cI cZ (xa 1) ca cg cF)) sz)) (va_Qi (fun (rr : Int32) (u : Unit) => rr = aTell (cg 0) (cF 2) (cF 4) r) (fun u t => at_W D (ty3 cI cZ cO) (va_A (wX cI cZ xq xa xg xh ++ (wC cI cZ (xa 1) ca cg cF)) sz) (wX cI cZ xq xa xg (sF xh 5 (sTell (cg 0) (cF 2) (xh 5) r)) ++ (wC cI cZ (xa 1) ca cg cF)) t) (va_A (wX cI cZ xq xa xg xh ++ (wC cI cZ (xa 1) ca cg cF)) sz)) 0 0 (va_A (wX cI cZ xq xa xg xh ++ (wC cI cZ (xa 1) ca cg cF)) sz) := by
  refine Met.goi (cc := cX5_tell) (maxL := 2) (ret := (some .int)) (by decide) rfl (Nat.le_of_ble_eq_true rfl) (fun p e s m below meth c A ls X hW hl => ?_)
  have hi5 : ∀ w ∈ wsX50, w ∈ wsX5_tell := fun w h => List.mem_cons_of_mem _ (List.mem_append_left _ (List.mem_append_right _ h))
  have hi0 : ∀ w ∈ wsX00, w ∈ wsX5_tell := fun w h => List.mem_cons_of_mem _ (List.mem_append_right _ h)
  have hl : lv_has ls 2 [(0, .ref xq), (1, .int r)] := hl
  refine x_aload_n X dX5_tell_0 rfl (lv_at hl 0 rfl) ?_
  refine x_get X hW (v := .ref (xa 1)) hi5 0 rfl rfl 1 (by decide) (List.mem_of_getElem? (i := 1) rfl) rfl rfl dX5_tell_1 ?_
  refine x_iload_n X dX5_tell_4 rfl (lv_at hl 1 rfl) ?_
  refine x_callVi X hW (As := [.int r]) (rest := []) (wz := fun u => (wX cI cZ xq xa xg xh ++ (wC cI cZ (xa 1) ca cg cF))) (c_X0_has l D cI cZ cO (xa 1) ca cg cF _ r (show (cg 0) ≤ 4 from (by first | assumption | omega))) (cwV 1 X.2.2.2.2.2.1 gX5_tell_X0_has rfl rfl rfl (by decide +kernel) ⟨Nat.le_of_ble_eq_true rfl, Nat.le_of_ble_eq_true rfl⟩) 1 0 rfl rfl rfl [1, 2, 3, 4] [0] [0, 1, 2, 3, 4] rfl rfl (by decide) (fun _ => rfl) rfl hl.1 rfl (Nat.le_of_ble_eq_true rfl) ⟨Nat.le_of_ble_eq_true rfl, Nat.le_of_ble_eq_true rfl⟩ dX5_tell_5 (fun r1 u2 H locs w5 hW => ?_)
  have hW : Wd D A s.heap H locs (wX cI cZ xq xa xg xh ++ (wC cI cZ (xa 1) ca cg cF)) := hW
  replace w5 : (r1 = nI 1 ∧ (inR r ((cg 0))) ∨ r1 = nI 0 ∧ ¬ (inR r ((cg 0)))) := w5
  rcases w5 with ⟨w5, h5⟩ | ⟨w5, h5⟩
  · subst w5
    obtain ⟨j, hj, rfl⟩ := inR_ex ((Iff.refl (inR r (cg 0))).mp h5) (by omega)
    refine n_if_ne X 13 dX5_tell_8 (by decide) (by decide) (fun c8 => ?_) (fun c8 => by exact absurd c8 (by decide))
    refine x_aload_n X dX5_tell_13 rfl (lv_at hl 0 rfl) ?_
    refine x_get X hW (v := .ref (xa 1)) hi5 0 rfl rfl 1 (by decide) (List.mem_of_getElem? (i := 1) rfl) rfl rfl dX5_tell_14 ?_
    refine x_iload_n X dX5_tell_17 rfl (lv_at hl 1 rfl) ?_
    refine x_callVi X hW (As := [.int (nI j)]) (rest := []) (wz := fun u => (wX cI cZ xq xa xg xh ++ (wC cI cZ (xa 1) ca cg cF))) (c_X0_kindOf l D cI cZ cO (xa 1) ca cg cF _ j (show j < (cg 0) from (by first | assumption | omega)) (show (cg 0) ≤ 4 from (by first | assumption | omega))) (cwV 1 X.2.2.2.2.2.1 gX5_tell_X0_kindOf rfl rfl rfl (by decide +kernel) ⟨Nat.le_of_ble_eq_true rfl, Nat.le_of_ble_eq_true rfl⟩) 1 0 rfl rfl rfl [1, 2, 3, 4] [0] [0, 1, 2, 3, 4] rfl rfl (by decide) (fun _ => rfl) rfl hl.1 rfl (Nat.le_of_ble_eq_true rfl) ⟨Nat.le_of_ble_eq_true rfl, Nat.le_of_ble_eq_true rfl⟩ dX5_tell_18 (fun r3 u4 H locs w18 hW => ?_)
    have hW : Wd D A s.heap H locs (wX cI cZ xq xa xg xh ++ (wC cI cZ (xa 1) ca cg cF)) := hW
    replace w18 : r3 = nI ((cF 2) j) := w18
    subst w18
    rcases (show cF 2 j = 0 ∨ cF 2 j = 1 ∨ cF 2 j = 2 by have := hk j; omega) with ek | ek | ek
    · have ekk := ek
      refine n_as0 (b := 0) ek ?_
      refine lv_lookup (off := 39) (tgt := 60) X.1 X.2.1 dX5_tell_21 (by decide) (by decide) (by decide) ?_
      refine x_aload_n X dX5_tell_60 rfl (lv_at hl 0 rfl) ?_
      refine x_iload_n X dX5_tell_61 rfl (lv_at hl 1 rfl) ?_
      refine x_callVi0 X hW (As := [.int (nI j)]) (rest := []) (c_X5_tellingOfMild l D cI cZ cO xq xa xg xh ca cg cF _ j (show j < (cg 0) from (by first | assumption | omega)) (show (cg 0) ≤ 4 from (by first | assumption | omega))) (cwV 1 X.2.2.2.2.2.1 gX5_tell_X5_tellingOfMild rfl rfl rfl (by decide +kernel) ⟨Nat.le_of_ble_eq_true rfl, Nat.le_of_ble_eq_true rfl⟩) 0 4 rfl rfl rfl rfl hl.1 rfl (Nat.le_of_ble_eq_true rfl) ⟨Nat.le_of_ble_eq_true rfl, Nat.le_of_ble_eq_true rfl⟩ dX5_tell_62 (fun r5 u6 H locs w62 hW => ?_)
      have hW : Wd D A s.heap H locs (wX cI cZ xq xa xg (sF xh 5 (trk 1 ((xh 5)))) ++ (wC cI cZ (xa 1) ca cg cF)) := hW
      replace w62 : r5 = nI ((cF 4) j) := w62
      subst w62
      exact x_iret X hW rfl () ((by unfold aTell; (try rw [onR_in hj (by omega)]); (try unfold aTellJ); (try rw [ekk]); (try rfl))) (congrArg (fun z => (wX cI cZ xq xa xg (sF xh 5 z) ++ (wC cI cZ (xa 1) ca cg cF))) (show (trk 1 ((xh 5))) = (sTell (cg 0) (cF 2) (xh 5) (nI j)) from by unfold sTell; (try rw [onR_in hj (by omega)]); (try unfold sTellJ); (try rw [ekk]); (try rfl))) dX5_tell_65
    · have ekk := ek
      refine n_as0 (b := 1) ek ?_
      refine lv_lookup (off := 33) (tgt := 54) X.1 X.2.1 dX5_tell_21 (by decide) (by decide) (by decide) ?_
      refine x_aload_n X dX5_tell_54 rfl (lv_at hl 0 rfl) ?_
      refine x_iload_n X dX5_tell_55 rfl (lv_at hl 1 rfl) ?_
      refine x_callVi0 X hW (As := [.int (nI j)]) (rest := []) (c_X5_tellingOfProud l D cI cZ cO xq xa xg xh ca cg cF _ j (show j < (cg 0) from (by first | assumption | omega)) (show (cg 0) ≤ 4 from (by first | assumption | omega))) (cwV 1 X.2.2.2.2.2.1 gX5_tell_X5_tellingOfProud rfl rfl rfl (by decide +kernel) ⟨Nat.le_of_ble_eq_true rfl, Nat.le_of_ble_eq_true rfl⟩) 0 4 rfl rfl rfl rfl hl.1 rfl (Nat.le_of_ble_eq_true rfl) ⟨Nat.le_of_ble_eq_true rfl, Nat.le_of_ble_eq_true rfl⟩ dX5_tell_56 (fun r7 u8 H locs w56 hW => ?_)
      have hW : Wd D A s.heap H locs (wX cI cZ xq xa xg (sF xh 5 (trk 1 (trk 2 ((xh 5))))) ++ (wC cI cZ (xa 1) ca cg cF)) := hW
      replace w56 : r7 = nI ((cF 4) j + 100) := w56
      subst w56
      exact x_iret X hW rfl () ((by unfold aTell; (try rw [onR_in hj (by omega)]); (try unfold aTellJ); (try rw [ekk]); (try rfl))) (congrArg (fun z => (wX cI cZ xq xa xg (sF xh 5 z) ++ (wC cI cZ (xa 1) ca cg cF))) (show (trk 1 (trk 2 ((xh 5)))) = (sTell (cg 0) (cF 2) (xh 5) (nI j)) from by unfold sTell; (try rw [onR_in hj (by omega)]); (try unfold sTellJ); (try rw [ekk]); (try rfl))) dX5_tell_59
    · have ekk := ek
      refine n_as0 (b := 2) ek ?_
      refine lv_lookup (off := 27) (tgt := 48) X.1 X.2.1 dX5_tell_21 (by decide) (by decide) (by decide) ?_
      refine x_aload_n X dX5_tell_48 rfl (lv_at hl 0 rfl) ?_
      refine x_iload_n X dX5_tell_49 rfl (lv_at hl 1 rfl) ?_
      refine x_callVi0 X hW (As := [.int (nI j)]) (rest := []) (c_X5_tellingOfSulky l D cI cZ cO xq xa xg xh ca cg cF _ j (show j < (cg 0) from (by first | assumption | omega)) (show (cg 0) ≤ 4 from (by first | assumption | omega))) (cwV 1 X.2.2.2.2.2.1 gX5_tell_X5_tellingOfSulky rfl rfl rfl (by decide +kernel) ⟨Nat.le_of_ble_eq_true rfl, Nat.le_of_ble_eq_true rfl⟩) 0 4 rfl rfl rfl rfl hl.1 rfl (Nat.le_of_ble_eq_true rfl) ⟨Nat.le_of_ble_eq_true rfl, Nat.le_of_ble_eq_true rfl⟩ dX5_tell_50 (fun r9 u10 H locs w50 hW => ?_)
      have hW : Wd D A s.heap H locs (wX cI cZ xq xa xg (sF xh 5 (trk 1 (trk 1 (trk 2 (trk 3 ((xh 5))))))) ++ (wC cI cZ (xa 1) ca cg cF)) := hW
      replace w50 : r9 = nI ((cF 4) j + 100 + (cF 4) j) := w50
      subst w50
      refine n_as0 (b := 2 * cF 4 j + 100) (by omega) ?_
      exact x_iret X hW rfl () ((by unfold aTell; (try rw [onR_in hj (by omega)]); (try unfold aTellJ); (try rw [ekk]); (try rfl))) (congrArg (fun z => (wX cI cZ xq xa xg (sF xh 5 z) ++ (wC cI cZ (xa 1) ca cg cF))) (show (trk 1 (trk 1 (trk 2 (trk 3 ((xh 5)))))) = (sTell (cg 0) (cF 2) (xh 5) (nI j)) from by unfold sTell; (try rw [onR_in hj (by omega)]); (try unfold sTellJ); (try rw [ekk]); (try rfl))) dX5_tell_53
  · subst w5
    have gr := fun q => h5 ((Iff.refl (inR r (cg 0))).mpr q)
    refine n_if_ne X 13 dX5_tell_8 (by decide) (by decide) (fun c8 => by exact absurd c8 (by decide)) (fun c8 => ?_)
    refine x_iconst (v := (-1 : Int32)) X dX5_tell_11 (by decide) ?_
    exact x_iret X hW rfl () ((by unfold aTell; (try rw [onR_out gr]); (try unfold aTellJ); (try rw [ekk]); (try rfl))) (congrArg (fun z => (wX cI cZ xq xa xg (sF xh 5 z) ++ (wC cI cZ (xa 1) ca cg cF))) (show (xh 5) = (sTell (cg 0) (cF 2) (xh 5) r) from by unfold sTell; (try rw [onR_out gr]); (try unfold sTellJ); (try rw [ekk]); (try rfl))) dX5_tell_12
set_option maxHeartbeats 4000000 in
set_option maxRecDepth 100000 in
theorem c_X5_flatteryLent (l : Launch) (D : va_G) (cI cZ cO : ClassId) (xq : Nat) (xa : Nat → Nat) (xg : Nat → Nat) (xh : Nat → Int32) (sz : Nat) (j : Nat)   : Met l yX5_flatteryLent wsX5_flatteryLent ({ frames := 1, cells := 0, slots := 0, locals := 21 }) (va_Pc [.ref xq, .int (nI j)] (st_W D (ty3 cI cZ cO) (wX cI cZ xq xa xg xh) sz)) (va_Qi (fun (rr : Int32) (u : Unit) => rr = nI (j)) (fun u t => at_W D (ty3 cI cZ cO) (va_A (wX cI cZ xq xa xg xh) sz) (wX cI cZ xq xa xg (sF xh 5 (trk 4 (xh 5)))) t) (va_A (wX cI cZ xq xa xg xh) sz)) 0 0 (va_A (wX cI cZ xq xa xg xh) sz) := by
  refine Met.goi (cc := cX5_flatteryLent) (maxL := 2) (ret := (some .int)) (by decide) rfl (Nat.le_of_ble_eq_true rfl) (fun p e s m below meth c A ls X hW hl => ?_)
  have hi5 : ∀ w ∈ wsX50, w ∈ wsX5_flatteryLent := fun w h => List.mem_cons_of_mem _ (List.mem_append_right _ h)
  have hl : lv_has ls 2 [(0, .ref xq), (1, .int (nI j))] := hl
  refine x_aload_n X dX5_flatteryLent_0 rfl (lv_at hl 0 rfl) ?_
  refine x_iconst (v := nI 4) X dX5_flatteryLent_1 (by decide) ?_
  refine x_callVv0 X hW (As := [.int (nI 4)]) (rest := []) (c_X5_leave l D cI cZ cO xq xa xg xh _ 4) (cwV 1 X.2.2.2.2.2.1 gX5_flatteryLent_X5_leave rfl rfl rfl (by decide +kernel) ⟨Nat.le_of_ble_eq_true rfl, Nat.le_of_ble_eq_true rfl⟩) 0 4 rfl rfl rfl rfl hl.1 rfl (Nat.le_of_ble_eq_true rfl) ⟨Nat.le_of_ble_eq_true rfl, Nat.le_of_ble_eq_true rfl⟩ dX5_flatteryLent_2 (fun u2 H locs w2 hW => ?_)
  have hW : Wd D A s.heap H locs (wX cI cZ xq xa xg (sF xh 5 (trk 4 ((xh 5))))) := hW
  replace w2 : True := w2
  refine x_iload_n X dX5_flatteryLent_5 rfl (lv_at hl 1 rfl) ?_
  exact x_iret X hW rfl () (rfl) (congrArg (fun z => (wX cI cZ xq xa xg (sF xh 5 z))) (show (trk 4 ((xh 5))) = (trk 4 (xh 5)) from by first | rfl | omega)) dX5_flatteryLent_6
set_option maxHeartbeats 4000000 in
set_option maxRecDepth 100000 in
theorem c_X5_flatteryOfSulky (l : Launch) (D : va_G) (cI cZ cO : ClassId) (xq : Nat) (xa : Nat → Nat) (xg : Nat → Nat) (xh : Nat → Int32) (sz : Nat)    : Met l yX5_flatteryOfSulky wsX5_flatteryOfSulky ({ frames := 1, cells := 0, slots := 0, locals := 21 }) (va_Pc [.ref xq] (st_W D (ty3 cI cZ cO) (wX cI cZ xq xa xg xh) sz)) (va_Qi (fun (rr : Int32) (u : Unit) => rr = nI (70)) (fun u t => at_W D (ty3 cI cZ cO) (va_A (wX cI cZ xq xa xg xh) sz) (wX cI cZ xq xa xg (sF xh 5 (trk 5 (xh 5)))) t) (va_A (wX cI cZ xq xa xg xh) sz)) 0 0 (va_A (wX cI cZ xq xa xg xh) sz) := by
  refine Met.goi (cc := cX5_flatteryOfSulky) (maxL := 1) (ret := (some .int)) (by decide) rfl (Nat.le_of_ble_eq_true rfl) (fun p e s m below meth c A ls X hW hl => ?_)
  have hi5 : ∀ w ∈ wsX50, w ∈ wsX5_flatteryOfSulky := fun w h => List.mem_cons_of_mem _ (List.mem_append_right _ h)
  have hl : lv_has ls 1 [(0, .ref xq)] := hl
  refine x_aload_n X dX5_flatteryOfSulky_0 rfl (lv_at hl 0 rfl) ?_
  refine x_iconst (v := nI 5) X dX5_flatteryOfSulky_1 (by decide) ?_
  refine x_callVv0 X hW (As := [.int (nI 5)]) (rest := []) (c_X5_leave l D cI cZ cO xq xa xg xh _ 5) (cwV 1 X.2.2.2.2.2.1 gX5_flatteryOfSulky_X5_leave rfl rfl rfl (by decide +kernel) ⟨Nat.le_of_ble_eq_true rfl, Nat.le_of_ble_eq_true rfl⟩) 0 4 rfl rfl rfl rfl hl.1 rfl (Nat.le_of_ble_eq_true rfl) ⟨Nat.le_of_ble_eq_true rfl, Nat.le_of_ble_eq_true rfl⟩ dX5_flatteryOfSulky_2 (fun u2 H locs w2 hW => ?_)
  have hW : Wd D A s.heap H locs (wX cI cZ xq xa xg (sF xh 5 (trk 5 ((xh 5))))) := hW
  replace w2 : True := w2
  refine x_bipush (v := nI 70) X dX5_flatteryOfSulky_5 (by decide) ?_
  exact x_iret X hW rfl () (rfl) (congrArg (fun z => (wX cI cZ xq xa xg (sF xh 5 z))) (show (trk 5 ((xh 5))) = (trk 5 (xh 5)) from by first | rfl | omega)) dX5_flatteryOfSulky_7
set_option maxHeartbeats 4000000 in
set_option maxRecDepth 100000 in
theorem c_X5_flatter (l : Launch) (D : va_G) (cI cZ cO : ClassId) (xq : Nat) (xa : Nat → Nat) (xg : Nat → Nat) (xh : Nat → Int32) (ca : Nat → Nat) (cg : Nat → Nat) (cF : Nat → Nat → Nat) (sz : Nat) (r : Int32)  (hn : cg 0 ≤ 4) (hk : ∀ z0, cF 2 z0 ≤ 2) : Met l yX5_flatter wsX5_flatter ({ frames := 2, cells := 0, slots := 0, locals := 42 }) (va_Pc [.ref xq, .int r] (st_W D (ty3 cI cZ cO) (wX cI cZ xq xa xg xh ++ (wC cI cZ (xa 1) ca cg cF)) sz)) (va_Qi (fun (rr : Int32) (u : Unit) => rr = aFlat (cg 0) (cF 2) r) (fun u t => at_W D (ty3 cI cZ cO) (va_A (wX cI cZ xq xa xg xh ++ (wC cI cZ (xa 1) ca cg cF)) sz) (wX cI cZ xq xa xg (sF xh 5 (sFlat (cg 0) (cF 2) (xh 5) r)) ++ (wC cI cZ (xa 1) ca cg cF)) t) (va_A (wX cI cZ xq xa xg xh ++ (wC cI cZ (xa 1) ca cg cF)) sz)) 0 0 (va_A (wX cI cZ xq xa xg xh ++ (wC cI cZ (xa 1) ca cg cF)) sz) := by
  refine Met.goi (cc := cX5_flatter) (maxL := 2) (ret := (some .int)) (by decide) rfl (Nat.le_of_ble_eq_true rfl) (fun p e s m below meth c A ls X hW hl => ?_)
  have hi5 : ∀ w ∈ wsX50, w ∈ wsX5_flatter := fun w h => List.mem_cons_of_mem _ (List.mem_append_left _ (List.mem_append_right _ h))
  have hi0 : ∀ w ∈ wsX00, w ∈ wsX5_flatter := fun w h => List.mem_cons_of_mem _ (List.mem_append_right _ h)
  have hl : lv_has ls 2 [(0, .ref xq), (1, .int r)] := hl
  refine x_aload_n X dX5_flatter_0 rfl (lv_at hl 0 rfl) ?_
  refine x_get X hW (v := .ref (xa 1)) hi5 0 rfl rfl 1 (by decide) (List.mem_of_getElem? (i := 1) rfl) rfl rfl dX5_flatter_1 ?_
  refine x_iload_n X dX5_flatter_4 rfl (lv_at hl 1 rfl) ?_
  refine x_callVi X hW (As := [.int r]) (rest := []) (wz := fun u => (wX cI cZ xq xa xg xh ++ (wC cI cZ (xa 1) ca cg cF))) (c_X0_has l D cI cZ cO (xa 1) ca cg cF _ r (show (cg 0) ≤ 4 from (by first | assumption | omega))) (cwV 1 X.2.2.2.2.2.1 gX5_flatter_X0_has rfl rfl rfl (by decide +kernel) ⟨Nat.le_of_ble_eq_true rfl, Nat.le_of_ble_eq_true rfl⟩) 1 0 rfl rfl rfl [1, 2, 3, 4] [0] [0, 1, 2, 3, 4] rfl rfl (by decide) (fun _ => rfl) rfl hl.1 rfl (Nat.le_of_ble_eq_true rfl) ⟨Nat.le_of_ble_eq_true rfl, Nat.le_of_ble_eq_true rfl⟩ dX5_flatter_5 (fun r1 u2 H locs w5 hW => ?_)
  have hW : Wd D A s.heap H locs (wX cI cZ xq xa xg xh ++ (wC cI cZ (xa 1) ca cg cF)) := hW
  replace w5 : (r1 = nI 1 ∧ (inR r ((cg 0))) ∨ r1 = nI 0 ∧ ¬ (inR r ((cg 0)))) := w5
  rcases w5 with ⟨w5, h5⟩ | ⟨w5, h5⟩
  · subst w5
    obtain ⟨j, hj, rfl⟩ := inR_ex ((Iff.refl (inR r (cg 0))).mp h5) (by omega)
    refine n_if_ne X 13 dX5_flatter_8 (by decide) (by decide) (fun c8 => ?_) (fun c8 => by exact absurd c8 (by decide))
    refine x_aload_n X dX5_flatter_13 rfl (lv_at hl 0 rfl) ?_
    refine x_get X hW (v := .ref (xa 1)) hi5 0 rfl rfl 1 (by decide) (List.mem_of_getElem? (i := 1) rfl) rfl rfl dX5_flatter_14 ?_
    refine x_iload_n X dX5_flatter_17 rfl (lv_at hl 1 rfl) ?_
    refine x_callVi X hW (As := [.int (nI j)]) (rest := []) (wz := fun u => (wX cI cZ xq xa xg xh ++ (wC cI cZ (xa 1) ca cg cF))) (c_X0_kindOf l D cI cZ cO (xa 1) ca cg cF _ j (show j < (cg 0) from (by first | assumption | omega)) (show (cg 0) ≤ 4 from (by first | assumption | omega))) (cwV 1 X.2.2.2.2.2.1 gX5_flatter_X0_kindOf rfl rfl rfl (by decide +kernel) ⟨Nat.le_of_ble_eq_true rfl, Nat.le_of_ble_eq_true rfl⟩) 1 0 rfl rfl rfl [1, 2, 3, 4] [0] [0, 1, 2, 3, 4] rfl rfl (by decide) (fun _ => rfl) rfl hl.1 rfl (Nat.le_of_ble_eq_true rfl) ⟨Nat.le_of_ble_eq_true rfl, Nat.le_of_ble_eq_true rfl⟩ dX5_flatter_18 (fun r3 u4 H locs w18 hW => ?_)
    have hW : Wd D A s.heap H locs (wX cI cZ xq xa xg xh ++ (wC cI cZ (xa 1) ca cg cF)) := hW
    replace w18 : r3 = nI ((cF 2) j) := w18
    subst w18
    rcases (show cF 2 j = 0 ∨ cF 2 j = 1 ∨ cF 2 j = 2 by have := hk j; omega) with ek | ek | ek
    · have ekk := ek
      refine n_as0 (b := 0) ek ?_
      refine x_iconst (v := nI 2) X dX5_flatter_21 (by decide) ?_
      refine n_icmp_ne X 32 dX5_flatter_22 (by decide) (by decide) (by decide) (fun c22 => ?_) (fun c22 => by exact absurd c22 (by decide))
      refine x_aload_n X dX5_flatter_32 rfl (lv_at hl 0 rfl) ?_
      refine x_iload_n X dX5_flatter_33 rfl (lv_at hl 1 rfl) ?_
      refine x_callVi X hW (As := [.int (nI j)]) (rest := []) (wz := fun u => (wX cI cZ xq xa xg (sF xh 5 (trk 4 ((xh 5)))) ++ (wC cI cZ (xa 1) ca cg cF))) (c_X5_flatteryLent l D cI cZ cO xq xa xg xh _ j) (cwV 1 X.2.2.2.2.2.1 gX5_flatter_X5_flatteryLent rfl rfl rfl (by decide +kernel) ⟨Nat.le_of_ble_eq_true rfl, Nat.le_of_ble_eq_true rfl⟩) 0 4 rfl rfl rfl [0] [1, 2, 3, 4] [4, 0, 1, 2, 3] rfl rfl (by decide) (fun _ => rfl) rfl hl.1 rfl (Nat.le_of_ble_eq_true rfl) ⟨Nat.le_of_ble_eq_true rfl, Nat.le_of_ble_eq_true rfl⟩ dX5_flatter_34 (fun r5 u6 H locs w34 hW => ?_)
      have hW : Wd D A s.heap H locs (wX cI cZ xq xa xg (sF xh 5 (trk 4 ((xh 5)))) ++ (wC cI cZ (xa 1) ca cg cF)) := hW
      replace w34 : r5 = nI (j) := w34
      subst w34
      exact x_iret X hW rfl () ((by unfold aFlat; (try rw [onR_in hj (by omega)]); (try rw [ekk]); (try rfl))) (congrArg (fun z => (wX cI cZ xq xa xg (sF xh 5 z) ++ (wC cI cZ (xa 1) ca cg cF))) (show (trk 4 ((xh 5))) = (sFlat (cg 0) (cF 2) (xh 5) (nI j)) from by unfold sFlat; (try rw [onR_in hj (by omega)]); (try rw [ekk]); (try rfl))) dX5_flatter_37
    · have ekk := ek
      refine n_as0 (b := 1) ek ?_
      refine x_iconst (v := nI 2) X dX5_flatter_21 (by decide) ?_
      refine n_icmp_ne X 32 dX5_flatter_22 (by decide) (by decide) (by decide) (fun c22 => ?_) (fun c22 => by exact absurd c22 (by decide))
      refine x_aload_n X dX5_flatter_32 rfl (lv_at hl 0 rfl) ?_
      refine x_iload_n X dX5_flatter_33 rfl (lv_at hl 1 rfl) ?_
      refine x_callVi X hW (As := [.int (nI j)]) (rest := []) (wz := fun u => (wX cI cZ xq xa xg (sF xh 5 (trk 4 ((xh 5)))) ++ (wC cI cZ (xa 1) ca cg cF))) (c_X5_flatteryLent l D cI cZ cO xq xa xg xh _ j) (cwV 1 X.2.2.2.2.2.1 gX5_flatter_X5_flatteryLent rfl rfl rfl (by decide +kernel) ⟨Nat.le_of_ble_eq_true rfl, Nat.le_of_ble_eq_true rfl⟩) 0 4 rfl rfl rfl [0] [1, 2, 3, 4] [4, 0, 1, 2, 3] rfl rfl (by decide) (fun _ => rfl) rfl hl.1 rfl (Nat.le_of_ble_eq_true rfl) ⟨Nat.le_of_ble_eq_true rfl, Nat.le_of_ble_eq_true rfl⟩ dX5_flatter_34 (fun r7 u8 H locs w34 hW => ?_)
      have hW : Wd D A s.heap H locs (wX cI cZ xq xa xg (sF xh 5 (trk 4 ((xh 5)))) ++ (wC cI cZ (xa 1) ca cg cF)) := hW
      replace w34 : r7 = nI (j) := w34
      subst w34
      exact x_iret X hW rfl () ((by unfold aFlat; (try rw [onR_in hj (by omega)]); (try rw [ekk]); (try rfl))) (congrArg (fun z => (wX cI cZ xq xa xg (sF xh 5 z) ++ (wC cI cZ (xa 1) ca cg cF))) (show (trk 4 ((xh 5))) = (sFlat (cg 0) (cF 2) (xh 5) (nI j)) from by unfold sFlat; (try rw [onR_in hj (by omega)]); (try rw [ekk]); (try rfl))) dX5_flatter_37
    · have ekk := ek
      refine n_as0 (b := 2) ek ?_
      refine x_iconst (v := nI 2) X dX5_flatter_21 (by decide) ?_
      refine n_icmp_ne X 32 dX5_flatter_22 (by decide) (by decide) (by decide) (fun c22 => by exact absurd c22 (by decide)) (fun c22 => ?_)
      refine x_aload_n X dX5_flatter_25 rfl (lv_at hl 0 rfl) ?_
      refine x_callVi X hW (As := []) (rest := []) (wz := fun u => (wX cI cZ xq xa xg (sF xh 5 (trk 5 ((xh 5)))) ++ (wC cI cZ (xa 1) ca cg cF))) (c_X5_flatteryOfSulky l D cI cZ cO xq xa xg xh _ ) (cwV 0 X.2.2.2.2.2.1 gX5_flatter_X5_flatteryOfSulky rfl rfl rfl (by decide +kernel) ⟨Nat.le_of_ble_eq_true rfl, Nat.le_of_ble_eq_true rfl⟩) 0 4 rfl rfl rfl [0] [1, 2, 3, 4] [4, 0, 1, 2, 3] rfl rfl (by decide) (fun _ => rfl) rfl hl.1 rfl (Nat.le_of_ble_eq_true rfl) ⟨Nat.le_of_ble_eq_true rfl, Nat.le_of_ble_eq_true rfl⟩ dX5_flatter_26 (fun r9 u10 H locs w26 hW => ?_)
      have hW : Wd D A s.heap H locs (wX cI cZ xq xa xg (sF xh 5 (trk 5 ((xh 5)))) ++ (wC cI cZ (xa 1) ca cg cF)) := hW
      replace w26 : r9 = nI (70) := w26
      subst w26
      refine x_goto X 37 dX5_flatter_29 (by decide) ?_
      exact x_iret X hW rfl () ((by unfold aFlat; (try rw [onR_in hj (by omega)]); (try rw [ekk]); (try rfl))) (congrArg (fun z => (wX cI cZ xq xa xg (sF xh 5 z) ++ (wC cI cZ (xa 1) ca cg cF))) (show (trk 5 ((xh 5))) = (sFlat (cg 0) (cF 2) (xh 5) (nI j)) from by unfold sFlat; (try rw [onR_in hj (by omega)]); (try rw [ekk]); (try rfl))) dX5_flatter_37
  · subst w5
    have gr := fun q => h5 ((Iff.refl (inR r (cg 0))).mpr q)
    refine n_if_ne X 13 dX5_flatter_8 (by decide) (by decide) (fun c8 => by exact absurd c8 (by decide)) (fun c8 => ?_)
    refine x_iconst (v := (-1 : Int32)) X dX5_flatter_11 (by decide) ?_
    exact x_iret X hW rfl () ((by unfold aFlat; (try rw [onR_out gr]); (try rw [ekk]); (try rfl))) (congrArg (fun z => (wX cI cZ xq xa xg (sF xh 5 z) ++ (wC cI cZ (xa 1) ca cg cF))) (show (xh 5) = (sFlat (cg 0) (cF 2) (xh 5) r) from by unfold sFlat; (try rw [onR_out gr]); (try rw [ekk]); (try rfl))) dX5_flatter_12
set_option maxHeartbeats 4000000 in
set_option maxRecDepth 100000 in
theorem c_X5_limitsF (l : Launch) (D : va_G) (cI cZ cO : ClassId) (xq : Nat) (xa : Nat → Nat) (xg : Nat → Nat) (xh : Nat → Int32) (ca : Nat → Nat) (cg : Nat → Nat) (cF : Nat → Nat → Nat) (da : Nat → Nat) (dg : Nat → Nat) (dF : Nat → Nat → Nat) (ra : Nat → Nat) (rg : Nat → Nat) (rF : Nat → Nat → Nat) (rE : Nat → Nat → Int32) (sz : Nat) (q0 : Int32)  (hn : cg 0 ≤ 4) (hk : ∀ z0, cF 2 z0 ≤ 2) (hlv : ∀ z0, cF 3 z0 ≤ 9) (hm : ∀ z0, cF 4 z0 ≤ 9) (hrn : cg 1 ≤ 3) (hrc : rg 0 ≤ 8) (hdn : dg 0 ≤ 4) (hdr : dg 1 ≤ 3) (hdk : ∀ z0, dF 2 z0 ≤ 2) (hdl : ∀ z0, dF 3 z0 ≤ 9) (hdm : ∀ z0, dF 4 z0 ≤ 9) (hro : ∀ z0, z0 < rg 0 → rF 1 z0 < cg 0) (hrd : ∀ z0, rF 3 z0 ≤ 1) : Met l yX5_numbersThatFit wsX5_numbersThatFit ({ frames := 4, cells := 0, slots := 0, locals := 87 }) (va_Pc [.ref xq, .int q0, .int (nI 2), .int (nI 9)] (st_W D (ty3 cI cZ cO) (wX cI cZ xq xa xg xh ++ (wC cI cZ (xa 1) ca cg cF ++ (wC cI cZ (xa 2) da dg dF ++ (wR cI cZ (xa 3) ra rg rF rE)))) sz)) (va_Qi (fun (rr : Int32) (u : (Nat → Nat) × (Nat → Nat) × (Nat → Nat) × (Nat) × (Nat)) => (rr = aLim (cg 0) (rg 0) (rF 1) (rE 2) (rF 3) (cF 2) (cF 3) (cF 4) q0) ∧ (u.2.2.2.1 ≤ 4 ∧ u.2.2.2.2 ≤ 3 ∧ (∀ z0, u.1 z0 ≤ 2) ∧ (∀ z0, u.2.1 z0 ≤ 9) ∧ ∀ z0, u.2.2.1 z0 ≤ 9)) (fun u t => at_W D (ty3 cI cZ cO) (va_A (wX cI cZ xq xa xg xh ++ (wC cI cZ (xa 1) ca cg cF ++ (wC cI cZ (xa 2) da dg dF ++ (wR cI cZ (xa 3) ra rg rF rE)))) sz) (wX cI cZ xq xa xg xh ++ (wC cI cZ (xa 1) ca cg cF ++ (wC cI cZ (xa 2) da (sF (sF dg 0 u.2.2.2.1) 1 u.2.2.2.2) (sF (sF (sF dF 2 u.1) 3 u.2.1) 4 u.2.2.1) ++ (wR cI cZ (xa 3) ra rg rF rE)))) t) (va_A (wX cI cZ xq xa xg xh ++ (wC cI cZ (xa 1) ca cg cF ++ (wC cI cZ (xa 2) da dg dF ++ (wR cI cZ (xa 3) ra rg rF rE)))) sz)) 0 0 (va_A (wX cI cZ xq xa xg xh ++ (wC cI cZ (xa 1) ca cg cF ++ (wC cI cZ (xa 2) da dg dF ++ (wR cI cZ (xa 3) ra rg rF rE)))) sz) := by
  refine Met.goi (cc := cX5_numbersThatFit) (maxL := 6) (ret := (some .int)) (by decide) rfl (Nat.le_of_ble_eq_true rfl) (fun p e s m below meth c A ls X hW hl => ?_)
  have hi5 : ∀ w ∈ wsX50, w ∈ wsX5_numbersThatFit := fun w h => List.mem_cons_of_mem _ (List.mem_append_left _ (List.mem_append_left _ (List.mem_append_right _ h)))
  have hi0 : ∀ w ∈ wsX00, w ∈ wsX5_numbersThatFit := fun w h => List.mem_cons_of_mem _ (List.mem_append_left _ (List.mem_append_right _ h))
  have hi1 : ∀ w ∈ wsX10, w ∈ wsX5_numbersThatFit := fun w h => List.mem_cons_of_mem _ (List.mem_append_right _ h)
  have hl : lv_has ls 6 [(0, .ref xq), (1, .int q0), (2, .int (nI 2)), (3, .int (nI 9))] := hl
  refine x_aload_n X dX5_numbersThatFit_0 rfl (lv_at hl 0 rfl) ?_
  refine x_get X hW (v := .ref (xa 1)) hi5 0 rfl rfl 1 (by decide) (List.mem_of_getElem? (i := 1) rfl) rfl rfl dX5_numbersThatFit_1 ?_
  refine x_iload_n X dX5_numbersThatFit_4 rfl (lv_at hl 1 rfl) ?_
  refine x_callVi X hW (As := [.int q0]) (rest := []) (wz := fun u => (wX cI cZ xq xa xg xh ++ (wC cI cZ (xa 1) ca cg cF ++ (wC cI cZ (xa 2) da dg dF ++ (wR cI cZ (xa 3) ra rg rF rE))))) (c_X0_has l D cI cZ cO (xa 1) ca cg cF _ q0 (show (cg 0) ≤ 4 from (by first | assumption | omega))) (cwV 1 X.2.2.2.2.2.1 gX5_numbersThatFit_X0_has rfl rfl rfl (by decide +kernel) ⟨Nat.le_of_ble_eq_true rfl, Nat.le_of_ble_eq_true rfl⟩) 1 0 rfl rfl rfl [1, 2, 3, 4] [0, 5, 6, 7, 8, 9, 10, 11, 12] [0, 9, 10, 11, 12, 1, 2, 3, 4, 5, 6, 7, 8] rfl rfl (by decide) (fun _ => rfl) rfl hl.1 rfl (Nat.le_of_ble_eq_true rfl) ⟨Nat.le_of_ble_eq_true rfl, Nat.le_of_ble_eq_true rfl⟩ dX5_numbersThatFit_5 (fun r1 u2 H locs w5 hW => ?_)
  have hW : Wd D A s.heap H locs (wX cI cZ xq xa xg xh ++ (wC cI cZ (xa 1) ca cg cF ++ (wC cI cZ (xa 2) da dg dF ++ (wR cI cZ (xa 3) ra rg rF rE)))) := hW
  replace w5 : (r1 = nI 1 ∧ (inR q0 ((cg 0))) ∨ r1 = nI 0 ∧ ¬ (inR q0 ((cg 0)))) := w5
  rcases w5 with ⟨w5, h5⟩ | ⟨w5, h5⟩
  · subst w5
    obtain ⟨j, hj, rfl⟩ := inR_ex ((Iff.refl (inR q0 (cg 0))).mp h5) (by omega)
    refine n_if_ne X 13 dX5_numbersThatFit_8 (by decide) (by decide) (fun c8 => ?_) (fun c8 => by exact absurd c8 (by decide))
    refine x_aload_n X dX5_numbersThatFit_13 rfl (lv_at hl 0 rfl) ?_
    refine x_get X hW (v := .ref (xa 2)) hi5 0 rfl rfl 2 (by decide) (List.mem_of_getElem? (i := 2) rfl) rfl rfl dX5_numbersThatFit_14 ?_
    refine x_aload_n X dX5_numbersThatFit_17 rfl (lv_at hl 0 rfl) ?_
    refine x_get X hW (v := .ref (xa 1)) hi5 0 rfl rfl 1 (by decide) (List.mem_of_getElem? (i := 1) rfl) rfl rfl dX5_numbersThatFit_18 ?_
    refine x_callVv X hW (As := [.ref (xa 1)]) (rest := []) (wz := fun u => (wX cI cZ xq xa xg xh ++ (wC cI cZ (xa 1) ca cg cF ++ (wC cI cZ (xa 2) da (sF (sF dg 0 (cg 0)) 1 (cg 1)) (sF (sF (sF dF 2 (cpN ((cg 0)) ((cF 2)) ((dF 2)))) 3 (cpN ((cg 0)) ((cF 3)) ((dF 3)))) 4 (cpN ((cg 0)) ((cF 4)) ((dF 4)))) ++ (wR cI cZ (xa 3) ra rg rF rE))))) (c_X0_takeOver l D cI cZ cO (xa 2) da dg dF (xa 1) ca cg cF _ (show (cg 0) ≤ 4 from (by first | assumption | omega))) (cwV 1 X.2.2.2.2.2.1 gX5_numbersThatFit_X0_takeOver rfl rfl rfl (by decide +kernel) ⟨Nat.le_of_ble_eq_true rfl, Nat.le_of_ble_eq_true rfl⟩) 5 0 rfl rfl rfl [5, 6, 7, 8, 1, 2, 3, 4] [0, 9, 10, 11, 12] [0, 9, 10, 11, 12, 5, 6, 7, 8, 1, 2, 3, 4] rfl rfl (by decide) (fun _ => rfl) rfl hl.1 rfl (Nat.le_of_ble_eq_true rfl) ⟨Nat.le_of_ble_eq_true rfl, Nat.le_of_ble_eq_true rfl⟩ dX5_numbersThatFit_21 (fun u4 H locs w21 hW => ?_)
    have hW : Wd D A s.heap H locs (wX cI cZ xq xa xg xh ++ (wC cI cZ (xa 1) ca cg cF ++ (wC cI cZ (xa 2) da (sF (sF dg 0 (cg 0)) 1 (cg 1)) (sF (sF (sF dF 2 (cpN ((cg 0)) ((cF 2)) ((dF 2)))) 3 (cpN ((cg 0)) ((cF 3)) ((dF 3)))) 4 (cpN ((cg 0)) ((cF 4)) ((dF 4)))) ++ (wR cI cZ (xa 3) ra rg rF rE)))) := hW
    replace w21 : True := w21
    refine x_iconst (v := nI 0) X dX5_numbersThatFit_24 (by decide) ?_
    refine x_istore X [(4, .int (nI 0)), (0, .ref xq), (1, .int (nI j)), (2, .int (nI 2)), (3, .int (nI 9))] dX5_numbersThatFit_25 hl (by decide) rfl (fun ls hl => ?_)
    refine x_iconst (v := nI 0) X dX5_numbersThatFit_27 (by decide) ?_
    refine x_istore X [(5, .int (nI 0)), (4, .int (nI 0)), (0, .ref xq), (1, .int (nI j)), (2, .int (nI 2)), (3, .int (nI 9))] dX5_numbersThatFit_28 hl (by decide) rfl (fun ls hl => ?_)
    have q2 : ∀ z0, cpN (cg 0) (cF 2) (dF 2) z0 ≤ 2 := cpN_le hk hdk
    have q3 : ∀ z0, cpN (cg 0) (cF 3) (dF 3) z0 ≤ 9 := cpN_le hlv hdl
    have q4 : ∀ z0, cpN (cg 0) (cF 4) (dF 4) z0 ≤ 9 := cpN_le hm hdm
    refine W.loop (σ := (Nat) × (Nat → Nat)) (fun u H locs ls => (u.1 ≤ 10 ∧ (∀ z0, sF u.2 j z0 = sF (cpN (cg 0) (cF 4) (dF 4)) j z0) ∧ ∀ z0, u.2 z0 ≤ 9) ∧ Wd D A s.heap H locs (wX cI cZ xq xa xg xh ++ (wC cI cZ (xa 1) ca cg cF ++ (wC cI cZ (xa 2) da (sF (sF dg 0 (cg 0)) 1 (cg 1)) (sF (sF (sF dF 2 (cpN ((cg 0)) ((cF 2)) ((dF 2)))) 3 (cpN ((cg 0)) ((cF 3)) ((dF 3)))) 4 u.2) ++ (wR cI cZ (xa 3) ra rg rF rE)))) ∧ lv_has ls 6 [(5, .int (nI u.1)), (4, .int (setI (fun z => fitP (rg 0) (rF 1) (rE 2) (rF 3) (cpN (cg 0) (cF 2) (dF 2)) (cpN (cg 0) (cF 3) (dF 3)) (sF (cpN (cg 0) (cF 4) (dF 4)) j z)) u.1)), (0, .ref xq), (1, .int (nI j)), (2, .int (nI 2)), (3, .int (nI 9))]) (fun u => 10 - u.1) (fun u H locs ls hI ih => ?_) (0, (cpN ((cg 0)) ((cF 4)) ((dF 4)))) ⟨(show 0 ≤ 10 ∧ (∀ z0, sF (cpN ((cg 0)) ((cF 4)) ((dF 4))) j z0 = sF (cpN (cg 0) (cF 4) (dF 4)) j z0) ∧ ∀ z0, (cpN ((cg 0)) ((cF 4)) ((dF 4))) z0 ≤ 9 from (by first | exact ⟨by omega, fun _ => rfl, q4⟩ | exact ⟨by omega, fun _ => sF_sF _ _ _ _, sF_le q4 (by omega)⟩)), hW, hl⟩
    obtain ⟨v, L⟩ := u
    obtain ⟨hv, hW, hl⟩ := hI
    have hv : v ≤ 10 ∧ (∀ z0, sF L j z0 = sF (cpN (cg 0) (cF 4) (dF 4)) j z0) ∧ ∀ z0, L z0 ≤ 9 := hv
    have hW : Wd D A s.heap H locs (wX cI cZ xq xa xg xh ++ (wC cI cZ (xa 1) ca cg cF ++ (wC cI cZ (xa 2) da (sF (sF dg 0 (cg 0)) 1 (cg 1)) (sF (sF (sF dF 2 (cpN ((cg 0)) ((cF 2)) ((dF 2)))) 3 (cpN ((cg 0)) ((cF 3)) ((dF 3)))) 4 L) ++ (wR cI cZ (xa 3) ra rg rF rE)))) := hW
    have hl : lv_has ls 6 [(5, .int (nI v)), (4, .int (setI (fun z => fitP (rg 0) (rF 1) (rE 2) (rF 3) (cpN (cg 0) (cF 2) (dF 2)) (cpN (cg 0) (cF 3) (dF 3)) (sF (cpN (cg 0) (cF 4) (dF 4)) j z)) v)), (0, .ref xq), (1, .int (nI j)), (2, .int (nI 2)), (3, .int (nI 9))] := hl
    have ih30 := ih
    refine x_iload X dX5_numbersThatFit_30 (lv_at hl 0 rfl) ?_
    refine x_iload_n X dX5_numbersThatFit_32 rfl (lv_at hl 5 rfl) ?_
    refine n_icmp_gt X 76 dX5_numbersThatFit_33 (by decide) (by omega) (by decide) (fun c33 => ?_) (fun c33 => ?_)
    · refine x_iload X dX5_numbersThatFit_76 (lv_at hl 1 rfl) ?_
      exact x_iret X hW rfl (cpN ((cg 0)) ((cF 2)) ((dF 2)), cpN ((cg 0)) ((cF 3)) ((dF 3)), L, (cg 0), (cg 1)) (⟨by rw [show v = 10 by omega]; unfold aLim; rw [onR_in hj (by omega)]; exact setI_cong (fun z hz => fit_cp hro (fun i hi => cpN_in hi) (fun i hi => cpN_in hi) (sF_cong (fun i hi => cpN_in hi) rfl)), hn, hrn, q2, q3, hv.2.2⟩) rfl dX5_numbersThatFit_78
    · refine x_aload_n X dX5_numbersThatFit_36 rfl (lv_at hl 2 rfl) ?_
      refine x_get X hW (v := .ref (xa 2)) hi5 0 rfl rfl 2 (by decide) (List.mem_of_getElem? (i := 2) rfl) rfl rfl dX5_numbersThatFit_37 ?_
      refine x_iload_n X dX5_numbersThatFit_40 rfl (lv_at hl 3 rfl) ?_
      refine x_iload_n X dX5_numbersThatFit_41 rfl (lv_at hl 4 rfl) ?_
      refine x_iload X dX5_numbersThatFit_42 (lv_at hl 0 rfl) ?_
      refine x_callVv X hW (As := [.int (nI j), .int (nI 2), .int (nI v)]) (rest := []) (wz := fun u => (wX cI cZ xq xa xg xh ++ (wC cI cZ (xa 1) ca cg cF ++ (wC cI cZ (xa 2) da (sF (sF dg 0 (cg 0)) 1 (cg 1)) (sF (sF (sF dF 2 (cpN ((cg 0)) ((cF 2)) ((dF 2)))) 3 (cpN ((cg 0)) ((cF 3)) ((dF 3)))) 4 (sF (L) j v)) ++ (wR cI cZ (xa 3) ra rg rF rE))))) (c_X0_become2 l D cI cZ cO (xa 2) da (sF (sF dg 0 (cg 0)) 1 (cg 1)) (sF (sF (sF dF 2 (cpN ((cg 0)) ((cF 2)) ((dF 2)))) 3 (cpN ((cg 0)) ((cF 3)) ((dF 3)))) 4 L) _ j v (show j < (cg 0) from (by first | assumption | omega)) (show (cg 0) ≤ 4 from (by first | assumption | omega))) (cwV 3 X.2.2.2.2.2.1 gX5_numbersThatFit_X0_become rfl rfl rfl (by decide +kernel) ⟨Nat.le_of_ble_eq_true rfl, Nat.le_of_ble_eq_true rfl⟩) 5 0 rfl rfl rfl [5, 6, 7, 8] [0, 1, 2, 3, 4, 9, 10, 11, 12] [0, 1, 2, 3, 4, 9, 10, 11, 12, 5, 6, 7, 8] rfl rfl (by decide) (fun _ => rfl) rfl hl.1 rfl (Nat.le_of_ble_eq_true rfl) ⟨Nat.le_of_ble_eq_true rfl, Nat.le_of_ble_eq_true rfl⟩ dX5_numbersThatFit_44 (fun u6 H locs w44 hW => ?_)
      have hW : Wd D A s.heap H locs (wX cI cZ xq xa xg xh ++ (wC cI cZ (xa 1) ca cg cF ++ (wC cI cZ (xa 2) da (sF (sF dg 0 (cg 0)) 1 (cg 1)) (sF (sF (sF dF 2 (cpN ((cg 0)) ((cF 2)) ((dF 2)))) 3 (cpN ((cg 0)) ((cF 3)) ((dF 3)))) 4 (sF (L) j v)) ++ (wR cI cZ (xa 3) ra rg rF rE)))) := hW
      replace w44 : True := w44
      have hW : Wd D A s.heap H locs (wX cI cZ xq xa xg xh ++ (wC cI cZ (xa 1) ca cg cF ++ (wC cI cZ (xa 2) da (sF (sF dg 0 (cg 0)) 1 (cg 1)) (sF (sF (sF dF 2 (cpN ((cg 0)) ((cF 2)) ((dF 2)))) 3 (cpN ((cg 0)) ((cF 3)) ((dF 3)))) 4 (sF (cpN (cg 0) (cF 4) (dF 4)) j v)) ++ (wR cI cZ (xa 3) ra rg rF rE)))) := hW.eq (congrArg (fun z => (wX cI cZ xq xa xg xh ++ (wC cI cZ (xa 1) ca cg cF ++ (wC cI cZ (xa 2) da (sF (sF dg 0 (cg 0)) 1 (cg 1)) (sF (sF (sF dF 2 (cpN ((cg 0)) ((cF 2)) ((dF 2)))) 3 (cpN ((cg 0)) ((cF 3)) ((dF 3)))) 4 z) ++ (wR cI cZ (xa 3) ra rg rF rE))))) (show (sF (L) j v) = (sF (cpN (cg 0) (cF 4) (dF 4)) j v) from by exact hv.2.1 v))
      refine x_aload_n X dX5_numbersThatFit_47 rfl (lv_at hl 2 rfl) ?_
      refine x_get X hW (v := .ref (xa 3)) hi5 0 rfl rfl 3 (by decide) (List.mem_of_getElem? (i := 3) rfl) rfl rfl dX5_numbersThatFit_48 ?_
      refine x_aload_n X dX5_numbersThatFit_51 rfl (lv_at hl 2 rfl) ?_
      refine x_get X hW (v := .ref (xa 2)) hi5 0 rfl rfl 2 (by decide) (List.mem_of_getElem? (i := 2) rfl) rfl rfl dX5_numbersThatFit_52 ?_
      refine x_callVi X hW (As := [.ref (xa 2)]) (rest := []) (wz := fun u => (wX cI cZ xq xa xg xh ++ (wC cI cZ (xa 1) ca cg cF ++ (wC cI cZ (xa 2) da (sF (sF dg 0 (cg 0)) 1 (cg 1)) (sF (sF (sF dF 2 (cpN ((cg 0)) ((cF 2)) ((dF 2)))) 3 (cpN ((cg 0)) ((cF 3)) ((dF 3)))) 4 (sF (cpN (cg 0) (cF 4) (dF 4)) j v)) ++ (wR cI cZ (xa 3) ra rg rF rE))))) (c_X1_areSoIn l D cI cZ cO (xa 3) ra rg rF rE (xa 2) da (sF (sF dg 0 (cg 0)) 1 (cg 1)) (sF (sF (sF dF 2 (cpN ((cg 0)) ((cF 2)) ((dF 2)))) 3 (cpN ((cg 0)) ((cF 3)) ((dF 3)))) 4 (sF (cpN (cg 0) (cF 4) (dF 4)) j v)) _ (show (rg 0) ≤ 8 from hrc) (show (cg 0) ≤ 4 from hn) (show ∀ z0, z0 < (rg 0) → (rF 1) z0 < (cg 0) from hro) (show ∀ z0, (rF 3) z0 ≤ 1 from hrd) (show ∀ z0, (cpN ((cg 0)) ((cF 2)) ((dF 2))) z0 ≤ 2 from q2) (show ∀ z0, (cpN ((cg 0)) ((cF 3)) ((dF 3))) z0 ≤ 9 from q3) (show ∀ z0, (sF (cpN (cg 0) (cF 4) (dF 4)) j v) z0 ≤ 9 from (sF_le q4 (by omega)))) (cwV 1 X.2.2.2.2.2.1 gX5_numbersThatFit_X1_areSoIn rfl rfl rfl (by decide +kernel) ⟨Nat.le_of_ble_eq_true rfl, Nat.le_of_ble_eq_true rfl⟩) 9 1 rfl rfl rfl [9, 10, 11, 12, 5, 6, 7, 8] [0, 1, 2, 3, 4] [0, 1, 2, 3, 4, 9, 10, 11, 12, 5, 6, 7, 8] rfl rfl (by decide) (fun _ => rfl) rfl hl.1 rfl (Nat.le_of_ble_eq_true rfl) ⟨Nat.le_of_ble_eq_true rfl, Nat.le_of_ble_eq_true rfl⟩ dX5_numbersThatFit_55 (fun r7 u8 H locs w55 hW => ?_)
      have hW : Wd D A s.heap H locs (wX cI cZ xq xa xg xh ++ (wC cI cZ (xa 1) ca cg cF ++ (wC cI cZ (xa 2) da (sF (sF dg 0 (cg 0)) 1 (cg 1)) (sF (sF (sF dF 2 (cpN ((cg 0)) ((cF 2)) ((dF 2)))) 3 (cpN ((cg 0)) ((cF 3)) ((dF 3)))) 4 (sF (cpN (cg 0) (cF 4) (dF 4)) j v)) ++ (wR cI cZ (xa 3) ra rg rF rE)))) := hW
      replace w55 : (r7 = nI 1 ∧ (fitP ((rg 0)) ((rF 1)) ((rE 2)) ((rF 3)) ((cpN ((cg 0)) ((cF 2)) ((dF 2)))) ((cpN ((cg 0)) ((cF 3)) ((dF 3)))) ((sF (cpN (cg 0) (cF 4) (dF 4)) j v))) ∨ r7 = nI 0 ∧ ¬ (fitP ((rg 0)) ((rF 1)) ((rE 2)) ((rF 3)) ((cpN ((cg 0)) ((cF 2)) ((dF 2)))) ((cpN ((cg 0)) ((cF 3)) ((dF 3)))) ((sF (cpN (cg 0) (cF 4) (dF 4)) j v)))) := w55
      rcases w55 with ⟨w55, h55⟩ | ⟨w55, h55⟩
      · subst w55
        refine n_if_eq X 70 dX5_numbersThatFit_58 (by decide) (by decide) (fun c58 => by exact absurd c58 (by decide)) (fun c58 => ?_)
        refine x_iload X dX5_numbersThatFit_61 (lv_at hl 1 rfl) ?_
        refine x_iconst (v := nI 1) X dX5_numbersThatFit_63 (by decide) ?_
        refine x_iload X dX5_numbersThatFit_64 (lv_at hl 0 rfl) ?_
        refine x_ishl (v := (nI 1) <<< ((nI v) &&& 31)) X dX5_numbersThatFit_66 rfl ?_
        refine x_ior (v := (setI (fun z => fitP (rg 0) (rF 1) (rE 2) (rF 3) (cpN (cg 0) (cF 2) (dF 2)) (cpN (cg 0) (cF 3) (dF 3)) (sF (cpN (cg 0) (cF 4) (dF 4)) j z)) v) ||| ((nI 1) <<< ((nI v) &&& 31))) X dX5_numbersThatFit_67 rfl ?_
        refine i_as0 (b := setI (fun z => fitP (rg 0) (rF 1) (rE 2) (rF 3) (cpN (cg 0) (cF 2) (dF 2)) (cpN (cg 0) (cF 3) (dF 3)) (sF (cpN (cg 0) (cF 4) (dF 4)) j z)) (v + 1)) (setI_y h55).symm ?_
        refine x_istore X [(4, .int (setI (fun z => fitP (rg 0) (rF 1) (rE 2) (rF 3) (cpN (cg 0) (cF 2) (dF 2)) (cpN (cg 0) (cF 3) (dF 3)) (sF (cpN (cg 0) (cF 4) (dF 4)) j z)) (v + 1))), (5, .int (nI v)), (0, .ref xq), (1, .int (nI j)), (2, .int (nI 2)), (3, .int (nI 9))] dX5_numbersThatFit_68 hl (by decide) rfl (fun ls hl => ?_)
        refine x_iinc X [(5, .int (nI (v + 1))), (4, .int (setI (fun z => fitP (rg 0) (rF 1) (rE 2) (rF 3) (cpN (cg 0) (cF 2) (dF 2)) (cpN (cg 0) (cF 3) (dF 3)) (sF (cpN (cg 0) (cF 4) (dF 4)) j z)) (v + 1))), (0, .ref xq), (1, .int (nI j)), (2, .int (nI 2)), (3, .int (nI 9))] (k := 1) dX5_numbersThatFit_70 hl rfl (nI_inc1 v) (by decide) rfl (fun ls hl => ?_)
        refine x_goto X 30 dX5_numbersThatFit_73 (by decide) ?_
        exact ih30 ((v + 1), (sF (cpN (cg 0) (cF 4) (dF 4)) j v)) _ _ _ ⟨(show (v + 1) ≤ 10 ∧ (∀ z0, sF (sF (cpN (cg 0) (cF 4) (dF 4)) j v) j z0 = sF (cpN (cg 0) (cF 4) (dF 4)) j z0) ∧ ∀ z0, (sF (cpN (cg 0) (cF 4) (dF 4)) j v) z0 ≤ 9 from (by first | exact ⟨by omega, fun _ => rfl, q4⟩ | exact ⟨by omega, fun _ => sF_sF _ _ _ _, sF_le q4 (by omega)⟩)), hW, lv_sub hl [0, 1, 2, 3, 4, 5] rfl⟩ (by dsimp only; omega)
      · subst w55
        refine n_if_eq X 70 dX5_numbersThatFit_58 (by decide) (by decide) (fun c58 => ?_) (fun c58 => by exact absurd c58 (by decide))
        have hl : lv_has ls 6 [(5, .int (nI v)), (4, .int (setI (fun z => fitP (rg 0) (rF 1) (rE 2) (rF 3) (cpN (cg 0) (cF 2) (dF 2)) (cpN (cg 0) (cF 3) (dF 3)) (sF (cpN (cg 0) (cF 4) (dF 4)) j z)) (v + 1))), (0, .ref xq), (1, .int (nI j)), (2, .int (nI 2)), (3, .int (nI 9))] := by rw [setI_n h55]; exact hl
        refine x_iinc X [(5, .int (nI (v + 1))), (4, .int (setI (fun z => fitP (rg 0) (rF 1) (rE 2) (rF 3) (cpN (cg 0) (cF 2) (dF 2)) (cpN (cg 0) (cF 3) (dF 3)) (sF (cpN (cg 0) (cF 4) (dF 4)) j z)) (v + 1))), (0, .ref xq), (1, .int (nI j)), (2, .int (nI 2)), (3, .int (nI 9))] (k := 0) dX5_numbersThatFit_70 hl rfl (nI_inc1 v) (by decide) rfl (fun ls hl => ?_)
        refine x_goto X 30 dX5_numbersThatFit_73 (by decide) ?_
        exact ih30 ((v + 1), (sF (cpN (cg 0) (cF 4) (dF 4)) j v)) _ _ _ ⟨(show (v + 1) ≤ 10 ∧ (∀ z0, sF (sF (cpN (cg 0) (cF 4) (dF 4)) j v) j z0 = sF (cpN (cg 0) (cF 4) (dF 4)) j z0) ∧ ∀ z0, (sF (cpN (cg 0) (cF 4) (dF 4)) j v) z0 ≤ 9 from (by first | exact ⟨by omega, fun _ => rfl, q4⟩ | exact ⟨by omega, fun _ => sF_sF _ _ _ _, sF_le q4 (by omega)⟩)), hW, lv_sub hl [0, 1, 2, 3, 4, 5] rfl⟩ (by dsimp only; omega)
  · subst w5
    have gq0 := fun q => h5 ((Iff.refl (inR q0 (cg 0))).mpr q)
    refine n_if_ne X 13 dX5_numbersThatFit_8 (by decide) (by decide) (fun c8 => by exact absurd c8 (by decide)) (fun c8 => ?_)
    refine x_iconst (v := (-1 : Int32)) X dX5_numbersThatFit_11 (by decide) ?_
    exact x_iret X hW rfl (dF 2, dF 3, dF 4, dg 0, dg 1) (⟨by unfold aLim; rw [onR_out gq0], hdn, hdr, hdk, hdl, hdm⟩) rfl dX5_numbersThatFit_12
set_option maxHeartbeats 4000000 in
set_option maxRecDepth 100000 in
theorem c_X5_limits (l : Launch) (D : va_G) (cI cZ cO : ClassId) (xq : Nat) (xa : Nat → Nat) (xg : Nat → Nat) (xh : Nat → Int32) (ca : Nat → Nat) (cg : Nat → Nat) (cF : Nat → Nat → Nat) (da : Nat → Nat) (dg : Nat → Nat) (dF : Nat → Nat → Nat) (ra : Nat → Nat) (rg : Nat → Nat) (rF : Nat → Nat → Nat) (rE : Nat → Nat → Int32) (sz : Nat) (q0 : Int32)  (hn : cg 0 ≤ 4) (hk : ∀ z0, cF 2 z0 ≤ 2) (hlv : ∀ z0, cF 3 z0 ≤ 9) (hm : ∀ z0, cF 4 z0 ≤ 9) (hrn : cg 1 ≤ 3) (hrc : rg 0 ≤ 8) (hdn : dg 0 ≤ 4) (hdr : dg 1 ≤ 3) (hdk : ∀ z0, dF 2 z0 ≤ 2) (hdl : ∀ z0, dF 3 z0 ≤ 9) (hdm : ∀ z0, dF 4 z0 ≤ 9) (hro : ∀ z0, z0 < rg 0 → rF 1 z0 < cg 0) (hrd : ∀ z0, rF 3 z0 ≤ 1) : Met l yX5_limits wsX5_limits ({ frames := 5, cells := 0, slots := 0, locals := 112 }) (va_Pc [.ref xq, .int q0] (st_W D (ty3 cI cZ cO) (wX cI cZ xq xa xg xh ++ (wC cI cZ (xa 1) ca cg cF ++ (wC cI cZ (xa 2) da dg dF ++ (wR cI cZ (xa 3) ra rg rF rE)))) sz)) (va_Qi (fun (rr : Int32) (u : (Nat → Nat) × (Nat → Nat) × (Nat → Nat) × (Nat) × (Nat)) => (rr = aLim (cg 0) (rg 0) (rF 1) (rE 2) (rF 3) (cF 2) (cF 3) (cF 4) q0) ∧ (u.2.2.2.1 ≤ 4 ∧ u.2.2.2.2 ≤ 3 ∧ (∀ z0, u.1 z0 ≤ 2) ∧ (∀ z0, u.2.1 z0 ≤ 9) ∧ ∀ z0, u.2.2.1 z0 ≤ 9)) (fun u t => at_W D (ty3 cI cZ cO) (va_A (wX cI cZ xq xa xg xh ++ (wC cI cZ (xa 1) ca cg cF ++ (wC cI cZ (xa 2) da dg dF ++ (wR cI cZ (xa 3) ra rg rF rE)))) sz) (wX cI cZ xq xa xg xh ++ (wC cI cZ (xa 1) ca cg cF ++ (wC cI cZ (xa 2) da (sF (sF dg 0 u.2.2.2.1) 1 u.2.2.2.2) (sF (sF (sF dF 2 u.1) 3 u.2.1) 4 u.2.2.1) ++ (wR cI cZ (xa 3) ra rg rF rE)))) t) (va_A (wX cI cZ xq xa xg xh ++ (wC cI cZ (xa 1) ca cg cF ++ (wC cI cZ (xa 2) da dg dF ++ (wR cI cZ (xa 3) ra rg rF rE)))) sz)) 0 0 (va_A (wX cI cZ xq xa xg xh ++ (wC cI cZ (xa 1) ca cg cF ++ (wC cI cZ (xa 2) da dg dF ++ (wR cI cZ (xa 3) ra rg rF rE)))) sz) := by
  refine Met.goi (cc := cX5_limits) (maxL := 2) (ret := (some .int)) (by decide) rfl (Nat.le_of_ble_eq_true rfl) (fun p e s m below meth c A ls X hW hl => ?_)
  have hi5 : ∀ w ∈ wsX50, w ∈ wsX5_limits := fun w h => List.mem_cons_of_mem _ (List.mem_append_left _ (List.mem_append_left _ (List.mem_append_right _ h)))
  have hi0 : ∀ w ∈ wsX00, w ∈ wsX5_limits := fun w h => List.mem_cons_of_mem _ (List.mem_append_left _ (List.mem_append_right _ h))
  have hi1 : ∀ w ∈ wsX10, w ∈ wsX5_limits := fun w h => List.mem_cons_of_mem _ (List.mem_append_right _ h)
  have hl : lv_has ls 2 [(0, .ref xq), (1, .int q0)] := hl
  refine x_aload_n X dX5_limits_0 rfl (lv_at hl 0 rfl) ?_
  refine x_iload_n X dX5_limits_1 rfl (lv_at hl 1 rfl) ?_
  refine x_iconst (v := nI 2) X dX5_limits_2 (by decide) ?_
  refine x_bipush (v := nI 9) X dX5_limits_3 (by decide) ?_
  refine x_callVi0 X hW (As := [.int q0, .int (nI 2), .int (nI 9)]) (rest := []) (c_X5_limitsF l D cI cZ cO xq xa xg xh ca cg cF da dg dF ra rg rF rE _ q0 (show (cg 0) ≤ 4 from (by first | assumption | omega)) (show ∀ z0, (cF 2) z0 ≤ 2 from (by first | assumption | omega)) (show ∀ z0, (cF 3) z0 ≤ 9 from (by first | assumption | omega)) (show ∀ z0, (cF 4) z0 ≤ 9 from (by first | assumption | omega)) (show (cg 1) ≤ 3 from (by first | assumption | omega)) (show (rg 0) ≤ 8 from (by first | assumption | omega)) (show (dg 0) ≤ 4 from (by first | assumption | omega)) (show (dg 1) ≤ 3 from (by first | assumption | omega)) (show ∀ z0, (dF 2) z0 ≤ 2 from (by first | assumption | omega)) (show ∀ z0, (dF 3) z0 ≤ 9 from (by first | assumption | omega)) (show ∀ z0, (dF 4) z0 ≤ 9 from (by first | assumption | omega)) (show ∀ z0, z0 < (rg 0) → (rF 1) z0 < (cg 0) from (by first | assumption | omega)) (show ∀ z0, (rF 3) z0 ≤ 1 from (by first | assumption | omega))) (cwV 3 X.2.2.2.2.2.1 gX5_limits_X5_numbersThatFit rfl rfl rfl (by decide +kernel) ⟨Nat.le_of_ble_eq_true rfl, Nat.le_of_ble_eq_true rfl⟩) 0 4 rfl rfl rfl rfl hl.1 rfl (Nat.le_of_ble_eq_true rfl) ⟨Nat.le_of_ble_eq_true rfl, Nat.le_of_ble_eq_true rfl⟩ dX5_limits_5 (fun r6 u7 H locs w5 hW => ?_)
  obtain ⟨o1_1, o2_2, o3_3, o4_4, o5_5⟩ := u7
  have hW : Wd D A s.heap H locs (wX cI cZ xq xa xg xh ++ (wC cI cZ (xa 1) ca cg cF ++ (wC cI cZ (xa 2) da (sF (sF dg 0 o4_4) 1 o5_5) (sF (sF (sF dF 2 o1_1) 3 o2_2) 4 o3_3) ++ (wR cI cZ (xa 3) ra rg rF rE)))) := hW
  replace w5 : (r6 = aLim ((cg 0)) ((rg 0)) ((rF 1)) ((rE 2)) ((rF 3)) ((cF 2)) ((cF 3)) ((cF 4)) q0) ∧ (o4_4 ≤ 4 ∧ o5_5 ≤ 3 ∧ (∀ z0, o1_1 z0 ≤ 2) ∧ (∀ z0, o2_2 z0 ≤ 9) ∧ ∀ z0, o3_3 z0 ≤ 9) := w5
  obtain ⟨r6e, w5⟩ := w5
  subst r6e
  exact x_iret X hW rfl (o1_1, o2_2, o3_3, o4_4, o5_5) (⟨rfl, w5⟩) rfl dX5_limits_8
set_option maxHeartbeats 4000000 in
set_option maxRecDepth 100000 in
theorem c_X5_kindsF (l : Launch) (D : va_G) (cI cZ cO : ClassId) (xq : Nat) (xa : Nat → Nat) (xg : Nat → Nat) (xh : Nat → Int32) (ca : Nat → Nat) (cg : Nat → Nat) (cF : Nat → Nat → Nat) (da : Nat → Nat) (dg : Nat → Nat) (dF : Nat → Nat → Nat) (ra : Nat → Nat) (rg : Nat → Nat) (rF : Nat → Nat → Nat) (rE : Nat → Nat → Int32) (sz : Nat) (q0 : Int32)  (hn : cg 0 ≤ 4) (hk : ∀ z0, cF 2 z0 ≤ 2) (hlv : ∀ z0, cF 3 z0 ≤ 9) (hm : ∀ z0, cF 4 z0 ≤ 9) (hrn : cg 1 ≤ 3) (hrc : rg 0 ≤ 8) (hdn : dg 0 ≤ 4) (hdr : dg 1 ≤ 3) (hdk : ∀ z0, dF 2 z0 ≤ 2) (hdl : ∀ z0, dF 3 z0 ≤ 9) (hdm : ∀ z0, dF 4 z0 ≤ 9) (hro : ∀ z0, z0 < rg 0 → rF 1 z0 < cg 0) (hrd : ∀ z0, rF 3 z0 ≤ 1) : Met l yX5_numbersThatFit wsX5_numbersThatFit ({ frames := 4, cells := 0, slots := 0, locals := 87 }) (va_Pc [.ref xq, .int q0, .int (nI 0), .int (nI 2)] (st_W D (ty3 cI cZ cO) (wX cI cZ xq xa xg xh ++ (wC cI cZ (xa 1) ca cg cF ++ (wC cI cZ (xa 2) da dg dF ++ (wR cI cZ (xa 3) ra rg rF rE)))) sz)) (va_Qi (fun (rr : Int32) (u : (Nat → Nat) × (Nat → Nat) × (Nat → Nat) × (Nat) × (Nat)) => (rr = aKin (cg 0) (rg 0) (rF 1) (rE 2) (rF 3) (cF 2) (cF 3) (cF 4) q0) ∧ (u.2.2.2.1 ≤ 4 ∧ u.2.2.2.2 ≤ 3 ∧ (∀ z0, u.1 z0 ≤ 2) ∧ (∀ z0, u.2.1 z0 ≤ 9) ∧ ∀ z0, u.2.2.1 z0 ≤ 9)) (fun u t => at_W D (ty3 cI cZ cO) (va_A (wX cI cZ xq xa xg xh ++ (wC cI cZ (xa 1) ca cg cF ++ (wC cI cZ (xa 2) da dg dF ++ (wR cI cZ (xa 3) ra rg rF rE)))) sz) (wX cI cZ xq xa xg xh ++ (wC cI cZ (xa 1) ca cg cF ++ (wC cI cZ (xa 2) da (sF (sF dg 0 u.2.2.2.1) 1 u.2.2.2.2) (sF (sF (sF dF 2 u.1) 3 u.2.1) 4 u.2.2.1) ++ (wR cI cZ (xa 3) ra rg rF rE)))) t) (va_A (wX cI cZ xq xa xg xh ++ (wC cI cZ (xa 1) ca cg cF ++ (wC cI cZ (xa 2) da dg dF ++ (wR cI cZ (xa 3) ra rg rF rE)))) sz)) 0 0 (va_A (wX cI cZ xq xa xg xh ++ (wC cI cZ (xa 1) ca cg cF ++ (wC cI cZ (xa 2) da dg dF ++ (wR cI cZ (xa 3) ra rg rF rE)))) sz) := by
  refine Met.goi (cc := cX5_numbersThatFit) (maxL := 6) (ret := (some .int)) (by decide) rfl (Nat.le_of_ble_eq_true rfl) (fun p e s m below meth c A ls X hW hl => ?_)
  have hi5 : ∀ w ∈ wsX50, w ∈ wsX5_numbersThatFit := fun w h => List.mem_cons_of_mem _ (List.mem_append_left _ (List.mem_append_left _ (List.mem_append_right _ h)))
  have hi0 : ∀ w ∈ wsX00, w ∈ wsX5_numbersThatFit := fun w h => List.mem_cons_of_mem _ (List.mem_append_left _ (List.mem_append_right _ h))
  have hi1 : ∀ w ∈ wsX10, w ∈ wsX5_numbersThatFit := fun w h => List.mem_cons_of_mem _ (List.mem_append_right _ h)
  have hl : lv_has ls 6 [(0, .ref xq), (1, .int q0), (2, .int (nI 0)), (3, .int (nI 2))] := hl
  refine x_aload_n X dX5_numbersThatFit_0 rfl (lv_at hl 0 rfl) ?_
  refine x_get X hW (v := .ref (xa 1)) hi5 0 rfl rfl 1 (by decide) (List.mem_of_getElem? (i := 1) rfl) rfl rfl dX5_numbersThatFit_1 ?_
  refine x_iload_n X dX5_numbersThatFit_4 rfl (lv_at hl 1 rfl) ?_
  refine x_callVi X hW (As := [.int q0]) (rest := []) (wz := fun u => (wX cI cZ xq xa xg xh ++ (wC cI cZ (xa 1) ca cg cF ++ (wC cI cZ (xa 2) da dg dF ++ (wR cI cZ (xa 3) ra rg rF rE))))) (c_X0_has l D cI cZ cO (xa 1) ca cg cF _ q0 (show (cg 0) ≤ 4 from (by first | assumption | omega))) (cwV 1 X.2.2.2.2.2.1 gX5_numbersThatFit_X0_has rfl rfl rfl (by decide +kernel) ⟨Nat.le_of_ble_eq_true rfl, Nat.le_of_ble_eq_true rfl⟩) 1 0 rfl rfl rfl [1, 2, 3, 4] [0, 5, 6, 7, 8, 9, 10, 11, 12] [0, 9, 10, 11, 12, 1, 2, 3, 4, 5, 6, 7, 8] rfl rfl (by decide) (fun _ => rfl) rfl hl.1 rfl (Nat.le_of_ble_eq_true rfl) ⟨Nat.le_of_ble_eq_true rfl, Nat.le_of_ble_eq_true rfl⟩ dX5_numbersThatFit_5 (fun r1 u2 H locs w5 hW => ?_)
  have hW : Wd D A s.heap H locs (wX cI cZ xq xa xg xh ++ (wC cI cZ (xa 1) ca cg cF ++ (wC cI cZ (xa 2) da dg dF ++ (wR cI cZ (xa 3) ra rg rF rE)))) := hW
  replace w5 : (r1 = nI 1 ∧ (inR q0 ((cg 0))) ∨ r1 = nI 0 ∧ ¬ (inR q0 ((cg 0)))) := w5
  rcases w5 with ⟨w5, h5⟩ | ⟨w5, h5⟩
  · subst w5
    obtain ⟨j, hj, rfl⟩ := inR_ex ((Iff.refl (inR q0 (cg 0))).mp h5) (by omega)
    refine n_if_ne X 13 dX5_numbersThatFit_8 (by decide) (by decide) (fun c8 => ?_) (fun c8 => by exact absurd c8 (by decide))
    refine x_aload_n X dX5_numbersThatFit_13 rfl (lv_at hl 0 rfl) ?_
    refine x_get X hW (v := .ref (xa 2)) hi5 0 rfl rfl 2 (by decide) (List.mem_of_getElem? (i := 2) rfl) rfl rfl dX5_numbersThatFit_14 ?_
    refine x_aload_n X dX5_numbersThatFit_17 rfl (lv_at hl 0 rfl) ?_
    refine x_get X hW (v := .ref (xa 1)) hi5 0 rfl rfl 1 (by decide) (List.mem_of_getElem? (i := 1) rfl) rfl rfl dX5_numbersThatFit_18 ?_
    refine x_callVv X hW (As := [.ref (xa 1)]) (rest := []) (wz := fun u => (wX cI cZ xq xa xg xh ++ (wC cI cZ (xa 1) ca cg cF ++ (wC cI cZ (xa 2) da (sF (sF dg 0 (cg 0)) 1 (cg 1)) (sF (sF (sF dF 2 (cpN ((cg 0)) ((cF 2)) ((dF 2)))) 3 (cpN ((cg 0)) ((cF 3)) ((dF 3)))) 4 (cpN ((cg 0)) ((cF 4)) ((dF 4)))) ++ (wR cI cZ (xa 3) ra rg rF rE))))) (c_X0_takeOver l D cI cZ cO (xa 2) da dg dF (xa 1) ca cg cF _ (show (cg 0) ≤ 4 from (by first | assumption | omega))) (cwV 1 X.2.2.2.2.2.1 gX5_numbersThatFit_X0_takeOver rfl rfl rfl (by decide +kernel) ⟨Nat.le_of_ble_eq_true rfl, Nat.le_of_ble_eq_true rfl⟩) 5 0 rfl rfl rfl [5, 6, 7, 8, 1, 2, 3, 4] [0, 9, 10, 11, 12] [0, 9, 10, 11, 12, 5, 6, 7, 8, 1, 2, 3, 4] rfl rfl (by decide) (fun _ => rfl) rfl hl.1 rfl (Nat.le_of_ble_eq_true rfl) ⟨Nat.le_of_ble_eq_true rfl, Nat.le_of_ble_eq_true rfl⟩ dX5_numbersThatFit_21 (fun u4 H locs w21 hW => ?_)
    have hW : Wd D A s.heap H locs (wX cI cZ xq xa xg xh ++ (wC cI cZ (xa 1) ca cg cF ++ (wC cI cZ (xa 2) da (sF (sF dg 0 (cg 0)) 1 (cg 1)) (sF (sF (sF dF 2 (cpN ((cg 0)) ((cF 2)) ((dF 2)))) 3 (cpN ((cg 0)) ((cF 3)) ((dF 3)))) 4 (cpN ((cg 0)) ((cF 4)) ((dF 4)))) ++ (wR cI cZ (xa 3) ra rg rF rE)))) := hW
    replace w21 : True := w21
    refine x_iconst (v := nI 0) X dX5_numbersThatFit_24 (by decide) ?_
    refine x_istore X [(4, .int (nI 0)), (0, .ref xq), (1, .int (nI j)), (2, .int (nI 0)), (3, .int (nI 2))] dX5_numbersThatFit_25 hl (by decide) rfl (fun ls hl => ?_)
    refine x_iconst (v := nI 0) X dX5_numbersThatFit_27 (by decide) ?_
    refine x_istore X [(5, .int (nI 0)), (4, .int (nI 0)), (0, .ref xq), (1, .int (nI j)), (2, .int (nI 0)), (3, .int (nI 2))] dX5_numbersThatFit_28 hl (by decide) rfl (fun ls hl => ?_)
    have q2 : ∀ z0, cpN (cg 0) (cF 2) (dF 2) z0 ≤ 2 := cpN_le hk hdk
    have q3 : ∀ z0, cpN (cg 0) (cF 3) (dF 3) z0 ≤ 9 := cpN_le hlv hdl
    have q4 : ∀ z0, cpN (cg 0) (cF 4) (dF 4) z0 ≤ 9 := cpN_le hm hdm
    refine W.loop (σ := (Nat) × (Nat → Nat)) (fun u H locs ls => (u.1 ≤ 3 ∧ (∀ z0, sF u.2 j z0 = sF (cpN (cg 0) (cF 2) (dF 2)) j z0) ∧ ∀ z0, u.2 z0 ≤ 2) ∧ Wd D A s.heap H locs (wX cI cZ xq xa xg xh ++ (wC cI cZ (xa 1) ca cg cF ++ (wC cI cZ (xa 2) da (sF (sF dg 0 (cg 0)) 1 (cg 1)) (sF (sF (sF dF 2 u.2) 3 (cpN ((cg 0)) ((cF 3)) ((dF 3)))) 4 (cpN ((cg 0)) ((cF 4)) ((dF 4)))) ++ (wR cI cZ (xa 3) ra rg rF rE)))) ∧ lv_has ls 6 [(5, .int (nI u.1)), (4, .int (setI (fun z => fitP (rg 0) (rF 1) (rE 2) (rF 3) (sF (cpN (cg 0) (cF 2) (dF 2)) j z) (cpN (cg 0) (cF 3) (dF 3)) (cpN (cg 0) (cF 4) (dF 4))) u.1)), (0, .ref xq), (1, .int (nI j)), (2, .int (nI 0)), (3, .int (nI 2))]) (fun u => 3 - u.1) (fun u H locs ls hI ih => ?_) (0, (cpN ((cg 0)) ((cF 2)) ((dF 2)))) ⟨(show 0 ≤ 3 ∧ (∀ z0, sF (cpN ((cg 0)) ((cF 2)) ((dF 2))) j z0 = sF (cpN (cg 0) (cF 2) (dF 2)) j z0) ∧ ∀ z0, (cpN ((cg 0)) ((cF 2)) ((dF 2))) z0 ≤ 2 from (by first | exact ⟨by omega, fun _ => rfl, q2⟩ | exact ⟨by omega, fun _ => sF_sF _ _ _ _, sF_le q2 (by omega)⟩)), hW, hl⟩
    obtain ⟨v, L⟩ := u
    obtain ⟨hv, hW, hl⟩ := hI
    have hv : v ≤ 3 ∧ (∀ z0, sF L j z0 = sF (cpN (cg 0) (cF 2) (dF 2)) j z0) ∧ ∀ z0, L z0 ≤ 2 := hv
    have hW : Wd D A s.heap H locs (wX cI cZ xq xa xg xh ++ (wC cI cZ (xa 1) ca cg cF ++ (wC cI cZ (xa 2) da (sF (sF dg 0 (cg 0)) 1 (cg 1)) (sF (sF (sF dF 2 L) 3 (cpN ((cg 0)) ((cF 3)) ((dF 3)))) 4 (cpN ((cg 0)) ((cF 4)) ((dF 4)))) ++ (wR cI cZ (xa 3) ra rg rF rE)))) := hW
    have hl : lv_has ls 6 [(5, .int (nI v)), (4, .int (setI (fun z => fitP (rg 0) (rF 1) (rE 2) (rF 3) (sF (cpN (cg 0) (cF 2) (dF 2)) j z) (cpN (cg 0) (cF 3) (dF 3)) (cpN (cg 0) (cF 4) (dF 4))) v)), (0, .ref xq), (1, .int (nI j)), (2, .int (nI 0)), (3, .int (nI 2))] := hl
    have ih30 := ih
    refine x_iload X dX5_numbersThatFit_30 (lv_at hl 0 rfl) ?_
    refine x_iload_n X dX5_numbersThatFit_32 rfl (lv_at hl 5 rfl) ?_
    refine n_icmp_gt X 76 dX5_numbersThatFit_33 (by decide) (by omega) (by decide) (fun c33 => ?_) (fun c33 => ?_)
    · refine x_iload X dX5_numbersThatFit_76 (lv_at hl 1 rfl) ?_
      exact x_iret X hW rfl (L, cpN ((cg 0)) ((cF 3)) ((dF 3)), cpN ((cg 0)) ((cF 4)) ((dF 4)), (cg 0), (cg 1)) (⟨by rw [show v = 3 by omega]; unfold aKin; rw [onR_in hj (by omega)]; exact setI_cong (fun z hz => fit_cp hro (sF_cong (fun i hi => cpN_in hi) rfl) (fun i hi => cpN_in hi) (fun i hi => cpN_in hi)), hn, hrn, hv.2.2, q3, q4⟩) rfl dX5_numbersThatFit_78
    · refine x_aload_n X dX5_numbersThatFit_36 rfl (lv_at hl 2 rfl) ?_
      refine x_get X hW (v := .ref (xa 2)) hi5 0 rfl rfl 2 (by decide) (List.mem_of_getElem? (i := 2) rfl) rfl rfl dX5_numbersThatFit_37 ?_
      refine x_iload_n X dX5_numbersThatFit_40 rfl (lv_at hl 3 rfl) ?_
      refine x_iload_n X dX5_numbersThatFit_41 rfl (lv_at hl 4 rfl) ?_
      refine x_iload X dX5_numbersThatFit_42 (lv_at hl 0 rfl) ?_
      refine x_callVv X hW (As := [.int (nI j), .int (nI 0), .int (nI v)]) (rest := []) (wz := fun u => (wX cI cZ xq xa xg xh ++ (wC cI cZ (xa 1) ca cg cF ++ (wC cI cZ (xa 2) da (sF (sF dg 0 (cg 0)) 1 (cg 1)) (sF (sF (sF dF 2 (sF (L) j v)) 3 (cpN ((cg 0)) ((cF 3)) ((dF 3)))) 4 (cpN ((cg 0)) ((cF 4)) ((dF 4)))) ++ (wR cI cZ (xa 3) ra rg rF rE))))) (c_X0_become0 l D cI cZ cO (xa 2) da (sF (sF dg 0 (cg 0)) 1 (cg 1)) (sF (sF (sF dF 2 L) 3 (cpN ((cg 0)) ((cF 3)) ((dF 3)))) 4 (cpN ((cg 0)) ((cF 4)) ((dF 4)))) _ j v (show j < (cg 0) from (by first | assumption | omega)) (show (cg 0) ≤ 4 from (by first | assumption | omega))) (cwV 3 X.2.2.2.2.2.1 gX5_numbersThatFit_X0_become rfl rfl rfl (by decide +kernel) ⟨Nat.le_of_ble_eq_true rfl, Nat.le_of_ble_eq_true rfl⟩) 5 0 rfl rfl rfl [5, 6, 7, 8] [0, 1, 2, 3, 4, 9, 10, 11, 12] [0, 1, 2, 3, 4, 9, 10, 11, 12, 5, 6, 7, 8] rfl rfl (by decide) (fun _ => rfl) rfl hl.1 rfl (Nat.le_of_ble_eq_true rfl) ⟨Nat.le_of_ble_eq_true rfl, Nat.le_of_ble_eq_true rfl⟩ dX5_numbersThatFit_44 (fun u6 H locs w44 hW => ?_)
      have hW : Wd D A s.heap H locs (wX cI cZ xq xa xg xh ++ (wC cI cZ (xa 1) ca cg cF ++ (wC cI cZ (xa 2) da (sF (sF dg 0 (cg 0)) 1 (cg 1)) (sF (sF (sF dF 2 (sF (L) j v)) 3 (cpN ((cg 0)) ((cF 3)) ((dF 3)))) 4 (cpN ((cg 0)) ((cF 4)) ((dF 4)))) ++ (wR cI cZ (xa 3) ra rg rF rE)))) := hW
      replace w44 : True := w44
      have hW : Wd D A s.heap H locs (wX cI cZ xq xa xg xh ++ (wC cI cZ (xa 1) ca cg cF ++ (wC cI cZ (xa 2) da (sF (sF dg 0 (cg 0)) 1 (cg 1)) (sF (sF (sF dF 2 (sF (cpN (cg 0) (cF 2) (dF 2)) j v)) 3 (cpN ((cg 0)) ((cF 3)) ((dF 3)))) 4 (cpN ((cg 0)) ((cF 4)) ((dF 4)))) ++ (wR cI cZ (xa 3) ra rg rF rE)))) := hW.eq (congrArg (fun z => (wX cI cZ xq xa xg xh ++ (wC cI cZ (xa 1) ca cg cF ++ (wC cI cZ (xa 2) da (sF (sF dg 0 (cg 0)) 1 (cg 1)) (sF (sF (sF dF 2 z) 3 (cpN ((cg 0)) ((cF 3)) ((dF 3)))) 4 (cpN ((cg 0)) ((cF 4)) ((dF 4)))) ++ (wR cI cZ (xa 3) ra rg rF rE))))) (show (sF (L) j v) = (sF (cpN (cg 0) (cF 2) (dF 2)) j v) from by exact hv.2.1 v))
      refine x_aload_n X dX5_numbersThatFit_47 rfl (lv_at hl 2 rfl) ?_
      refine x_get X hW (v := .ref (xa 3)) hi5 0 rfl rfl 3 (by decide) (List.mem_of_getElem? (i := 3) rfl) rfl rfl dX5_numbersThatFit_48 ?_
      refine x_aload_n X dX5_numbersThatFit_51 rfl (lv_at hl 2 rfl) ?_
      refine x_get X hW (v := .ref (xa 2)) hi5 0 rfl rfl 2 (by decide) (List.mem_of_getElem? (i := 2) rfl) rfl rfl dX5_numbersThatFit_52 ?_
      refine x_callVi X hW (As := [.ref (xa 2)]) (rest := []) (wz := fun u => (wX cI cZ xq xa xg xh ++ (wC cI cZ (xa 1) ca cg cF ++ (wC cI cZ (xa 2) da (sF (sF dg 0 (cg 0)) 1 (cg 1)) (sF (sF (sF dF 2 (sF (cpN (cg 0) (cF 2) (dF 2)) j v)) 3 (cpN ((cg 0)) ((cF 3)) ((dF 3)))) 4 (cpN ((cg 0)) ((cF 4)) ((dF 4)))) ++ (wR cI cZ (xa 3) ra rg rF rE))))) (c_X1_areSoIn l D cI cZ cO (xa 3) ra rg rF rE (xa 2) da (sF (sF dg 0 (cg 0)) 1 (cg 1)) (sF (sF (sF dF 2 (sF (cpN (cg 0) (cF 2) (dF 2)) j v)) 3 (cpN ((cg 0)) ((cF 3)) ((dF 3)))) 4 (cpN ((cg 0)) ((cF 4)) ((dF 4)))) _ (show (rg 0) ≤ 8 from hrc) (show (cg 0) ≤ 4 from hn) (show ∀ z0, z0 < (rg 0) → (rF 1) z0 < (cg 0) from hro) (show ∀ z0, (rF 3) z0 ≤ 1 from hrd) (show ∀ z0, (sF (cpN (cg 0) (cF 2) (dF 2)) j v) z0 ≤ 2 from (sF_le q2 (by omega))) (show ∀ z0, (cpN ((cg 0)) ((cF 3)) ((dF 3))) z0 ≤ 9 from q3) (show ∀ z0, (cpN ((cg 0)) ((cF 4)) ((dF 4))) z0 ≤ 9 from q4)) (cwV 1 X.2.2.2.2.2.1 gX5_numbersThatFit_X1_areSoIn rfl rfl rfl (by decide +kernel) ⟨Nat.le_of_ble_eq_true rfl, Nat.le_of_ble_eq_true rfl⟩) 9 1 rfl rfl rfl [9, 10, 11, 12, 5, 6, 7, 8] [0, 1, 2, 3, 4] [0, 1, 2, 3, 4, 9, 10, 11, 12, 5, 6, 7, 8] rfl rfl (by decide) (fun _ => rfl) rfl hl.1 rfl (Nat.le_of_ble_eq_true rfl) ⟨Nat.le_of_ble_eq_true rfl, Nat.le_of_ble_eq_true rfl⟩ dX5_numbersThatFit_55 (fun r7 u8 H locs w55 hW => ?_)
      have hW : Wd D A s.heap H locs (wX cI cZ xq xa xg xh ++ (wC cI cZ (xa 1) ca cg cF ++ (wC cI cZ (xa 2) da (sF (sF dg 0 (cg 0)) 1 (cg 1)) (sF (sF (sF dF 2 (sF (cpN (cg 0) (cF 2) (dF 2)) j v)) 3 (cpN ((cg 0)) ((cF 3)) ((dF 3)))) 4 (cpN ((cg 0)) ((cF 4)) ((dF 4)))) ++ (wR cI cZ (xa 3) ra rg rF rE)))) := hW
      replace w55 : (r7 = nI 1 ∧ (fitP ((rg 0)) ((rF 1)) ((rE 2)) ((rF 3)) ((sF (cpN (cg 0) (cF 2) (dF 2)) j v)) ((cpN ((cg 0)) ((cF 3)) ((dF 3)))) ((cpN ((cg 0)) ((cF 4)) ((dF 4))))) ∨ r7 = nI 0 ∧ ¬ (fitP ((rg 0)) ((rF 1)) ((rE 2)) ((rF 3)) ((sF (cpN (cg 0) (cF 2) (dF 2)) j v)) ((cpN ((cg 0)) ((cF 3)) ((dF 3)))) ((cpN ((cg 0)) ((cF 4)) ((dF 4)))))) := w55
      rcases w55 with ⟨w55, h55⟩ | ⟨w55, h55⟩
      · subst w55
        refine n_if_eq X 70 dX5_numbersThatFit_58 (by decide) (by decide) (fun c58 => by exact absurd c58 (by decide)) (fun c58 => ?_)
        refine x_iload X dX5_numbersThatFit_61 (lv_at hl 1 rfl) ?_
        refine x_iconst (v := nI 1) X dX5_numbersThatFit_63 (by decide) ?_
        refine x_iload X dX5_numbersThatFit_64 (lv_at hl 0 rfl) ?_
        refine x_ishl (v := (nI 1) <<< ((nI v) &&& 31)) X dX5_numbersThatFit_66 rfl ?_
        refine x_ior (v := (setI (fun z => fitP (rg 0) (rF 1) (rE 2) (rF 3) (sF (cpN (cg 0) (cF 2) (dF 2)) j z) (cpN (cg 0) (cF 3) (dF 3)) (cpN (cg 0) (cF 4) (dF 4))) v) ||| ((nI 1) <<< ((nI v) &&& 31))) X dX5_numbersThatFit_67 rfl ?_
        refine i_as0 (b := setI (fun z => fitP (rg 0) (rF 1) (rE 2) (rF 3) (sF (cpN (cg 0) (cF 2) (dF 2)) j z) (cpN (cg 0) (cF 3) (dF 3)) (cpN (cg 0) (cF 4) (dF 4))) (v + 1)) (setI_y h55).symm ?_
        refine x_istore X [(4, .int (setI (fun z => fitP (rg 0) (rF 1) (rE 2) (rF 3) (sF (cpN (cg 0) (cF 2) (dF 2)) j z) (cpN (cg 0) (cF 3) (dF 3)) (cpN (cg 0) (cF 4) (dF 4))) (v + 1))), (5, .int (nI v)), (0, .ref xq), (1, .int (nI j)), (2, .int (nI 0)), (3, .int (nI 2))] dX5_numbersThatFit_68 hl (by decide) rfl (fun ls hl => ?_)
        refine x_iinc X [(5, .int (nI (v + 1))), (4, .int (setI (fun z => fitP (rg 0) (rF 1) (rE 2) (rF 3) (sF (cpN (cg 0) (cF 2) (dF 2)) j z) (cpN (cg 0) (cF 3) (dF 3)) (cpN (cg 0) (cF 4) (dF 4))) (v + 1))), (0, .ref xq), (1, .int (nI j)), (2, .int (nI 0)), (3, .int (nI 2))] (k := 1) dX5_numbersThatFit_70 hl rfl (nI_inc1 v) (by decide) rfl (fun ls hl => ?_)
        refine x_goto X 30 dX5_numbersThatFit_73 (by decide) ?_
        exact ih30 ((v + 1), (sF (cpN (cg 0) (cF 2) (dF 2)) j v)) _ _ _ ⟨(show (v + 1) ≤ 3 ∧ (∀ z0, sF (sF (cpN (cg 0) (cF 2) (dF 2)) j v) j z0 = sF (cpN (cg 0) (cF 2) (dF 2)) j z0) ∧ ∀ z0, (sF (cpN (cg 0) (cF 2) (dF 2)) j v) z0 ≤ 2 from (by first | exact ⟨by omega, fun _ => rfl, q2⟩ | exact ⟨by omega, fun _ => sF_sF _ _ _ _, sF_le q2 (by omega)⟩)), hW, lv_sub hl [0, 1, 2, 3, 4, 5] rfl⟩ (by dsimp only; omega)
      · subst w55
        refine n_if_eq X 70 dX5_numbersThatFit_58 (by decide) (by decide) (fun c58 => ?_) (fun c58 => by exact absurd c58 (by decide))
        have hl : lv_has ls 6 [(5, .int (nI v)), (4, .int (setI (fun z => fitP (rg 0) (rF 1) (rE 2) (rF 3) (sF (cpN (cg 0) (cF 2) (dF 2)) j z) (cpN (cg 0) (cF 3) (dF 3)) (cpN (cg 0) (cF 4) (dF 4))) (v + 1))), (0, .ref xq), (1, .int (nI j)), (2, .int (nI 0)), (3, .int (nI 2))] := by rw [setI_n h55]; exact hl
        refine x_iinc X [(5, .int (nI (v + 1))), (4, .int (setI (fun z => fitP (rg 0) (rF 1) (rE 2) (rF 3) (sF (cpN (cg 0) (cF 2) (dF 2)) j z) (cpN (cg 0) (cF 3) (dF 3)) (cpN (cg 0) (cF 4) (dF 4))) (v + 1))), (0, .ref xq), (1, .int (nI j)), (2, .int (nI 0)), (3, .int (nI 2))] (k := 0) dX5_numbersThatFit_70 hl rfl (nI_inc1 v) (by decide) rfl (fun ls hl => ?_)
        refine x_goto X 30 dX5_numbersThatFit_73 (by decide) ?_
        exact ih30 ((v + 1), (sF (cpN (cg 0) (cF 2) (dF 2)) j v)) _ _ _ ⟨(show (v + 1) ≤ 3 ∧ (∀ z0, sF (sF (cpN (cg 0) (cF 2) (dF 2)) j v) j z0 = sF (cpN (cg 0) (cF 2) (dF 2)) j z0) ∧ ∀ z0, (sF (cpN (cg 0) (cF 2) (dF 2)) j v) z0 ≤ 2 from (by first | exact ⟨by omega, fun _ => rfl, q2⟩ | exact ⟨by omega, fun _ => sF_sF _ _ _ _, sF_le q2 (by omega)⟩)), hW, lv_sub hl [0, 1, 2, 3, 4, 5] rfl⟩ (by dsimp only; omega)
  · subst w5
    have gq0 := fun q => h5 ((Iff.refl (inR q0 (cg 0))).mpr q)
    refine n_if_ne X 13 dX5_numbersThatFit_8 (by decide) (by decide) (fun c8 => by exact absurd c8 (by decide)) (fun c8 => ?_)
    refine x_iconst (v := (-1 : Int32)) X dX5_numbersThatFit_11 (by decide) ?_
    exact x_iret X hW rfl (dF 2, dF 3, dF 4, dg 0, dg 1) (⟨by unfold aKin; rw [onR_out gq0], hdn, hdr, hdk, hdl, hdm⟩) rfl dX5_numbersThatFit_12
set_option maxHeartbeats 4000000 in
set_option maxRecDepth 100000 in
theorem c_X5_kinds (l : Launch) (D : va_G) (cI cZ cO : ClassId) (xq : Nat) (xa : Nat → Nat) (xg : Nat → Nat) (xh : Nat → Int32) (ca : Nat → Nat) (cg : Nat → Nat) (cF : Nat → Nat → Nat) (da : Nat → Nat) (dg : Nat → Nat) (dF : Nat → Nat → Nat) (ra : Nat → Nat) (rg : Nat → Nat) (rF : Nat → Nat → Nat) (rE : Nat → Nat → Int32) (sz : Nat) (q0 : Int32)  (hn : cg 0 ≤ 4) (hk : ∀ z0, cF 2 z0 ≤ 2) (hlv : ∀ z0, cF 3 z0 ≤ 9) (hm : ∀ z0, cF 4 z0 ≤ 9) (hrn : cg 1 ≤ 3) (hrc : rg 0 ≤ 8) (hdn : dg 0 ≤ 4) (hdr : dg 1 ≤ 3) (hdk : ∀ z0, dF 2 z0 ≤ 2) (hdl : ∀ z0, dF 3 z0 ≤ 9) (hdm : ∀ z0, dF 4 z0 ≤ 9) (hro : ∀ z0, z0 < rg 0 → rF 1 z0 < cg 0) (hrd : ∀ z0, rF 3 z0 ≤ 1) : Met l yX5_kinds wsX5_kinds ({ frames := 5, cells := 0, slots := 0, locals := 112 }) (va_Pc [.ref xq, .int q0] (st_W D (ty3 cI cZ cO) (wX cI cZ xq xa xg xh ++ (wC cI cZ (xa 1) ca cg cF ++ (wC cI cZ (xa 2) da dg dF ++ (wR cI cZ (xa 3) ra rg rF rE)))) sz)) (va_Qi (fun (rr : Int32) (u : (Nat → Nat) × (Nat → Nat) × (Nat → Nat) × (Nat) × (Nat)) => (rr = aKin (cg 0) (rg 0) (rF 1) (rE 2) (rF 3) (cF 2) (cF 3) (cF 4) q0) ∧ (u.2.2.2.1 ≤ 4 ∧ u.2.2.2.2 ≤ 3 ∧ (∀ z0, u.1 z0 ≤ 2) ∧ (∀ z0, u.2.1 z0 ≤ 9) ∧ ∀ z0, u.2.2.1 z0 ≤ 9)) (fun u t => at_W D (ty3 cI cZ cO) (va_A (wX cI cZ xq xa xg xh ++ (wC cI cZ (xa 1) ca cg cF ++ (wC cI cZ (xa 2) da dg dF ++ (wR cI cZ (xa 3) ra rg rF rE)))) sz) (wX cI cZ xq xa xg xh ++ (wC cI cZ (xa 1) ca cg cF ++ (wC cI cZ (xa 2) da (sF (sF dg 0 u.2.2.2.1) 1 u.2.2.2.2) (sF (sF (sF dF 2 u.1) 3 u.2.1) 4 u.2.2.1) ++ (wR cI cZ (xa 3) ra rg rF rE)))) t) (va_A (wX cI cZ xq xa xg xh ++ (wC cI cZ (xa 1) ca cg cF ++ (wC cI cZ (xa 2) da dg dF ++ (wR cI cZ (xa 3) ra rg rF rE)))) sz)) 0 0 (va_A (wX cI cZ xq xa xg xh ++ (wC cI cZ (xa 1) ca cg cF ++ (wC cI cZ (xa 2) da dg dF ++ (wR cI cZ (xa 3) ra rg rF rE)))) sz) := by
  refine Met.goi (cc := cX5_kinds) (maxL := 2) (ret := (some .int)) (by decide) rfl (Nat.le_of_ble_eq_true rfl) (fun p e s m below meth c A ls X hW hl => ?_)
  have hi5 : ∀ w ∈ wsX50, w ∈ wsX5_kinds := fun w h => List.mem_cons_of_mem _ (List.mem_append_left _ (List.mem_append_left _ (List.mem_append_right _ h)))
  have hi0 : ∀ w ∈ wsX00, w ∈ wsX5_kinds := fun w h => List.mem_cons_of_mem _ (List.mem_append_left _ (List.mem_append_right _ h))
  have hi1 : ∀ w ∈ wsX10, w ∈ wsX5_kinds := fun w h => List.mem_cons_of_mem _ (List.mem_append_right _ h)
  have hl : lv_has ls 2 [(0, .ref xq), (1, .int q0)] := hl
  refine x_aload_n X dX5_kinds_0 rfl (lv_at hl 0 rfl) ?_
  refine x_iload_n X dX5_kinds_1 rfl (lv_at hl 1 rfl) ?_
  refine x_iconst (v := nI 0) X dX5_kinds_2 (by decide) ?_
  refine x_iconst (v := nI 2) X dX5_kinds_3 (by decide) ?_
  refine x_callVi0 X hW (As := [.int q0, .int (nI 0), .int (nI 2)]) (rest := []) (c_X5_kindsF l D cI cZ cO xq xa xg xh ca cg cF da dg dF ra rg rF rE _ q0 (show (cg 0) ≤ 4 from (by first | assumption | omega)) (show ∀ z0, (cF 2) z0 ≤ 2 from (by first | assumption | omega)) (show ∀ z0, (cF 3) z0 ≤ 9 from (by first | assumption | omega)) (show ∀ z0, (cF 4) z0 ≤ 9 from (by first | assumption | omega)) (show (cg 1) ≤ 3 from (by first | assumption | omega)) (show (rg 0) ≤ 8 from (by first | assumption | omega)) (show (dg 0) ≤ 4 from (by first | assumption | omega)) (show (dg 1) ≤ 3 from (by first | assumption | omega)) (show ∀ z0, (dF 2) z0 ≤ 2 from (by first | assumption | omega)) (show ∀ z0, (dF 3) z0 ≤ 9 from (by first | assumption | omega)) (show ∀ z0, (dF 4) z0 ≤ 9 from (by first | assumption | omega)) (show ∀ z0, z0 < (rg 0) → (rF 1) z0 < (cg 0) from (by first | assumption | omega)) (show ∀ z0, (rF 3) z0 ≤ 1 from (by first | assumption | omega))) (cwV 3 X.2.2.2.2.2.1 gX5_kinds_X5_numbersThatFit rfl rfl rfl (by decide +kernel) ⟨Nat.le_of_ble_eq_true rfl, Nat.le_of_ble_eq_true rfl⟩) 0 4 rfl rfl rfl rfl hl.1 rfl (Nat.le_of_ble_eq_true rfl) ⟨Nat.le_of_ble_eq_true rfl, Nat.le_of_ble_eq_true rfl⟩ dX5_kinds_4 (fun r6 u7 H locs w4 hW => ?_)
  obtain ⟨o1_1, o2_2, o3_3, o4_4, o5_5⟩ := u7
  have hW : Wd D A s.heap H locs (wX cI cZ xq xa xg xh ++ (wC cI cZ (xa 1) ca cg cF ++ (wC cI cZ (xa 2) da (sF (sF dg 0 o4_4) 1 o5_5) (sF (sF (sF dF 2 o1_1) 3 o2_2) 4 o3_3) ++ (wR cI cZ (xa 3) ra rg rF rE)))) := hW
  replace w4 : (r6 = aKin ((cg 0)) ((rg 0)) ((rF 1)) ((rE 2)) ((rF 3)) ((cF 2)) ((cF 3)) ((cF 4)) q0) ∧ (o4_4 ≤ 4 ∧ o5_5 ≤ 3 ∧ (∀ z0, o1_1 z0 ≤ 2) ∧ (∀ z0, o2_2 z0 ≤ 9) ∧ ∀ z0, o3_3 z0 ≤ 9) := w4
  obtain ⟨r6e, w4⟩ := w4
  subst r6e
  exact x_iret X hW rfl (o1_1, o2_2, o3_3, o4_4, o5_5) (⟨rfl, w4⟩) rfl dX5_kinds_7
set_option maxHeartbeats 4000000 in
set_option maxRecDepth 100000 in
theorem c_X5_levelsF (l : Launch) (D : va_G) (cI cZ cO : ClassId) (xq : Nat) (xa : Nat → Nat) (xg : Nat → Nat) (xh : Nat → Int32) (ca : Nat → Nat) (cg : Nat → Nat) (cF : Nat → Nat → Nat) (da : Nat → Nat) (dg : Nat → Nat) (dF : Nat → Nat → Nat) (ra : Nat → Nat) (rg : Nat → Nat) (rF : Nat → Nat → Nat) (rE : Nat → Nat → Int32) (sz : Nat) (q0 : Int32)  (hn : cg 0 ≤ 4) (hk : ∀ z0, cF 2 z0 ≤ 2) (hlv : ∀ z0, cF 3 z0 ≤ 9) (hm : ∀ z0, cF 4 z0 ≤ 9) (hrn : cg 1 ≤ 3) (hrc : rg 0 ≤ 8) (hdn : dg 0 ≤ 4) (hdr : dg 1 ≤ 3) (hdk : ∀ z0, dF 2 z0 ≤ 2) (hdl : ∀ z0, dF 3 z0 ≤ 9) (hdm : ∀ z0, dF 4 z0 ≤ 9) (hro : ∀ z0, z0 < rg 0 → rF 1 z0 < cg 0) (hrd : ∀ z0, rF 3 z0 ≤ 1) : Met l yX5_numbersThatFit wsX5_numbersThatFit ({ frames := 4, cells := 0, slots := 0, locals := 87 }) (va_Pc [.ref xq, .int q0, .int (nI 1), .int (nI 9)] (st_W D (ty3 cI cZ cO) (wX cI cZ xq xa xg xh ++ (wC cI cZ (xa 1) ca cg cF ++ (wC cI cZ (xa 2) da dg dF ++ (wR cI cZ (xa 3) ra rg rF rE)))) sz)) (va_Qi (fun (rr : Int32) (u : (Nat → Nat) × (Nat → Nat) × (Nat → Nat) × (Nat) × (Nat)) => (rr = aLev (cg 0) (rg 0) (rF 1) (rE 2) (rF 3) (cF 2) (cF 3) (cF 4) q0) ∧ (u.2.2.2.1 ≤ 4 ∧ u.2.2.2.2 ≤ 3 ∧ (∀ z0, u.1 z0 ≤ 2) ∧ (∀ z0, u.2.1 z0 ≤ 9) ∧ ∀ z0, u.2.2.1 z0 ≤ 9)) (fun u t => at_W D (ty3 cI cZ cO) (va_A (wX cI cZ xq xa xg xh ++ (wC cI cZ (xa 1) ca cg cF ++ (wC cI cZ (xa 2) da dg dF ++ (wR cI cZ (xa 3) ra rg rF rE)))) sz) (wX cI cZ xq xa xg xh ++ (wC cI cZ (xa 1) ca cg cF ++ (wC cI cZ (xa 2) da (sF (sF dg 0 u.2.2.2.1) 1 u.2.2.2.2) (sF (sF (sF dF 2 u.1) 3 u.2.1) 4 u.2.2.1) ++ (wR cI cZ (xa 3) ra rg rF rE)))) t) (va_A (wX cI cZ xq xa xg xh ++ (wC cI cZ (xa 1) ca cg cF ++ (wC cI cZ (xa 2) da dg dF ++ (wR cI cZ (xa 3) ra rg rF rE)))) sz)) 0 0 (va_A (wX cI cZ xq xa xg xh ++ (wC cI cZ (xa 1) ca cg cF ++ (wC cI cZ (xa 2) da dg dF ++ (wR cI cZ (xa 3) ra rg rF rE)))) sz) := by
  refine Met.goi (cc := cX5_numbersThatFit) (maxL := 6) (ret := (some .int)) (by decide) rfl (Nat.le_of_ble_eq_true rfl) (fun p e s m below meth c A ls X hW hl => ?_)
  have hi5 : ∀ w ∈ wsX50, w ∈ wsX5_numbersThatFit := fun w h => List.mem_cons_of_mem _ (List.mem_append_left _ (List.mem_append_left _ (List.mem_append_right _ h)))
  have hi0 : ∀ w ∈ wsX00, w ∈ wsX5_numbersThatFit := fun w h => List.mem_cons_of_mem _ (List.mem_append_left _ (List.mem_append_right _ h))
  have hi1 : ∀ w ∈ wsX10, w ∈ wsX5_numbersThatFit := fun w h => List.mem_cons_of_mem _ (List.mem_append_right _ h)
  have hl : lv_has ls 6 [(0, .ref xq), (1, .int q0), (2, .int (nI 1)), (3, .int (nI 9))] := hl
  refine x_aload_n X dX5_numbersThatFit_0 rfl (lv_at hl 0 rfl) ?_
  refine x_get X hW (v := .ref (xa 1)) hi5 0 rfl rfl 1 (by decide) (List.mem_of_getElem? (i := 1) rfl) rfl rfl dX5_numbersThatFit_1 ?_
  refine x_iload_n X dX5_numbersThatFit_4 rfl (lv_at hl 1 rfl) ?_
  refine x_callVi X hW (As := [.int q0]) (rest := []) (wz := fun u => (wX cI cZ xq xa xg xh ++ (wC cI cZ (xa 1) ca cg cF ++ (wC cI cZ (xa 2) da dg dF ++ (wR cI cZ (xa 3) ra rg rF rE))))) (c_X0_has l D cI cZ cO (xa 1) ca cg cF _ q0 (show (cg 0) ≤ 4 from (by first | assumption | omega))) (cwV 1 X.2.2.2.2.2.1 gX5_numbersThatFit_X0_has rfl rfl rfl (by decide +kernel) ⟨Nat.le_of_ble_eq_true rfl, Nat.le_of_ble_eq_true rfl⟩) 1 0 rfl rfl rfl [1, 2, 3, 4] [0, 5, 6, 7, 8, 9, 10, 11, 12] [0, 9, 10, 11, 12, 1, 2, 3, 4, 5, 6, 7, 8] rfl rfl (by decide) (fun _ => rfl) rfl hl.1 rfl (Nat.le_of_ble_eq_true rfl) ⟨Nat.le_of_ble_eq_true rfl, Nat.le_of_ble_eq_true rfl⟩ dX5_numbersThatFit_5 (fun r1 u2 H locs w5 hW => ?_)
  have hW : Wd D A s.heap H locs (wX cI cZ xq xa xg xh ++ (wC cI cZ (xa 1) ca cg cF ++ (wC cI cZ (xa 2) da dg dF ++ (wR cI cZ (xa 3) ra rg rF rE)))) := hW
  replace w5 : (r1 = nI 1 ∧ (inR q0 ((cg 0))) ∨ r1 = nI 0 ∧ ¬ (inR q0 ((cg 0)))) := w5
  rcases w5 with ⟨w5, h5⟩ | ⟨w5, h5⟩
  · subst w5
    obtain ⟨j, hj, rfl⟩ := inR_ex ((Iff.refl (inR q0 (cg 0))).mp h5) (by omega)
    refine n_if_ne X 13 dX5_numbersThatFit_8 (by decide) (by decide) (fun c8 => ?_) (fun c8 => by exact absurd c8 (by decide))
    refine x_aload_n X dX5_numbersThatFit_13 rfl (lv_at hl 0 rfl) ?_
    refine x_get X hW (v := .ref (xa 2)) hi5 0 rfl rfl 2 (by decide) (List.mem_of_getElem? (i := 2) rfl) rfl rfl dX5_numbersThatFit_14 ?_
    refine x_aload_n X dX5_numbersThatFit_17 rfl (lv_at hl 0 rfl) ?_
    refine x_get X hW (v := .ref (xa 1)) hi5 0 rfl rfl 1 (by decide) (List.mem_of_getElem? (i := 1) rfl) rfl rfl dX5_numbersThatFit_18 ?_
    refine x_callVv X hW (As := [.ref (xa 1)]) (rest := []) (wz := fun u => (wX cI cZ xq xa xg xh ++ (wC cI cZ (xa 1) ca cg cF ++ (wC cI cZ (xa 2) da (sF (sF dg 0 (cg 0)) 1 (cg 1)) (sF (sF (sF dF 2 (cpN ((cg 0)) ((cF 2)) ((dF 2)))) 3 (cpN ((cg 0)) ((cF 3)) ((dF 3)))) 4 (cpN ((cg 0)) ((cF 4)) ((dF 4)))) ++ (wR cI cZ (xa 3) ra rg rF rE))))) (c_X0_takeOver l D cI cZ cO (xa 2) da dg dF (xa 1) ca cg cF _ (show (cg 0) ≤ 4 from (by first | assumption | omega))) (cwV 1 X.2.2.2.2.2.1 gX5_numbersThatFit_X0_takeOver rfl rfl rfl (by decide +kernel) ⟨Nat.le_of_ble_eq_true rfl, Nat.le_of_ble_eq_true rfl⟩) 5 0 rfl rfl rfl [5, 6, 7, 8, 1, 2, 3, 4] [0, 9, 10, 11, 12] [0, 9, 10, 11, 12, 5, 6, 7, 8, 1, 2, 3, 4] rfl rfl (by decide) (fun _ => rfl) rfl hl.1 rfl (Nat.le_of_ble_eq_true rfl) ⟨Nat.le_of_ble_eq_true rfl, Nat.le_of_ble_eq_true rfl⟩ dX5_numbersThatFit_21 (fun u4 H locs w21 hW => ?_)
    have hW : Wd D A s.heap H locs (wX cI cZ xq xa xg xh ++ (wC cI cZ (xa 1) ca cg cF ++ (wC cI cZ (xa 2) da (sF (sF dg 0 (cg 0)) 1 (cg 1)) (sF (sF (sF dF 2 (cpN ((cg 0)) ((cF 2)) ((dF 2)))) 3 (cpN ((cg 0)) ((cF 3)) ((dF 3)))) 4 (cpN ((cg 0)) ((cF 4)) ((dF 4)))) ++ (wR cI cZ (xa 3) ra rg rF rE)))) := hW
    replace w21 : True := w21
    refine x_iconst (v := nI 0) X dX5_numbersThatFit_24 (by decide) ?_
    refine x_istore X [(4, .int (nI 0)), (0, .ref xq), (1, .int (nI j)), (2, .int (nI 1)), (3, .int (nI 9))] dX5_numbersThatFit_25 hl (by decide) rfl (fun ls hl => ?_)
    refine x_iconst (v := nI 0) X dX5_numbersThatFit_27 (by decide) ?_
    refine x_istore X [(5, .int (nI 0)), (4, .int (nI 0)), (0, .ref xq), (1, .int (nI j)), (2, .int (nI 1)), (3, .int (nI 9))] dX5_numbersThatFit_28 hl (by decide) rfl (fun ls hl => ?_)
    have q2 : ∀ z0, cpN (cg 0) (cF 2) (dF 2) z0 ≤ 2 := cpN_le hk hdk
    have q3 : ∀ z0, cpN (cg 0) (cF 3) (dF 3) z0 ≤ 9 := cpN_le hlv hdl
    have q4 : ∀ z0, cpN (cg 0) (cF 4) (dF 4) z0 ≤ 9 := cpN_le hm hdm
    refine W.loop (σ := (Nat) × (Nat → Nat)) (fun u H locs ls => (u.1 ≤ 10 ∧ (∀ z0, sF u.2 j z0 = sF (cpN (cg 0) (cF 3) (dF 3)) j z0) ∧ ∀ z0, u.2 z0 ≤ 9) ∧ Wd D A s.heap H locs (wX cI cZ xq xa xg xh ++ (wC cI cZ (xa 1) ca cg cF ++ (wC cI cZ (xa 2) da (sF (sF dg 0 (cg 0)) 1 (cg 1)) (sF (sF (sF dF 2 (cpN ((cg 0)) ((cF 2)) ((dF 2)))) 3 u.2) 4 (cpN ((cg 0)) ((cF 4)) ((dF 4)))) ++ (wR cI cZ (xa 3) ra rg rF rE)))) ∧ lv_has ls 6 [(5, .int (nI u.1)), (4, .int (setI (fun z => fitP (rg 0) (rF 1) (rE 2) (rF 3) (cpN (cg 0) (cF 2) (dF 2)) (sF (cpN (cg 0) (cF 3) (dF 3)) j z) (cpN (cg 0) (cF 4) (dF 4))) u.1)), (0, .ref xq), (1, .int (nI j)), (2, .int (nI 1)), (3, .int (nI 9))]) (fun u => 10 - u.1) (fun u H locs ls hI ih => ?_) (0, (cpN ((cg 0)) ((cF 3)) ((dF 3)))) ⟨(show 0 ≤ 10 ∧ (∀ z0, sF (cpN ((cg 0)) ((cF 3)) ((dF 3))) j z0 = sF (cpN (cg 0) (cF 3) (dF 3)) j z0) ∧ ∀ z0, (cpN ((cg 0)) ((cF 3)) ((dF 3))) z0 ≤ 9 from (by first | exact ⟨by omega, fun _ => rfl, q3⟩ | exact ⟨by omega, fun _ => sF_sF _ _ _ _, sF_le q3 (by omega)⟩)), hW, hl⟩
    obtain ⟨v, L⟩ := u
    obtain ⟨hv, hW, hl⟩ := hI
    have hv : v ≤ 10 ∧ (∀ z0, sF L j z0 = sF (cpN (cg 0) (cF 3) (dF 3)) j z0) ∧ ∀ z0, L z0 ≤ 9 := hv
    have hW : Wd D A s.heap H locs (wX cI cZ xq xa xg xh ++ (wC cI cZ (xa 1) ca cg cF ++ (wC cI cZ (xa 2) da (sF (sF dg 0 (cg 0)) 1 (cg 1)) (sF (sF (sF dF 2 (cpN ((cg 0)) ((cF 2)) ((dF 2)))) 3 L) 4 (cpN ((cg 0)) ((cF 4)) ((dF 4)))) ++ (wR cI cZ (xa 3) ra rg rF rE)))) := hW
    have hl : lv_has ls 6 [(5, .int (nI v)), (4, .int (setI (fun z => fitP (rg 0) (rF 1) (rE 2) (rF 3) (cpN (cg 0) (cF 2) (dF 2)) (sF (cpN (cg 0) (cF 3) (dF 3)) j z) (cpN (cg 0) (cF 4) (dF 4))) v)), (0, .ref xq), (1, .int (nI j)), (2, .int (nI 1)), (3, .int (nI 9))] := hl
    have ih30 := ih
    refine x_iload X dX5_numbersThatFit_30 (lv_at hl 0 rfl) ?_
    refine x_iload_n X dX5_numbersThatFit_32 rfl (lv_at hl 5 rfl) ?_
    refine n_icmp_gt X 76 dX5_numbersThatFit_33 (by decide) (by omega) (by decide) (fun c33 => ?_) (fun c33 => ?_)
    · refine x_iload X dX5_numbersThatFit_76 (lv_at hl 1 rfl) ?_
      exact x_iret X hW rfl (cpN ((cg 0)) ((cF 2)) ((dF 2)), L, cpN ((cg 0)) ((cF 4)) ((dF 4)), (cg 0), (cg 1)) (⟨by rw [show v = 10 by omega]; unfold aLev; rw [onR_in hj (by omega)]; exact setI_cong (fun z hz => fit_cp hro (fun i hi => cpN_in hi) (sF_cong (fun i hi => cpN_in hi) rfl) (fun i hi => cpN_in hi)), hn, hrn, q2, hv.2.2, q4⟩) rfl dX5_numbersThatFit_78
    · refine x_aload_n X dX5_numbersThatFit_36 rfl (lv_at hl 2 rfl) ?_
      refine x_get X hW (v := .ref (xa 2)) hi5 0 rfl rfl 2 (by decide) (List.mem_of_getElem? (i := 2) rfl) rfl rfl dX5_numbersThatFit_37 ?_
      refine x_iload_n X dX5_numbersThatFit_40 rfl (lv_at hl 3 rfl) ?_
      refine x_iload_n X dX5_numbersThatFit_41 rfl (lv_at hl 4 rfl) ?_
      refine x_iload X dX5_numbersThatFit_42 (lv_at hl 0 rfl) ?_
      refine x_callVv X hW (As := [.int (nI j), .int (nI 1), .int (nI v)]) (rest := []) (wz := fun u => (wX cI cZ xq xa xg xh ++ (wC cI cZ (xa 1) ca cg cF ++ (wC cI cZ (xa 2) da (sF (sF dg 0 (cg 0)) 1 (cg 1)) (sF (sF (sF dF 2 (cpN ((cg 0)) ((cF 2)) ((dF 2)))) 3 (sF (L) j v)) 4 (cpN ((cg 0)) ((cF 4)) ((dF 4)))) ++ (wR cI cZ (xa 3) ra rg rF rE))))) (c_X0_become1 l D cI cZ cO (xa 2) da (sF (sF dg 0 (cg 0)) 1 (cg 1)) (sF (sF (sF dF 2 (cpN ((cg 0)) ((cF 2)) ((dF 2)))) 3 L) 4 (cpN ((cg 0)) ((cF 4)) ((dF 4)))) _ j v (show j < (cg 0) from (by first | assumption | omega)) (show (cg 0) ≤ 4 from (by first | assumption | omega))) (cwV 3 X.2.2.2.2.2.1 gX5_numbersThatFit_X0_become rfl rfl rfl (by decide +kernel) ⟨Nat.le_of_ble_eq_true rfl, Nat.le_of_ble_eq_true rfl⟩) 5 0 rfl rfl rfl [5, 6, 7, 8] [0, 1, 2, 3, 4, 9, 10, 11, 12] [0, 1, 2, 3, 4, 9, 10, 11, 12, 5, 6, 7, 8] rfl rfl (by decide) (fun _ => rfl) rfl hl.1 rfl (Nat.le_of_ble_eq_true rfl) ⟨Nat.le_of_ble_eq_true rfl, Nat.le_of_ble_eq_true rfl⟩ dX5_numbersThatFit_44 (fun u6 H locs w44 hW => ?_)
      have hW : Wd D A s.heap H locs (wX cI cZ xq xa xg xh ++ (wC cI cZ (xa 1) ca cg cF ++ (wC cI cZ (xa 2) da (sF (sF dg 0 (cg 0)) 1 (cg 1)) (sF (sF (sF dF 2 (cpN ((cg 0)) ((cF 2)) ((dF 2)))) 3 (sF (L) j v)) 4 (cpN ((cg 0)) ((cF 4)) ((dF 4)))) ++ (wR cI cZ (xa 3) ra rg rF rE)))) := hW
      replace w44 : True := w44
      have hW : Wd D A s.heap H locs (wX cI cZ xq xa xg xh ++ (wC cI cZ (xa 1) ca cg cF ++ (wC cI cZ (xa 2) da (sF (sF dg 0 (cg 0)) 1 (cg 1)) (sF (sF (sF dF 2 (cpN ((cg 0)) ((cF 2)) ((dF 2)))) 3 (sF (cpN (cg 0) (cF 3) (dF 3)) j v)) 4 (cpN ((cg 0)) ((cF 4)) ((dF 4)))) ++ (wR cI cZ (xa 3) ra rg rF rE)))) := hW.eq (congrArg (fun z => (wX cI cZ xq xa xg xh ++ (wC cI cZ (xa 1) ca cg cF ++ (wC cI cZ (xa 2) da (sF (sF dg 0 (cg 0)) 1 (cg 1)) (sF (sF (sF dF 2 (cpN ((cg 0)) ((cF 2)) ((dF 2)))) 3 z) 4 (cpN ((cg 0)) ((cF 4)) ((dF 4)))) ++ (wR cI cZ (xa 3) ra rg rF rE))))) (show (sF (L) j v) = (sF (cpN (cg 0) (cF 3) (dF 3)) j v) from by exact hv.2.1 v))
      refine x_aload_n X dX5_numbersThatFit_47 rfl (lv_at hl 2 rfl) ?_
      refine x_get X hW (v := .ref (xa 3)) hi5 0 rfl rfl 3 (by decide) (List.mem_of_getElem? (i := 3) rfl) rfl rfl dX5_numbersThatFit_48 ?_
      refine x_aload_n X dX5_numbersThatFit_51 rfl (lv_at hl 2 rfl) ?_
      refine x_get X hW (v := .ref (xa 2)) hi5 0 rfl rfl 2 (by decide) (List.mem_of_getElem? (i := 2) rfl) rfl rfl dX5_numbersThatFit_52 ?_
      refine x_callVi X hW (As := [.ref (xa 2)]) (rest := []) (wz := fun u => (wX cI cZ xq xa xg xh ++ (wC cI cZ (xa 1) ca cg cF ++ (wC cI cZ (xa 2) da (sF (sF dg 0 (cg 0)) 1 (cg 1)) (sF (sF (sF dF 2 (cpN ((cg 0)) ((cF 2)) ((dF 2)))) 3 (sF (cpN (cg 0) (cF 3) (dF 3)) j v)) 4 (cpN ((cg 0)) ((cF 4)) ((dF 4)))) ++ (wR cI cZ (xa 3) ra rg rF rE))))) (c_X1_areSoIn l D cI cZ cO (xa 3) ra rg rF rE (xa 2) da (sF (sF dg 0 (cg 0)) 1 (cg 1)) (sF (sF (sF dF 2 (cpN ((cg 0)) ((cF 2)) ((dF 2)))) 3 (sF (cpN (cg 0) (cF 3) (dF 3)) j v)) 4 (cpN ((cg 0)) ((cF 4)) ((dF 4)))) _ (show (rg 0) ≤ 8 from hrc) (show (cg 0) ≤ 4 from hn) (show ∀ z0, z0 < (rg 0) → (rF 1) z0 < (cg 0) from hro) (show ∀ z0, (rF 3) z0 ≤ 1 from hrd) (show ∀ z0, (cpN ((cg 0)) ((cF 2)) ((dF 2))) z0 ≤ 2 from q2) (show ∀ z0, (sF (cpN (cg 0) (cF 3) (dF 3)) j v) z0 ≤ 9 from (sF_le q3 (by omega))) (show ∀ z0, (cpN ((cg 0)) ((cF 4)) ((dF 4))) z0 ≤ 9 from q4)) (cwV 1 X.2.2.2.2.2.1 gX5_numbersThatFit_X1_areSoIn rfl rfl rfl (by decide +kernel) ⟨Nat.le_of_ble_eq_true rfl, Nat.le_of_ble_eq_true rfl⟩) 9 1 rfl rfl rfl [9, 10, 11, 12, 5, 6, 7, 8] [0, 1, 2, 3, 4] [0, 1, 2, 3, 4, 9, 10, 11, 12, 5, 6, 7, 8] rfl rfl (by decide) (fun _ => rfl) rfl hl.1 rfl (Nat.le_of_ble_eq_true rfl) ⟨Nat.le_of_ble_eq_true rfl, Nat.le_of_ble_eq_true rfl⟩ dX5_numbersThatFit_55 (fun r7 u8 H locs w55 hW => ?_)
      have hW : Wd D A s.heap H locs (wX cI cZ xq xa xg xh ++ (wC cI cZ (xa 1) ca cg cF ++ (wC cI cZ (xa 2) da (sF (sF dg 0 (cg 0)) 1 (cg 1)) (sF (sF (sF dF 2 (cpN ((cg 0)) ((cF 2)) ((dF 2)))) 3 (sF (cpN (cg 0) (cF 3) (dF 3)) j v)) 4 (cpN ((cg 0)) ((cF 4)) ((dF 4)))) ++ (wR cI cZ (xa 3) ra rg rF rE)))) := hW
      replace w55 : (r7 = nI 1 ∧ (fitP ((rg 0)) ((rF 1)) ((rE 2)) ((rF 3)) ((cpN ((cg 0)) ((cF 2)) ((dF 2)))) ((sF (cpN (cg 0) (cF 3) (dF 3)) j v)) ((cpN ((cg 0)) ((cF 4)) ((dF 4))))) ∨ r7 = nI 0 ∧ ¬ (fitP ((rg 0)) ((rF 1)) ((rE 2)) ((rF 3)) ((cpN ((cg 0)) ((cF 2)) ((dF 2)))) ((sF (cpN (cg 0) (cF 3) (dF 3)) j v)) ((cpN ((cg 0)) ((cF 4)) ((dF 4)))))) := w55
      rcases w55 with ⟨w55, h55⟩ | ⟨w55, h55⟩
      · subst w55
        refine n_if_eq X 70 dX5_numbersThatFit_58 (by decide) (by decide) (fun c58 => by exact absurd c58 (by decide)) (fun c58 => ?_)
        refine x_iload X dX5_numbersThatFit_61 (lv_at hl 1 rfl) ?_
        refine x_iconst (v := nI 1) X dX5_numbersThatFit_63 (by decide) ?_
        refine x_iload X dX5_numbersThatFit_64 (lv_at hl 0 rfl) ?_
        refine x_ishl (v := (nI 1) <<< ((nI v) &&& 31)) X dX5_numbersThatFit_66 rfl ?_
        refine x_ior (v := (setI (fun z => fitP (rg 0) (rF 1) (rE 2) (rF 3) (cpN (cg 0) (cF 2) (dF 2)) (sF (cpN (cg 0) (cF 3) (dF 3)) j z) (cpN (cg 0) (cF 4) (dF 4))) v) ||| ((nI 1) <<< ((nI v) &&& 31))) X dX5_numbersThatFit_67 rfl ?_
        refine i_as0 (b := setI (fun z => fitP (rg 0) (rF 1) (rE 2) (rF 3) (cpN (cg 0) (cF 2) (dF 2)) (sF (cpN (cg 0) (cF 3) (dF 3)) j z) (cpN (cg 0) (cF 4) (dF 4))) (v + 1)) (setI_y h55).symm ?_
        refine x_istore X [(4, .int (setI (fun z => fitP (rg 0) (rF 1) (rE 2) (rF 3) (cpN (cg 0) (cF 2) (dF 2)) (sF (cpN (cg 0) (cF 3) (dF 3)) j z) (cpN (cg 0) (cF 4) (dF 4))) (v + 1))), (5, .int (nI v)), (0, .ref xq), (1, .int (nI j)), (2, .int (nI 1)), (3, .int (nI 9))] dX5_numbersThatFit_68 hl (by decide) rfl (fun ls hl => ?_)
        refine x_iinc X [(5, .int (nI (v + 1))), (4, .int (setI (fun z => fitP (rg 0) (rF 1) (rE 2) (rF 3) (cpN (cg 0) (cF 2) (dF 2)) (sF (cpN (cg 0) (cF 3) (dF 3)) j z) (cpN (cg 0) (cF 4) (dF 4))) (v + 1))), (0, .ref xq), (1, .int (nI j)), (2, .int (nI 1)), (3, .int (nI 9))] (k := 1) dX5_numbersThatFit_70 hl rfl (nI_inc1 v) (by decide) rfl (fun ls hl => ?_)
        refine x_goto X 30 dX5_numbersThatFit_73 (by decide) ?_
        exact ih30 ((v + 1), (sF (cpN (cg 0) (cF 3) (dF 3)) j v)) _ _ _ ⟨(show (v + 1) ≤ 10 ∧ (∀ z0, sF (sF (cpN (cg 0) (cF 3) (dF 3)) j v) j z0 = sF (cpN (cg 0) (cF 3) (dF 3)) j z0) ∧ ∀ z0, (sF (cpN (cg 0) (cF 3) (dF 3)) j v) z0 ≤ 9 from (by first | exact ⟨by omega, fun _ => rfl, q3⟩ | exact ⟨by omega, fun _ => sF_sF _ _ _ _, sF_le q3 (by omega)⟩)), hW, lv_sub hl [0, 1, 2, 3, 4, 5] rfl⟩ (by dsimp only; omega)
      · subst w55
        refine n_if_eq X 70 dX5_numbersThatFit_58 (by decide) (by decide) (fun c58 => ?_) (fun c58 => by exact absurd c58 (by decide))
        have hl : lv_has ls 6 [(5, .int (nI v)), (4, .int (setI (fun z => fitP (rg 0) (rF 1) (rE 2) (rF 3) (cpN (cg 0) (cF 2) (dF 2)) (sF (cpN (cg 0) (cF 3) (dF 3)) j z) (cpN (cg 0) (cF 4) (dF 4))) (v + 1))), (0, .ref xq), (1, .int (nI j)), (2, .int (nI 1)), (3, .int (nI 9))] := by rw [setI_n h55]; exact hl
        refine x_iinc X [(5, .int (nI (v + 1))), (4, .int (setI (fun z => fitP (rg 0) (rF 1) (rE 2) (rF 3) (cpN (cg 0) (cF 2) (dF 2)) (sF (cpN (cg 0) (cF 3) (dF 3)) j z) (cpN (cg 0) (cF 4) (dF 4))) (v + 1))), (0, .ref xq), (1, .int (nI j)), (2, .int (nI 1)), (3, .int (nI 9))] (k := 0) dX5_numbersThatFit_70 hl rfl (nI_inc1 v) (by decide) rfl (fun ls hl => ?_)
        refine x_goto X 30 dX5_numbersThatFit_73 (by decide) ?_
        exact ih30 ((v + 1), (sF (cpN (cg 0) (cF 3) (dF 3)) j v)) _ _ _ ⟨(show (v + 1) ≤ 10 ∧ (∀ z0, sF (sF (cpN (cg 0) (cF 3) (dF 3)) j v) j z0 = sF (cpN (cg 0) (cF 3) (dF 3)) j z0) ∧ ∀ z0, (sF (cpN (cg 0) (cF 3) (dF 3)) j v) z0 ≤ 9 from (by first | exact ⟨by omega, fun _ => rfl, q3⟩ | exact ⟨by omega, fun _ => sF_sF _ _ _ _, sF_le q3 (by omega)⟩)), hW, lv_sub hl [0, 1, 2, 3, 4, 5] rfl⟩ (by dsimp only; omega)
  · subst w5
    have gq0 := fun q => h5 ((Iff.refl (inR q0 (cg 0))).mpr q)
    refine n_if_ne X 13 dX5_numbersThatFit_8 (by decide) (by decide) (fun c8 => by exact absurd c8 (by decide)) (fun c8 => ?_)
    refine x_iconst (v := (-1 : Int32)) X dX5_numbersThatFit_11 (by decide) ?_
    exact x_iret X hW rfl (dF 2, dF 3, dF 4, dg 0, dg 1) (⟨by unfold aLev; rw [onR_out gq0], hdn, hdr, hdk, hdl, hdm⟩) rfl dX5_numbersThatFit_12
set_option maxHeartbeats 4000000 in
set_option maxRecDepth 100000 in
theorem c_X5_levels (l : Launch) (D : va_G) (cI cZ cO : ClassId) (xq : Nat) (xa : Nat → Nat) (xg : Nat → Nat) (xh : Nat → Int32) (ca : Nat → Nat) (cg : Nat → Nat) (cF : Nat → Nat → Nat) (da : Nat → Nat) (dg : Nat → Nat) (dF : Nat → Nat → Nat) (ra : Nat → Nat) (rg : Nat → Nat) (rF : Nat → Nat → Nat) (rE : Nat → Nat → Int32) (sz : Nat) (q0 : Int32)  (hn : cg 0 ≤ 4) (hk : ∀ z0, cF 2 z0 ≤ 2) (hlv : ∀ z0, cF 3 z0 ≤ 9) (hm : ∀ z0, cF 4 z0 ≤ 9) (hrn : cg 1 ≤ 3) (hrc : rg 0 ≤ 8) (hdn : dg 0 ≤ 4) (hdr : dg 1 ≤ 3) (hdk : ∀ z0, dF 2 z0 ≤ 2) (hdl : ∀ z0, dF 3 z0 ≤ 9) (hdm : ∀ z0, dF 4 z0 ≤ 9) (hro : ∀ z0, z0 < rg 0 → rF 1 z0 < cg 0) (hrd : ∀ z0, rF 3 z0 ≤ 1) : Met l yX5_levels wsX5_levels ({ frames := 5, cells := 0, slots := 0, locals := 112 }) (va_Pc [.ref xq, .int q0] (st_W D (ty3 cI cZ cO) (wX cI cZ xq xa xg xh ++ (wC cI cZ (xa 1) ca cg cF ++ (wC cI cZ (xa 2) da dg dF ++ (wR cI cZ (xa 3) ra rg rF rE)))) sz)) (va_Qi (fun (rr : Int32) (u : (Nat → Nat) × (Nat → Nat) × (Nat → Nat) × (Nat) × (Nat)) => (rr = aLev (cg 0) (rg 0) (rF 1) (rE 2) (rF 3) (cF 2) (cF 3) (cF 4) q0) ∧ (u.2.2.2.1 ≤ 4 ∧ u.2.2.2.2 ≤ 3 ∧ (∀ z0, u.1 z0 ≤ 2) ∧ (∀ z0, u.2.1 z0 ≤ 9) ∧ ∀ z0, u.2.2.1 z0 ≤ 9)) (fun u t => at_W D (ty3 cI cZ cO) (va_A (wX cI cZ xq xa xg xh ++ (wC cI cZ (xa 1) ca cg cF ++ (wC cI cZ (xa 2) da dg dF ++ (wR cI cZ (xa 3) ra rg rF rE)))) sz) (wX cI cZ xq xa xg xh ++ (wC cI cZ (xa 1) ca cg cF ++ (wC cI cZ (xa 2) da (sF (sF dg 0 u.2.2.2.1) 1 u.2.2.2.2) (sF (sF (sF dF 2 u.1) 3 u.2.1) 4 u.2.2.1) ++ (wR cI cZ (xa 3) ra rg rF rE)))) t) (va_A (wX cI cZ xq xa xg xh ++ (wC cI cZ (xa 1) ca cg cF ++ (wC cI cZ (xa 2) da dg dF ++ (wR cI cZ (xa 3) ra rg rF rE)))) sz)) 0 0 (va_A (wX cI cZ xq xa xg xh ++ (wC cI cZ (xa 1) ca cg cF ++ (wC cI cZ (xa 2) da dg dF ++ (wR cI cZ (xa 3) ra rg rF rE)))) sz) := by
  refine Met.goi (cc := cX5_levels) (maxL := 2) (ret := (some .int)) (by decide) rfl (Nat.le_of_ble_eq_true rfl) (fun p e s m below meth c A ls X hW hl => ?_)
  have hi5 : ∀ w ∈ wsX50, w ∈ wsX5_levels := fun w h => List.mem_cons_of_mem _ (List.mem_append_left _ (List.mem_append_left _ (List.mem_append_right _ h)))
  have hi0 : ∀ w ∈ wsX00, w ∈ wsX5_levels := fun w h => List.mem_cons_of_mem _ (List.mem_append_left _ (List.mem_append_right _ h))
  have hi1 : ∀ w ∈ wsX10, w ∈ wsX5_levels := fun w h => List.mem_cons_of_mem _ (List.mem_append_right _ h)
  have hl : lv_has ls 2 [(0, .ref xq), (1, .int q0)] := hl
  refine x_aload_n X dX5_levels_0 rfl (lv_at hl 0 rfl) ?_
  refine x_iload_n X dX5_levels_1 rfl (lv_at hl 1 rfl) ?_
  refine x_iconst (v := nI 1) X dX5_levels_2 (by decide) ?_
  refine x_bipush (v := nI 9) X dX5_levels_3 (by decide) ?_
  refine x_callVi0 X hW (As := [.int q0, .int (nI 1), .int (nI 9)]) (rest := []) (c_X5_levelsF l D cI cZ cO xq xa xg xh ca cg cF da dg dF ra rg rF rE _ q0 (show (cg 0) ≤ 4 from (by first | assumption | omega)) (show ∀ z0, (cF 2) z0 ≤ 2 from (by first | assumption | omega)) (show ∀ z0, (cF 3) z0 ≤ 9 from (by first | assumption | omega)) (show ∀ z0, (cF 4) z0 ≤ 9 from (by first | assumption | omega)) (show (cg 1) ≤ 3 from (by first | assumption | omega)) (show (rg 0) ≤ 8 from (by first | assumption | omega)) (show (dg 0) ≤ 4 from (by first | assumption | omega)) (show (dg 1) ≤ 3 from (by first | assumption | omega)) (show ∀ z0, (dF 2) z0 ≤ 2 from (by first | assumption | omega)) (show ∀ z0, (dF 3) z0 ≤ 9 from (by first | assumption | omega)) (show ∀ z0, (dF 4) z0 ≤ 9 from (by first | assumption | omega)) (show ∀ z0, z0 < (rg 0) → (rF 1) z0 < (cg 0) from (by first | assumption | omega)) (show ∀ z0, (rF 3) z0 ≤ 1 from (by first | assumption | omega))) (cwV 3 X.2.2.2.2.2.1 gX5_levels_X5_numbersThatFit rfl rfl rfl (by decide +kernel) ⟨Nat.le_of_ble_eq_true rfl, Nat.le_of_ble_eq_true rfl⟩) 0 4 rfl rfl rfl rfl hl.1 rfl (Nat.le_of_ble_eq_true rfl) ⟨Nat.le_of_ble_eq_true rfl, Nat.le_of_ble_eq_true rfl⟩ dX5_levels_5 (fun r6 u7 H locs w5 hW => ?_)
  obtain ⟨o1_1, o2_2, o3_3, o4_4, o5_5⟩ := u7
  have hW : Wd D A s.heap H locs (wX cI cZ xq xa xg xh ++ (wC cI cZ (xa 1) ca cg cF ++ (wC cI cZ (xa 2) da (sF (sF dg 0 o4_4) 1 o5_5) (sF (sF (sF dF 2 o1_1) 3 o2_2) 4 o3_3) ++ (wR cI cZ (xa 3) ra rg rF rE)))) := hW
  replace w5 : (r6 = aLev ((cg 0)) ((rg 0)) ((rF 1)) ((rE 2)) ((rF 3)) ((cF 2)) ((cF 3)) ((cF 4)) q0) ∧ (o4_4 ≤ 4 ∧ o5_5 ≤ 3 ∧ (∀ z0, o1_1 z0 ≤ 2) ∧ (∀ z0, o2_2 z0 ≤ 9) ∧ ∀ z0, o3_3 z0 ≤ 9) := w5
  obtain ⟨r6e, w5⟩ := w5
  subst r6e
  exact x_iret X hW rfl (o1_1, o2_2, o3_3, o4_4, o5_5) (⟨rfl, w5⟩) rfl dX5_levels_8
set_option maxHeartbeats 4000000 in
set_option maxRecDepth 100000 in
theorem c_X5_levelBehindRain (l : Launch) (D : va_G) (cI cZ cO : ClassId) (xq : Nat) (xa : Nat → Nat) (xg : Nat → Nat) (xh : Nat → Int32) (ca : Nat → Nat) (cg : Nat → Nat) (cF : Nat → Nat → Nat) (sz : Nat) (k : Nat)  (hk8 : k ≤ 8) (h1 : 1 ≤ cg 0) (hn : cg 0 ≤ 4) (hlv : ∀ z0, cF 3 z0 ≤ 9) (hrn : cg 1 ≤ 3) : Met l yX5_levelBehindRain wsX5_levelBehindRain ({ frames := 2, cells := 0, slots := 0, locals := 42 }) (va_Pc [.ref xq, .int (nI k)] (st_W D (ty3 cI cZ cO) (wX cI cZ xq xa xg xh ++ (wC cI cZ (xa 1) ca cg cF)) sz)) (va_Qi (fun (rr : Int32) (u : Unit) => rr = nI (min 9 (cF 3 0 + k * cg 1))) (fun u t => at_W D (ty3 cI cZ cO) (va_A (wX cI cZ xq xa xg xh ++ (wC cI cZ (xa 1) ca cg cF)) sz) (wX cI cZ xq xa xg xh ++ (wC cI cZ (xa 1) ca cg cF)) t) (va_A (wX cI cZ xq xa xg xh ++ (wC cI cZ (xa 1) ca cg cF)) sz)) 0 0 (va_A (wX cI cZ xq xa xg xh ++ (wC cI cZ (xa 1) ca cg cF)) sz) := by
  refine Met.goi (cc := cX5_levelBehindRain) (maxL := 2) (ret := (some .int)) (by decide) rfl (Nat.le_of_ble_eq_true rfl) (fun p e s m below meth c A ls X hW hl => ?_)
  have hi5 : ∀ w ∈ wsX50, w ∈ wsX5_levelBehindRain := fun w h => List.mem_cons_of_mem _ (List.mem_append_left _ (List.mem_append_right _ h))
  have hi0 : ∀ w ∈ wsX00, w ∈ wsX5_levelBehindRain := fun w h => List.mem_cons_of_mem _ (List.mem_append_right _ h)
  have hl : lv_has ls 2 [(0, .ref xq), (1, .int (nI k))] := hl
  have b1 := hlv 0
  have b2 := Nat.mul_le_mul hk8 hrn
  refine x_bipush (v := nI 9) X dX5_levelBehindRain_0 (by decide) ?_
  refine x_aload_n X dX5_levelBehindRain_2 rfl (lv_at hl 0 rfl) ?_
  refine x_get X hW (v := .ref (xa 1)) hi5 0 rfl rfl 1 (by decide) (List.mem_of_getElem? (i := 1) rfl) rfl rfl dX5_levelBehindRain_3 ?_
  refine x_iconst (v := nI 0) X dX5_levelBehindRain_6 (by decide) ?_
  refine x_callVi X hW (As := [.int (nI 0)]) (rest := [.int (nI 9)]) (wz := fun u => (wX cI cZ xq xa xg xh ++ (wC cI cZ (xa 1) ca cg cF))) (c_X0_levelOf l D cI cZ cO (xa 1) ca cg cF _ 0 (show 0 < (cg 0) from (by omega)) (show (cg 0) ≤ 4 from (by first | assumption | omega))) (cwV 1 X.2.2.2.2.2.1 gX5_levelBehindRain_X0_levelOf rfl rfl rfl (by decide +kernel) ⟨Nat.le_of_ble_eq_true rfl, Nat.le_of_ble_eq_true rfl⟩) 1 0 rfl rfl rfl [1, 2, 3, 4] [0] [0, 1, 2, 3, 4] rfl rfl (by decide) (fun _ => rfl) rfl hl.1 rfl (Nat.le_of_ble_eq_true rfl) ⟨Nat.le_of_ble_eq_true rfl, Nat.le_of_ble_eq_true rfl⟩ dX5_levelBehindRain_7 (fun r1 u2 H locs w7 hW => ?_)
  have hW : Wd D A s.heap H locs (wX cI cZ xq xa xg xh ++ (wC cI cZ (xa 1) ca cg cF)) := hW
  replace w7 : r1 = nI ((cF 3) 0) := w7
  subst w7
  refine x_iload_n X dX5_levelBehindRain_10 rfl (lv_at hl 1 rfl) ?_
  refine x_aload_n X dX5_levelBehindRain_11 rfl (lv_at hl 0 rfl) ?_
  refine x_get X hW (v := .ref (xa 1)) hi5 0 rfl rfl 1 (by decide) (List.mem_of_getElem? (i := 1) rfl) rfl rfl dX5_levelBehindRain_12 ?_
  refine x_get X hW (v := .int (nI (cg 1))) hi0 1 rfl rfl 1 (by decide) (List.mem_of_getElem? (i := 2) rfl) rfl rfl dX5_levelBehindRain_15 ?_
  refine n_imul X dX5_levelBehindRain_18 ?_
  refine n_iadd X dX5_levelBehindRain_19 ?_
  refine x_mmin (v := nI (min 9 (cF 3 0 + k * cg 1))) X hl.1 (List.mem_of_getElem? (i := 3) rfl) (List.mem_of_getElem? (i := 4) rfl) (List.mem_of_getElem? (i := 5) rfl) (List.mem_of_getElem? (i := 6) rfl) ⟨Nat.le_of_ble_eq_true rfl, Nat.le_of_ble_eq_true rfl⟩ ⟨Nat.le_of_ble_eq_true rfl, Nat.le_of_ble_eq_true rfl⟩ (ie_mn (by decide) (by omega)) dX5_levelBehindRain_20 ?_
  exact x_iret X hW rfl () (rfl) rfl dX5_levelBehindRain_23
set_option maxHeartbeats 4000000 in
set_option maxRecDepth 100000 in
theorem c_X5_greatestCommon (l : Launch) (D : va_G) (cI cZ cO : ClassId)  (sz : Nat) (a : Nat) (b : Nat) (N : Nat) (ha : a ≤ 256) (hN : N < 9) (hb : b = 2 ^ N) : Met l yX5_greatestCommon wsX5_greatestCommon ({ frames := 0, cells := 0, slots := 0, locals := 0 }) (va_Pc [.int (nI a), .int (nI b)] (st_W D (ty3 cI cZ cO) ([] : va_W) sz)) (va_Qi (fun (rr : Int32) (u : Unit) => rr = nI (Nat.gcd a b)) (fun u t => at_W D (ty3 cI cZ cO) (va_A ([] : va_W) sz) ([] : va_W) t) (va_A ([] : va_W) sz)) 0 0 (va_A ([] : va_W) sz) := by
  refine Met.goi (cc := cX5_greatestCommon) (maxL := 6) (ret := (some .int)) (by decide) rfl (Nat.le_of_ble_eq_true rfl) (fun p e s m below meth c A ls X hW hl => ?_)
  have hl : lv_has ls 6 [(0, .int (nI a)), (1, .int (nI b))] := hl
  have hb2 : b ≤ 256 := by rw [hb]; exact p2le hN
  refine x_iload_n X dX5_greatestCommon_0 rfl (lv_at hl 0 rfl) ?_
  refine x_istore_n X [(2, .int (nI a)), (0, .int (nI a)), (1, .int (nI b))] dX5_greatestCommon_1 rfl hl (by decide) rfl (fun ls hl => ?_)
  refine x_iload_n X dX5_greatestCommon_2 rfl (lv_at hl 2 rfl) ?_
  refine x_istore_n X [(3, .int (nI b)), (2, .int (nI a)), (0, .int (nI a)), (1, .int (nI b))] dX5_greatestCommon_3 rfl hl (by decide) rfl (fun ls hl => ?_)
  refine x_iconst (v := nI 0) X dX5_greatestCommon_4 (by decide) ?_
  refine x_istore X [(4, .int (nI 0)), (3, .int (nI b)), (2, .int (nI a)), (0, .int (nI a)), (1, .int (nI b))] dX5_greatestCommon_5 hl (by decide) rfl (fun ls hl => ?_)
  refine W.loop (σ := (Nat)) (fun u H locs ls => (u ≤ 64) ∧ Wd D A s.heap H locs ([] : va_W) ∧ lv_has ls 6 [(4, .int (nI u)), (3, .int (nI ((gi a b u).2))), (2, .int (nI ((gi a b u).1)))]) (fun u => 64 - u) (fun u H locs ls hI ih => ?_) 0 ⟨(show 0 ≤ 64 from (by omega)), hW, (lv_sub hl [0, 1, 2] rfl)⟩
  obtain ⟨i, ie⟩ : ∃ z, z = u := ⟨_, rfl⟩
  subst ie
  obtain ⟨hv, hW, hl⟩ := hI
  have hv : i ≤ 64 := hv
  have hW : Wd D A s.heap H locs ([] : va_W) := hW
  have hl : lv_has ls 6 [(4, .int (nI i)), (3, .int (nI ((gi a b i).2))), (2, .int (nI ((gi a b i).1)))] := hl
  have ih7 := ih
  refine x_iload X dX5_greatestCommon_7 (lv_at hl 0 rfl) ?_
  have hgl := gi_le ha hb2 i
  refine x_bipush (v := nI 64) X dX5_greatestCommon_9 (by decide) ?_
  refine n_icmp_ge X 34 dX5_greatestCommon_11 (by decide) (by omega) (by decide) (fun c11 => ?_) (fun c11 => ?_)
  · have hz : (gi a b i).2 = 0 := by first | omega | (rw [show i = 64 by omega, hb]; exact gi_64 hN ha)
    refine x_iload_n X dX5_greatestCommon_34 rfl (lv_at hl 2 rfl) ?_
    exact x_iret X hW rfl () ((congrArg nI (by have q := gi_gcd a b i; rw [hz, Nat.gcd_zero_right] at q; exact q))) rfl dX5_greatestCommon_35
  · refine x_iload_n X dX5_greatestCommon_14 rfl (lv_at hl 1 rfl) ?_
    refine n_if_le X 34 dX5_greatestCommon_15 (by decide) (by omega) (fun c15 => ?_) (fun c15 => ?_)
    · have hz : (gi a b i).2 = 0 := by first | omega | (rw [show i = 64 by omega, hb]; exact gi_64 hN ha)
      refine x_iload_n X dX5_greatestCommon_34 rfl (lv_at hl 2 rfl) ?_
      exact x_iret X hW rfl () ((congrArg nI (by have q := gi_gcd a b i; rw [hz, Nat.gcd_zero_right] at q; exact q))) rfl dX5_greatestCommon_35
    · refine x_iload_n X dX5_greatestCommon_18 rfl (lv_at hl 2 rfl) ?_
      refine x_iload_n X dX5_greatestCommon_19 rfl (lv_at hl 1 rfl) ?_
      refine n_irem X dX5_greatestCommon_20 (by omega) (by omega) (by omega) ?_
      refine x_istore X [(5, .int (nI (((gi a b i).1) % ((gi a b i).2)))), (4, .int (nI i)), (3, .int (nI ((gi a b i).2))), (2, .int (nI ((gi a b i).1)))] dX5_greatestCommon_21 hl (by decide) rfl (fun ls hl => ?_)
      refine x_iload_n X dX5_greatestCommon_23 rfl (lv_at hl 2 rfl) ?_
      refine x_istore_n X [(2, .int (nI ((gi a b i).2))), (5, .int (nI (((gi a b i).1) % ((gi a b i).2)))), (4, .int (nI i)), (3, .int (nI ((gi a b i).2)))] dX5_greatestCommon_24 rfl hl (by decide) rfl (fun ls hl => ?_)
      refine x_iload X dX5_greatestCommon_25 (lv_at hl 1 rfl) ?_
      refine x_istore_n X [(3, .int (nI (((gi a b i).1) % ((gi a b i).2)))), (2, .int (nI ((gi a b i).2))), (5, .int (nI (((gi a b i).1) % ((gi a b i).2)))), (4, .int (nI i))] dX5_greatestCommon_27 rfl hl (by decide) rfl (fun ls hl => ?_)
      have hgs := gi_s (show ¬ (gi a b i).2 = 0 by omega)
      refine x_iinc X [(4, .int (nI (i + 1))), (3, .int (nI (((gi a b i).1) % ((gi a b i).2)))), (2, .int (nI ((gi a b i).2))), (5, .int (nI (((gi a b i).1) % ((gi a b i).2))))] (k := 3) dX5_greatestCommon_28 hl rfl (nI_inc1 i) (by decide) rfl (fun ls hl => ?_)
      have hl : lv_has ls 6 [(4, .int (nI (i + 1))), (3, .int (nI ((gi a b (i + 1)).2))), (2, .int (nI ((gi a b (i + 1)).1))), (5, .int (nI (((gi a b i).1) % ((gi a b i).2))))] := by rw [hgs]; exact hl
      refine x_goto X 7 dX5_greatestCommon_31 (by decide) ?_
      exact ih7 (i + 1) _ _ _ ⟨(show (i + 1) ≤ 64 from (by omega)), hW, lv_sub hl [0, 1, 2] rfl⟩ (by omega)
set_option maxHeartbeats 4000000 in
set_option maxRecDepth 100000 in
theorem c_X5_odds (l : Launch) (D : va_G) (cI cZ cO : ClassId) (xq : Nat) (xa : Nat → Nat) (xg : Nat → Nat) (xh : Nat → Int32) (ca : Nat → Nat) (cg : Nat → Nat) (cF : Nat → Nat → Nat) (sz : Nat) (n0 : Int32) (v0 : Int32) (w0 : Int32)  (hn : cg 0 ≤ 4) (hlv : ∀ z0, cF 3 z0 ≤ 9) (hrn : cg 1 ≤ 3) : Met l yX5_odds wsX5_odds ({ frames := 3, cells := 0, slots := 0, locals := 63 }) (va_Pc [.ref xq, .int n0, .int v0, .int w0] (st_W D (ty3 cI cZ cO) (wX cI cZ xq xa xg xh ++ (wC cI cZ (xa 1) ca cg cF)) sz)) (va_Ql (fun (rr : Int64) (u : Unit) => rr = aOdds (cg 0) (cg 1) (cF 3 0) n0 v0 w0) (fun u t => at_W D (ty3 cI cZ cO) (va_A (wX cI cZ xq xa xg xh ++ (wC cI cZ (xa 1) ca cg cF)) sz) (wX cI cZ xq xa xg xh ++ (wC cI cZ (xa 1) ca cg cF)) t) (va_A (wX cI cZ xq xa xg xh ++ (wC cI cZ (xa 1) ca cg cF)) sz)) 0 0 (va_A (wX cI cZ xq xa xg xh ++ (wC cI cZ (xa 1) ca cg cF)) sz) := by
  refine Met.gol (cc := cX5_odds) (maxL := 7) (ret := (some .long)) (by decide) rfl (Nat.le_of_ble_eq_true rfl) (fun p e s m below meth c A ls X hW hl => ?_)
  have hi5 : ∀ w ∈ wsX50, w ∈ wsX5_odds := fun w h => List.mem_cons_of_mem _ (List.mem_append_left _ (List.mem_append_right _ h))
  have hi0 : ∀ w ∈ wsX00, w ∈ wsX5_odds := fun w h => List.mem_cons_of_mem _ (List.mem_append_right _ h)
  have hl : lv_has ls 7 [(0, .ref xq), (1, .int n0), (2, .int v0), (3, .int w0)] := hl
  refine x_aload_n X dX5_odds_0 rfl (lv_at hl 0 rfl) ?_
  refine x_get X hW (v := .ref (xa 1)) hi5 0 rfl rfl 1 (by decide) (List.mem_of_getElem? (i := 1) rfl) rfl rfl dX5_odds_1 ?_
  refine x_callVi X hW (As := []) (rest := []) (wz := fun u => (wX cI cZ xq xa xg xh ++ (wC cI cZ (xa 1) ca cg cF))) (c_X0_isNone l D cI cZ cO (xa 1) ca cg cF _ (show (cg 0) ≤ 4 from (by first | assumption | omega))) (cwV 0 X.2.2.2.2.2.1 gX5_odds_X0_isNone rfl rfl rfl (by decide +kernel) ⟨Nat.le_of_ble_eq_true rfl, Nat.le_of_ble_eq_true rfl⟩) 1 0 rfl rfl rfl [1, 2, 3, 4] [0] [0, 1, 2, 3, 4] rfl rfl (by decide) (fun _ => rfl) rfl hl.1 rfl (Nat.le_of_ble_eq_true rfl) ⟨Nat.le_of_ble_eq_true rfl, Nat.le_of_ble_eq_true rfl⟩ dX5_odds_4 (fun r1 u2 H locs w4 hW => ?_)
  have hW : Wd D A s.heap H locs (wX cI cZ xq xa xg xh ++ (wC cI cZ (xa 1) ca cg cF)) := hW
  replace w4 : (r1 = nI 1 ∧ ((cg 0) = 0) ∨ r1 = nI 0 ∧ ¬ ((cg 0) = 0)) := w4
  rcases w4 with ⟨w4, h4⟩ | ⟨w4, h4⟩
  · subst w4
    refine n_if_eq X 14 dX5_odds_7 (by decide) (by decide) (fun c7 => by exact absurd c7 (by decide)) (fun c7 => ?_)
    refine x_ldc2 (v := (-9223372036854775808)) X (List.mem_of_getElem? (i := 2) rfl) dX5_odds_10 ?_
    exact x_lret X hW rfl () ((by unfold aOdds; (try rw [if_pos h4]); (try rfl); (try (unfold oddA; rw [← es]; first | (rw [if_pos (by omega)]; done) | (rw [if_neg (by omega)]; done))))) rfl dX5_odds_13
  · subst w4
    refine n_if_eq X 14 dX5_odds_7 (by decide) (by decide) (fun c7 => ?_) (fun c7 => by exact absurd c7 (by decide))
    refine x_iload_n X dX5_odds_14 rfl (lv_at hl 1 rfl) ?_
    refine x_bipush (v := nI 8) X dX5_odds_15 (by decide) ?_
    refine x_callSie X hW (As := [.int n0, .int (nI 8)]) (rest := []) (c_X5_isFrom0To l D cI cZ cO  _ n0 8 9 (show 8 + 1 = 9 from (by first | assumption | omega)) (show 8 < 1000 from (by first | assumption | omega))) (va_cwS 2 X.2.2.2.2.2.1 gX5_odds_X5_isFrom0To rfl rfl rfl (by decide +kernel) ⟨Nat.le_of_ble_eq_true rfl, Nat.le_of_ble_eq_true rfl⟩) rfl hl.1 rfl (Nat.le_of_ble_eq_true rfl) ⟨Nat.le_of_ble_eq_true rfl, Nat.le_of_ble_eq_true rfl⟩ dX5_odds_17 (fun r3 u4 H locs w17 hW => ?_)
    have hW : Wd D A s.heap H locs (wX cI cZ xq xa xg xh ++ (wC cI cZ (xa 1) ca cg cF)) := hW
    replace w17 : (r3 = nI 1 ∧ (inR n0 9) ∨ r3 = nI 0 ∧ ¬ (inR n0 9)) := w17
    rcases w17 with ⟨w17, h17⟩ | ⟨w17, h17⟩
    · subst w17
      obtain ⟨N, hN, rfl⟩ := inR_ex ((Iff.refl (inR n0 9)).mp h17) (by omega)
      refine n_if_eq X 40 dX5_odds_20 (by decide) (by decide) (fun c20 => by exact absurd c20 (by decide)) (fun c20 => ?_)
      refine x_iload_n X dX5_odds_23 rfl (lv_at hl 2 rfl) ?_
      refine x_bipush (v := nI 9) X dX5_odds_24 (by decide) ?_
      refine x_callSie X hW (As := [.int v0, .int (nI 9)]) (rest := []) (c_X5_isFrom0To l D cI cZ cO  _ v0 9 10 (show 9 + 1 = 10 from (by first | assumption | omega)) (show 9 < 1000 from (by first | assumption | omega))) (va_cwS 2 X.2.2.2.2.2.1 gX5_odds_X5_isFrom0To rfl rfl rfl (by decide +kernel) ⟨Nat.le_of_ble_eq_true rfl, Nat.le_of_ble_eq_true rfl⟩) rfl hl.1 rfl (Nat.le_of_ble_eq_true rfl) ⟨Nat.le_of_ble_eq_true rfl, Nat.le_of_ble_eq_true rfl⟩ dX5_odds_26 (fun r5 u6 H locs w26 hW => ?_)
      have hW : Wd D A s.heap H locs (wX cI cZ xq xa xg xh ++ (wC cI cZ (xa 1) ca cg cF)) := hW
      replace w26 : (r5 = nI 1 ∧ (inR v0 10) ∨ r5 = nI 0 ∧ ¬ (inR v0 10)) := w26
      rcases w26 with ⟨w26, h26⟩ | ⟨w26, h26⟩
      · subst w26
        obtain ⟨V, hV, rfl⟩ := inR_ex ((Iff.refl (inR v0 10)).mp h26) (by omega)
        refine n_if_eq X 40 dX5_odds_29 (by decide) (by decide) (fun c29 => by exact absurd c29 (by decide)) (fun c29 => ?_)
        refine x_iload_n X dX5_odds_32 rfl (lv_at hl 3 rfl) ?_
        refine x_iconst (v := nI 1) X dX5_odds_33 (by decide) ?_
        refine x_callSie X hW (As := [.int w0, .int (nI 1)]) (rest := []) (c_X5_isFrom0To l D cI cZ cO  _ w0 1 2 (show 1 + 1 = 2 from (by first | assumption | omega)) (show 1 < 1000 from (by first | assumption | omega))) (va_cwS 2 X.2.2.2.2.2.1 gX5_odds_X5_isFrom0To rfl rfl rfl (by decide +kernel) ⟨Nat.le_of_ble_eq_true rfl, Nat.le_of_ble_eq_true rfl⟩) rfl hl.1 rfl (Nat.le_of_ble_eq_true rfl) ⟨Nat.le_of_ble_eq_true rfl, Nat.le_of_ble_eq_true rfl⟩ dX5_odds_34 (fun r7 u8 H locs w34 hW => ?_)
        have hW : Wd D A s.heap H locs (wX cI cZ xq xa xg xh ++ (wC cI cZ (xa 1) ca cg cF)) := hW
        replace w34 : (r7 = nI 1 ∧ (inR w0 2) ∨ r7 = nI 0 ∧ ¬ (inR w0 2)) := w34
        rcases w34 with ⟨w34, h34⟩ | ⟨w34, h34⟩
        · subst w34
          obtain ⟨Wn, hWn, rfl⟩ := inR_ex ((Iff.refl (inR w0 2)).mp h34) (by omega)
          refine n_if_ne X 44 dX5_odds_37 (by decide) (by decide) (fun c37 => ?_) (fun c37 => by exact absurd c37 (by decide))
          have hp := p2le hN
          have hp1 := p2pos N
          have hl0 := hlv 0
          refine x_iconst (v := nI 1) X dX5_odds_44 (by decide) ?_
          refine x_iload_n X dX5_odds_45 rfl (lv_at hl 1 rfl) ?_
          refine x_ishl (v := nI (2 ^ N)) X dX5_odds_46 (shl1 hN) ?_
          refine x_istore X [(4, .int (nI (2 ^ N))), (0, .ref xq), (1, .int (nI N)), (2, .int (nI V)), (3, .int (nI Wn))] dX5_odds_47 hl (by decide) rfl (fun ls hl => ?_)
          refine x_iconst (v := nI 0) X dX5_odds_49 (by decide) ?_
          refine x_istore X [(5, .int (nI 0)), (4, .int (nI (2 ^ N))), (0, .ref xq), (1, .int (nI N)), (2, .int (nI V)), (3, .int (nI Wn))] dX5_odds_50 hl (by decide) rfl (fun ls hl => ?_)
          refine x_iconst (v := nI 0) X dX5_odds_52 (by decide) ?_
          refine x_istore X [(6, .int (nI 0)), (5, .int (nI 0)), (4, .int (nI (2 ^ N))), (0, .ref xq), (1, .int (nI N)), (2, .int (nI V)), (3, .int (nI Wn))] dX5_odds_53 hl (by decide) rfl (fun ls hl => ?_)
          refine W.loop (σ := (Nat)) (fun u H locs ls => (u ≤ 2 ^ N) ∧ Wd D A s.heap H locs (wX cI cZ xq xa xg xh ++ (wC cI cZ (xa 1) ca cg cF)) ∧ lv_has ls 7 [(6, .int (nI u)), (5, .int (nI (oddN (cF 3 0) (cg 1) N V u))), (4, .int (nI (2 ^ N))), (0, .ref xq), (1, .int (nI N)), (2, .int (nI V)), (3, .int (nI Wn))]) (fun u => 2 ^ N - u) (fun u H locs ls hI ih => ?_) 0 ⟨(show 0 ≤ 2 ^ N from (by omega)), hW, hl⟩
          obtain ⟨sx, sxe⟩ : ∃ z, z = u := ⟨_, rfl⟩
          subst sxe
          obtain ⟨hv, hW, hl⟩ := hI
          have hv : sx ≤ 2 ^ N := hv
          have hW : Wd D A s.heap H locs (wX cI cZ xq xa xg xh ++ (wC cI cZ (xa 1) ca cg cF)) := hW
          have hl : lv_has ls 7 [(6, .int (nI sx)), (5, .int (nI (oddN (cF 3 0) (cg 1) N V sx))), (4, .int (nI (2 ^ N))), (0, .ref xq), (1, .int (nI N)), (2, .int (nI V)), (3, .int (nI Wn))] := hl
          have ih55 := ih
          refine x_iload X dX5_odds_55 (lv_at hl 0 rfl) ?_
          have hod := oddN_le (cF 3 0) (cg 1) N V sx
          refine x_iload X dX5_odds_57 (lv_at hl 2 rfl) ?_
          refine n_icmp_ge X 84 dX5_odds_59 (by decide) (by omega) (by omega) (fun c59 => ?_) (fun c59 => ?_)
          · have es : sx = 2 ^ N := by omega
            refine x_iload X dX5_odds_84 (lv_at hl 1 rfl) ?_
            refine x_iload X dX5_odds_86 (lv_at hl 2 rfl) ?_
            refine x_callSie X hW (As := [.int (nI (oddN (cF 3 0) (cg 1) N V sx)), .int (nI (2 ^ N))]) (rest := []) (c_X5_greatestCommon l D cI cZ cO  _ (oddN (cF 3 0) (cg 1) N V sx) (2 ^ N) N (show (oddN (cF 3 0) (cg 1) N V sx) ≤ 256 from (by omega)) (show N < 9 from hN) (show (2 ^ N) = 2 ^ N from rfl)) (va_cwS 2 X.2.2.2.2.2.1 gX5_odds_X5_greatestCommon rfl rfl rfl (by decide +kernel) ⟨Nat.le_of_ble_eq_true rfl, Nat.le_of_ble_eq_true rfl⟩) rfl hl.1 rfl (Nat.le_of_ble_eq_true rfl) ⟨Nat.le_of_ble_eq_true rfl, Nat.le_of_ble_eq_true rfl⟩ dX5_odds_88 (fun r9 u10 H locs w88 hW => ?_)
            have hW : Wd D A s.heap H locs (wX cI cZ xq xa xg xh ++ (wC cI cZ (xa 1) ca cg cF)) := hW
            replace w88 : r9 = nI (Nat.gcd (oddN (cF 3 0) (cg 1) N V sx) (2 ^ N)) := w88
            subst w88
            have hg1 : 0 < Nat.gcd (oddN (cF 3 0) (cg 1) N V sx) (2 ^ N) := Nat.gcd_pos_of_pos_right _ (by omega)
            have hg2 : Nat.gcd (oddN (cF 3 0) (cg 1) N V sx) (2 ^ N) ≤ 2 ^ N := Nat.le_of_dvd (by omega) (Nat.gcd_dvd_right _ _)
            have hdv := Nat.div_le_self (oddN (cF 3 0) (cg 1) N V sx) (Nat.gcd (oddN (cF 3 0) (cg 1) N V sx) (2 ^ N))
            have hdv2 := Nat.div_le_self (2 ^ N) (Nat.gcd (oddN (cF 3 0) (cg 1) N V sx) (2 ^ N))
            refine x_istore X [(6, .int (nI (Nat.gcd (oddN (cF 3 0) (cg 1) N V sx) (2 ^ N)))), (5, .int (nI (oddN (cF 3 0) (cg 1) N V sx))), (4, .int (nI (2 ^ N))), (0, .ref xq), (1, .int (nI N)), (2, .int (nI V)), (3, .int (nI Wn))] dX5_odds_91 hl (by decide) rfl (fun ls hl => ?_)
            refine x_iload X dX5_odds_93 (lv_at hl 0 rfl) ?_
            refine x_iconst (v := nI 1) X dX5_odds_95 (by decide) ?_
            refine n_icmp_ge X 103 dX5_odds_96 (by decide) (by omega) (by decide) (fun c96 => ?_) (fun c96 => by omega)
            refine x_iload_n X dX5_odds_103 rfl (lv_at hl 6 rfl) ?_
            refine n_if_ne X 116 dX5_odds_104 (by decide) (by omega) (fun c104 => ?_) (fun c104 => ?_)
            · refine x_iload X dX5_odds_116 (lv_at hl 2 rfl) ?_
              refine x_iload X dX5_odds_118 (lv_at hl 0 rfl) ?_
              refine n_idiv X dX5_odds_120 (by omega) (by omega) (by omega) ?_
              refine x_i2l (v := lN ((2 ^ N) / (Nat.gcd (oddN (cF 3 0) (cg 1) N V sx) (2 ^ N)))) X dX5_odds_121 (nI_l (by omega)) ?_
              exact x_lret X hW rfl () ((by unfold aOdds; (try rw [if_neg h4]); (try rw [onR_in hN (by omega)]); (try rw [onR_in hV (by omega)]); (try rw [onR_in hWn (by omega)]); (try rfl); (try (unfold oddA; rw [← es]; first | (rw [if_pos (by omega)]; done) | (rw [if_neg (by omega)]; done))))) rfl dX5_odds_122
            · refine x_iload X dX5_odds_107 (lv_at hl 1 rfl) ?_
              refine x_iload X dX5_odds_109 (lv_at hl 0 rfl) ?_
              refine n_idiv X dX5_odds_111 (by omega) (by omega) (by omega) ?_
              refine x_i2l (v := lN ((oddN (cF 3 0) (cg 1) N V sx) / (Nat.gcd (oddN (cF 3 0) (cg 1) N V sx) (2 ^ N)))) X dX5_odds_112 (nI_l (by omega)) ?_
              refine x_goto X 122 dX5_odds_113 (by decide) ?_
              exact x_lret X hW rfl () ((by unfold aOdds; (try rw [if_neg h4]); (try rw [onR_in hN (by omega)]); (try rw [onR_in hV (by omega)]); (try rw [onR_in hWn (by omega)]); (try rfl); (try (unfold oddA; rw [← es]; first | (rw [if_pos (by omega)]; done) | (rw [if_neg (by omega)]; done))))) rfl dX5_odds_122
          · have hb8 := bcnt_le sx (by omega)
            have hbe := bcnt_8 N hN sx (by omega) (by omega)
            refine x_aload_n X dX5_odds_62 rfl (lv_at hl 3 rfl) ?_
            refine x_iload X dX5_odds_63 (lv_at hl 0 rfl) ?_
            refine x_callSie X hW (As := [.int (nI sx)]) (rest := [.ref xq]) (c_J6_bitCount_0f7a4 l D cI cZ cO  _ sx (show sx < 256 from (by first | assumption | omega))) (va_cwS 1 X.2.2.2.2.2.1 gX5_odds_J6_bitCount_0f7a4 rfl rfl rfl (by decide +kernel) ⟨Nat.le_of_ble_eq_true rfl, Nat.le_of_ble_eq_true rfl⟩) rfl hl.1 rfl (Nat.le_of_ble_eq_true rfl) ⟨Nat.le_of_ble_eq_true rfl, Nat.le_of_ble_eq_true rfl⟩ dX5_odds_65 (fun r11 u12 H locs w65 hW => ?_)
            have hW : Wd D A s.heap H locs (wX cI cZ xq xa xg xh ++ (wC cI cZ (xa 1) ca cg cF)) := hW
            replace w65 : r11 = nI (bcnt sx 8) := w65
            subst w65
            refine x_callVi0 X hW (As := [.int (nI (bcnt sx 8))]) (rest := []) (c_X5_levelBehindRain l D cI cZ cO xq xa xg xh ca cg cF _ (bcnt sx 8) (show (bcnt sx 8) ≤ 8 from (by first | assumption | omega)) (show 1 ≤ (cg 0) from (by omega)) (show (cg 0) ≤ 4 from (by first | assumption | omega)) (show ∀ z0, (cF 3) z0 ≤ 9 from (by first | assumption | omega)) (show (cg 1) ≤ 3 from (by first | assumption | omega))) (cwV 1 X.2.2.2.2.2.1 gX5_odds_X5_levelBehindRain rfl rfl rfl (by decide +kernel) ⟨Nat.le_of_ble_eq_true rfl, Nat.le_of_ble_eq_true rfl⟩) 0 4 rfl rfl rfl rfl hl.1 rfl (Nat.le_of_ble_eq_true rfl) ⟨Nat.le_of_ble_eq_true rfl, Nat.le_of_ble_eq_true rfl⟩ dX5_odds_68 (fun r13 u14 H locs w68 hW => ?_)
            have hW : Wd D A s.heap H locs (wX cI cZ xq xa xg xh ++ (wC cI cZ (xa 1) ca cg cF)) := hW
            replace w68 : r13 = nI (min 9 ((cF 3) 0 + (bcnt sx 8) * (cg 1))) := w68
            subst w68
            refine n_as0 (b := lvB (cF 3 0) (cg 1) sx N) (by unfold lvB; rw [hbe]) ?_
            refine x_iload_n X dX5_odds_71 rfl (lv_at hl 5 rfl) ?_
            have hlb := lvB_le (cF 3 0) (cg 1) sx N
            refine n_icmp_lt X 78 dX5_odds_72 (by decide) (by omega) (by omega) (fun c72 => ?_) (fun c72 => ?_)
            · have hyn : ¬ V ≤ lvB (cF 3 0) (cg 1) sx N := by omega
              have hl : lv_has ls 7 [(6, .int (nI sx)), (5, .int (nI (oddN (cF 3 0) (cg 1) N V (sx + 1)))), (4, .int (nI (2 ^ N))), (0, .ref xq), (1, .int (nI N)), (2, .int (nI V)), (3, .int (nI Wn))] := by first | (rw [oddN_y hyn]; exact hl) | (rw [oddN_n hyn]; exact hl)
              refine x_iinc X [(6, .int (nI (sx + 1))), (5, .int (nI (oddN (cF 3 0) (cg 1) N V (sx + 1)))), (4, .int (nI (2 ^ N))), (0, .ref xq), (1, .int (nI N)), (2, .int (nI V)), (3, .int (nI Wn))] (k := 0) dX5_odds_78 hl rfl (nI_inc1 sx) (by decide) rfl (fun ls hl => ?_)
              refine x_goto X 55 dX5_odds_81 (by decide) ?_
              exact ih55 (sx + 1) _ _ _ ⟨(show (sx + 1) ≤ 2 ^ N from (by omega)), hW, lv_sub hl [0, 1, 2, 3, 4, 5, 6] rfl⟩ (by omega)
            · have hyn : V ≤ lvB (cF 3 0) (cg 1) sx N := by omega
              refine x_iinc X [(5, .int (nI (oddN (cF 3 0) (cg 1) N V sx + 1))), (6, .int (nI sx)), (4, .int (nI (2 ^ N))), (0, .ref xq), (1, .int (nI N)), (2, .int (nI V)), (3, .int (nI Wn))] (k := 1) dX5_odds_75 hl rfl (nI_inc1 (oddN (cF 3 0) (cg 1) N V sx)) (by decide) rfl (fun ls hl => ?_)
              have hl : lv_has ls 7 [(5, .int (nI (oddN (cF 3 0) (cg 1) N V (sx + 1)))), (6, .int (nI sx)), (4, .int (nI (2 ^ N))), (0, .ref xq), (1, .int (nI N)), (2, .int (nI V)), (3, .int (nI Wn))] := by first | (rw [oddN_y hyn]; exact hl) | (rw [oddN_n hyn]; exact hl)
              refine x_iinc X [(6, .int (nI (sx + 1))), (5, .int (nI (oddN (cF 3 0) (cg 1) N V (sx + 1)))), (4, .int (nI (2 ^ N))), (0, .ref xq), (1, .int (nI N)), (2, .int (nI V)), (3, .int (nI Wn))] (k := 1) dX5_odds_78 hl rfl (nI_inc1 sx) (by decide) rfl (fun ls hl => ?_)
              refine x_goto X 55 dX5_odds_81 (by decide) ?_
              exact ih55 (sx + 1) _ _ _ ⟨(show (sx + 1) ≤ 2 ^ N from (by omega)), hW, lv_sub hl [0, 1, 2, 3, 4, 5, 6] rfl⟩ (by omega)
        · subst w34
          have gw0 := fun q => h34 ((Iff.refl (inR w0 2)).mpr q)
          refine n_if_ne X 44 dX5_odds_37 (by decide) (by decide) (fun c37 => by exact absurd c37 (by decide)) (fun c37 => ?_)
          refine x_ldc2 (v := (-9223372036854775808)) X (List.mem_of_getElem? (i := 2) rfl) dX5_odds_40 ?_
          exact x_lret X hW rfl () ((by unfold aOdds; (try rw [if_neg h4]); (try rw [onR_in hN (by omega)]); (try rw [onR_in hV (by omega)]); (try rw [onR_out gw0]); (try rfl); (try (unfold oddA; rw [← es]; first | (rw [if_pos (by omega)]; done) | (rw [if_neg (by omega)]; done))))) rfl dX5_odds_43
      · subst w26
        have gv0 := fun q => h26 ((Iff.refl (inR v0 10)).mpr q)
        refine n_if_eq X 40 dX5_odds_29 (by decide) (by decide) (fun c29 => ?_) (fun c29 => by exact absurd c29 (by decide))
        refine x_ldc2 (v := (-9223372036854775808)) X (List.mem_of_getElem? (i := 2) rfl) dX5_odds_40 ?_
        exact x_lret X hW rfl () ((by unfold aOdds; (try rw [if_neg h4]); (try rw [onR_in hN (by omega)]); (try rw [onR_out gv0]); (try rfl); (try (unfold oddA; rw [← es]; first | (rw [if_pos (by omega)]; done) | (rw [if_neg (by omega)]; done))))) rfl dX5_odds_43
    · subst w17
      have gn0 := fun q => h17 ((Iff.refl (inR n0 9)).mpr q)
      refine n_if_eq X 40 dX5_odds_20 (by decide) (by decide) (fun c20 => ?_) (fun c20 => by exact absurd c20 (by decide))
      refine x_ldc2 (v := (-9223372036854775808)) X (List.mem_of_getElem? (i := 2) rfl) dX5_odds_40 ?_
      exact x_lret X hW rfl () ((by unfold aOdds; (try rw [if_neg h4]); (try rw [onR_out gn0]); (try rfl); (try (unfold oddA; rw [← es]; first | (rw [if_pos (by omega)]; done) | (rw [if_neg (by omega)]; done))))) rfl dX5_odds_43
