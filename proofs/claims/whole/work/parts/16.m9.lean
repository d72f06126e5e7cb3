/-! the search for the fewest acts, in numbers: a way is boat * 10000 and a digit a reach -/
def dig (w : Nat) : Nat → Nat
  | 0 => w / 1000 % 10
  | 1 => w / 100 % 10
  | 2 => w / 10 % 10
  | _ => w % 10
def cc (n : Nat) (lv : Nat → Nat) (r : Nat) : Nat := if r < n then lv r else 0
def wy (n b : Nat) (lv : Nat → Nat) : Nat := 10000 * b + 1000 * cc n lv 0 + 100 * cc n lv 1 + 10 * cc n lv 2 + cc n lv 3
theorem dig_le (w r : Nat) : dig w r ≤ 9 := by unfold dig; split <;> omega
theorem cc_le {n : Nat} {lv : Nat → Nat} (h : ∀ i, i < n → lv i ≤ 9) (r : Nat) : cc n lv r ≤ 9 := by
  unfold cc; split
  next q => exact h r q
  next => omega
theorem dg_0 {b x y z u : Nat} (hx : x ≤ 9) (hy : y ≤ 9) (hz : z ≤ 9) (hu : u ≤ 9) : (10000 * b + 1000 * x + 100 * y + 10 * z + u) / 1000 % 10 = x := by omega
theorem dg_1 {b x y z u : Nat} (hx : x ≤ 9) (hy : y ≤ 9) (hz : z ≤ 9) (hu : u ≤ 9) : (10000 * b + 1000 * x + 100 * y + 10 * z + u) / 100 % 10 = y := by omega
theorem dg_2 {b x y z u : Nat} (hx : x ≤ 9) (hy : y ≤ 9) (hz : z ≤ 9) (hu : u ≤ 9) : (10000 * b + 1000 * x + 100 * y + 10 * z + u) / 10 % 10 = z := by omega
theorem dg_3 {b x y z u : Nat} (hx : x ≤ 9) (hy : y ≤ 9) (hz : z ≤ 9) (hu : u ≤ 9) : (10000 * b + 1000 * x + 100 * y + 10 * z + u) % 10 = u := by omega
theorem dig_wy {n b : Nat} {lv : Nat → Nat} (h : ∀ i, i < n → lv i ≤ 9) {r : Nat} (hr : r < 4) : dig (wy n b lv) r = cc n lv r := by
  have c := cc_le h
  have e : r = 0 ∨ r = 1 ∨ r = 2 ∨ r = 3 := by omega
  rcases e with rfl | rfl | rfl | rfl
  · exact dg_0 (c 0) (c 1) (c 2) (c 3)
  · exact dg_1 (c 0) (c 1) (c 2) (c 3)
  · exact dg_2 (c 0) (c 1) (c 2) (c 3)
  · exact dg_3 (c 0) (c 1) (c 2) (c 3)
theorem wy_b {n b : Nat} {lv : Nat → Nat} (h : ∀ i, i < n → lv i ≤ 9) : wy n b lv / 10000 = b := by
  have c0 := cc_le h 0
  have c1 := cc_le h 1
  have c2 := cc_le h 2
  have c3 := cc_le h 3
  unfold wy; omega
theorem wy_lt {n b : Nat} {lv : Nat → Nat} (h : ∀ i, i < n → lv i ≤ 9) (hb : b < 4) : wy n b lv < 40000 := by
  have c0 := cc_le h 0
  have c1 := cc_le h 1
  have c2 := cc_le h 2
  have c3 := cc_le h 3
  unfold wy; omega
theorem cc_cg {n : Nat} {f g : Nat → Nat} (h : ∀ i, i < n → f i = g i) (r : Nat) : cc n f r = cc n g r := by
  unfold cc; split
  next q => exact h r q
  next => rfl
theorem wy_cg {n b : Nat} {f g : Nat → Nat} (h : ∀ i, i < n → f i = g i) : wy n b f = wy n b g := by
  unfold wy; rw [cc_cg h 0, cc_cg h 1, cc_cg h 2, cc_cg h 3]
/-- a way whose digits below the last reach are 0 -/
def VS (n w : Nat) : Prop := w < 40000 ∧ ∀ r, n ≤ r → r < 4 → dig w r = 0
theorem VS_wy {n b : Nat} {lv : Nat → Nat} (h : ∀ i, i < n → lv i ≤ 9) (hb : b < 4) : VS n (wy n b lv) :=
  ⟨wy_lt h hb, fun r h1 h2 => by rw [dig_wy h h2]; unfold cc; rw [if_neg (by omega)]⟩
theorem wy_dig {n w : Nat} (h : VS n w) : wy n (w / 10000) (dig w) = w := by
  have e : ∀ r, r < 4 → cc n (dig w) r = dig w r := by
    intro r hr; unfold cc; split
    next => rfl
    next q => exact (h.2 r (by omega) hr).symm
  unfold wy
  rw [e 0 (by omega), e 1 (by omega), e 2 (by omega), e 3 (by omega)]
  have := h.1
  show 10000 * (w / 10000) + 1000 * (w / 1000 % 10) + 100 * (w / 100 % 10) + 10 * (w / 10 % 10) + w % 10 = w
  omega
abbrev mayW (wn : Nat) (lv : Nat → Nat) (g : Nat) : Prop := 1 ≤ lv g ∧ lv (g + 1) < dig wn (g + 1)
def nxW (n rn wn w a : Nat) : Option Nat :=
  if a = n - 1 then some (wy n (w / 10000) (night n rn (dig w)))
  else if mayW wn (dig w) a then some (wy n (w / 10000 + if a = w / 10000 then 1 else 0) (thru (dig w) a)) else none
theorem nxW_VS {n rn wn w a w' : Nat} (hn : n ≤ 4) (ha : a < n) (hw : w < 40000) (h : nxW n rn wn w a = some w') : VS n w' := by
  unfold nxW at h
  by_cases h1 : a = n - 1
  · rw [if_pos h1] at h
    injection h with h
    subst h
    exact VS_wy (fun i _ => night_le (dig_le w) i) (by omega)
  · rw [if_neg h1] at h
    by_cases h2 : mayW wn (dig w) a
    · rw [if_pos h2] at h
      injection h with h
      subst h
      refine VS_wy (fun i _ => thru_le (dig_le w) (dig_le wn (a + 1)) h2.2 i) ?_
      split
      · omega
      · omega
    · rw [if_neg h2] at h; cases h
/-! the queue -/
abbrev BB : Type := (Nat → Nat) × Nat × (Nat → Nat)
def bAdd (b : BB) (fr a w : Nat) : BB := if b.2.2 w = 0 then (sF b.1 b.2.1 w, b.2.1 + 1, sF b.2.2 w (1 + 4 * fr + a)) else b
def bAct (nx : Nat → Nat → Option Nat) (w a : Nat) (b : BB) : BB := match nx w a with
  | none => b
  | some w' => bAdd b w a w'
def bRow (nx : Nat → Nat → Option Nat) (w : Nat) : Nat → BB → BB
  | 0, b => b
  | k + 1, b => bAct nx w k (bRow nx w k b)
def bQ (nx : Nat → Nat → Option Nat) (K s0 : Nat) : Nat → BB
  | 0 => bAdd (fun _ => 0, 0, fun _ => 0) s0 0 s0
  | d + 1 => if d < (bQ nx K s0 d).2.1 then bRow nx ((bQ nx K s0 d).1 d) K (bQ nx K s0 d) else bQ nx K s0 d
def cntP (pa : Nat → Nat) : Nat → Nat
  | 0 => 0
  | k + 1 => cntP pa k + if pa k = 0 then 0 else 1
theorem cntP_le (pa : Nat → Nat) : ∀ k, cntP pa k ≤ k
  | 0 => Nat.le_refl 0
  | k + 1 => by
    have := cntP_le pa k
    show cntP pa k + (if pa k = 0 then 0 else 1) ≤ k + 1
    split <;> omega
theorem cntP_out {pa : Nat → Nat} {w x : Nat} : ∀ {k}, k ≤ w → cntP (sF pa w x) k = cntP pa k
  | 0, _ => rfl
  | k + 1, h => by
    show cntP (sF pa w x) k + (if sF pa w x k = 0 then 0 else 1) = cntP pa k + (if pa k = 0 then 0 else 1)
    rw [cntP_out (k := k) (by omega), sF_n _ _ (by omega)]
theorem cntP_sF {pa : Nat → Nat} {w x : Nat} (h0 : pa w = 0) (hx : x ≠ 0) : ∀ {k}, w < k → cntP (sF pa w x) k = cntP pa k + 1
  | 0, h => absurd h (Nat.not_lt_zero w)
  | k + 1, h => by
    show cntP (sF pa w x) k + (if sF pa w x k = 0 then 0 else 1) = cntP pa k + (if pa k = 0 then 0 else 1) + 1
    by_cases e : w = k
    · subst e
      rw [cntP_out (Nat.le_refl w), sF_ap, if_pos rfl, if_neg hx, if_pos h0]
    · rw [cntP_sF h0 hx (k := k) (by omega), sF_n _ _ (by omega)]; omega
def IB (n : Nat) (b : BB) : Prop := b.2.1 = cntP b.2.2 40000 ∧ (∀ i, i < b.2.1 → VS n (b.1 i) ∧ b.2.2 (b.1 i) ≠ 0) ∧ (∀ w, b.2.2 w ≠ 0 → ∃ i, i < b.2.1 ∧ b.1 i = w) ∧ (∀ i j, i < j → j < b.2.1 → b.1 i ≠ b.1 j)
theorem IB_room {n : Nat} {b : BB} (h : IB n b) {w : Nat} (h0 : b.2.2 w = 0) (hw : w < 40000) : b.2.1 < 40000 := by
  have e := cntP_sF (x := 1) h0 (by omega) hw
  have l := cntP_le (sF b.2.2 w 1) 40000
  have := h.1
  omega
theorem IB_le {n : Nat} {b : BB} (h : IB n b) : b.2.1 ≤ 40000 := by
  have l := cntP_le b.2.2 40000
  have := h.1
  omega
theorem bAdd_y {b : BB} {fr a w : Nat} (h : b.2.2 w = 0) : bAdd b fr a w = (sF b.1 b.2.1 w, b.2.1 + 1, sF b.2.2 w (1 + 4 * fr + a)) := if_pos h
theorem bAdd_n {b : BB} {fr a w : Nat} (h : ¬ b.2.2 w = 0) : bAdd b fr a w = b := if_neg h
theorem IB_add {n : Nat} {b : BB} (h : IB n b) {fr a w : Nat} (hw : VS n w) : IB n (bAdd b fr a w) := by
  by_cases h0 : b.2.2 w = 0
  · rw [bAdd_y h0]
    obtain ⟨h1, h2, h3, h4⟩ := h
    refine ⟨?_, ?_, ?_, ?_⟩
    · show b.2.1 + 1 = cntP (sF b.2.2 w (1 + 4 * fr + a)) 40000
      rw [cntP_sF h0 (by omega) hw.1, h1]
    · intro i hi
      show VS n (sF b.1 b.2.1 w i) ∧ sF b.2.2 w (1 + 4 * fr + a) (sF b.1 b.2.1 w i) ≠ 0
      by_cases e : i = b.2.1
      · rw [e, sF_ap, if_pos rfl, sF_ap, if_pos rfl]; exact ⟨hw, by omega⟩
      · have hi' : i < b.2.1 := by have : i < b.2.1 + 1 := hi; omega
        rw [sF_n _ _ e]
        have := h2 i hi'
        rw [sF_n _ _ (fun q => this.2 (by rw [q]; exact h0))]
        exact this
    · intro v hv
      have hv : sF b.2.2 w (1 + 4 * fr + a) v ≠ 0 := hv
      by_cases e : v = w
      · exact ⟨b.2.1, Nat.lt_succ_self _, by show sF b.1 b.2.1 w b.2.1 = v; rw [sF_ap, if_pos rfl, e]⟩
      · rw [sF_n _ _ e] at hv
        obtain ⟨i, hi, hq⟩ := h3 v hv
        exact ⟨i, Nat.lt_succ_of_lt hi, by show sF b.1 b.2.1 w i = v; rw [sF_n _ _ (by omega), hq]⟩
    · intro i j hij hj
      have hj : j < b.2.1 + 1 := hj
      show sF b.1 b.2.1 w i ≠ sF b.1 b.2.1 w j
      rw [show sF b.1 b.2.1 w i = b.1 i from sF_n _ _ (by omega)]
      by_cases e : j = b.2.1
      · rw [e, sF_ap, if_pos rfl]
        exact fun q => (h2 i (by omega)).2 (by rw [q]; exact h0)
      · rw [sF_n _ _ e]; exact h4 i j hij (by omega)
  · rw [bAdd_n h0]; exact h
def Ext (b b' : BB) : Prop := b.2.1 ≤ b'.2.1 ∧ (∀ i, i < b.2.1 → b'.1 i = b.1 i) ∧ (∀ w, b.2.2 w ≠ 0 → b'.2.2 w = b.2.2 w)
theorem Ext_rf (b : BB) : Ext b b := ⟨Nat.le_refl _, fun _ _ => rfl, fun _ _ => rfl⟩
theorem Ext_tr {b b' b'' : BB} (h : Ext b b') (h' : Ext b' b'') : Ext b b'' :=
  ⟨Nat.le_trans h.1 h'.1, fun i hi => by rw [h'.2.1 i (Nat.lt_of_lt_of_le hi h.1), h.2.1 i hi], fun w hw => by rw [h'.2.2 w (by rw [h.2.2 w hw]; exact hw), h.2.2 w hw]⟩
theorem Ext_add (b : BB) (fr a w : Nat) : Ext b (bAdd b fr a w) := by
  by_cases h0 : b.2.2 w = 0
  · rw [bAdd_y h0]
    refine ⟨Nat.le_succ _, fun i hi => ?_, fun v hv => ?_⟩
    · show sF b.1 b.2.1 w i = b.1 i
      rw [sF_n _ _ (by omega)]
    · show sF b.2.2 w (1 + 4 * fr + a) v = b.2.2 v
      rw [sF_n _ _ (fun q => hv (by rw [q]; exact h0))]
  · rw [bAdd_n h0]; exact Ext_rf b
theorem Ext_act (nx : Nat → Nat → Option Nat) (w a : Nat) (b : BB) : Ext b (bAct nx w a b) := by
  unfold bAct; split
  · exact Ext_rf b
  · exact Ext_add b _ _ _
theorem Ext_row (nx : Nat → Nat → Option Nat) (w : Nat) (b : BB) : ∀ k, Ext b (bRow nx w k b)
  | 0 => Ext_rf b
  | k + 1 => Ext_tr (Ext_row nx w b k) (Ext_act nx w k _)
theorem Ext_rows (nx : Nat → Nat → Option Nat) (w : Nat) (b : BB) (k : Nat) : ∀ m, Ext (bRow nx w k b) (bRow nx w (k + m) b)
  | 0 => Ext_rf _
  | m + 1 => Ext_tr (Ext_rows nx w b k m) (Ext_act nx w (k + m) _)
/-- what the search needs of the next ways -/
def NX (n K : Nat) (nx : Nat → Nat → Option Nat) : Prop := ∀ w a w', w < 40000 → a < K → nx w a = some w' → VS n w'
theorem IB_act {n K : Nat} {nx : Nat → Nat → Option Nat} (hx : NX n K nx) {w a : Nat} (hw : w < 40000) (ha : a < K) {b : BB} (h : IB n b) : IB n (bAct nx w a b) := by
  unfold bAct; split
  · exact h
  next w' e => exact IB_add h (hx w a w' hw ha e)
theorem IB_row {n K : Nat} {nx : Nat → Nat → Option Nat} (hx : NX n K nx) {w : Nat} (hw : w < 40000) {b : BB} (h : IB n b) : ∀ k, k ≤ K → IB n (bRow nx w k b)
  | 0, _ => h
  | k + 1, hk => IB_act hx hw (by omega) (IB_row hx hw h k (by omega))
/-- the entries that a row of acts brings have it as the way ahead -/
theorem New_row {n K : Nat} {nx : Nat → Nat → Option Nat} (hx : NX n K nx) {w : Nat} (hw : w < 40000) {b : BB} (h : IB n b) : ∀ k, k ≤ K → ∀ j, b.2.1 ≤ j → j < (bRow nx w k b).2.1 → ∃ a, a < k ∧ (bRow nx w k b).2.2 ((bRow nx w k b).1 j) = 1 + 4 * w + a
  | 0, _, j, h1, h2 => absurd h2 (by show ¬ j < b.2.1; omega)
  | k + 1, hk, j, h1, h2 => by
    have ih := New_row hx hw h k (by omega) j h1
    have hB := IB_row hx hw h k (by omega)
    generalize hb : bRow nx w k b = B at ih hB
    have e2 : bRow nx w (k + 1) b = bAct nx w k B := by rw [← hb]; rfl
    rw [e2] at h2 ⊢
    have hE := Ext_act nx w k B
    by_cases q : j < B.2.1
    · obtain ⟨a, ha, hq⟩ := ih q
      refine ⟨a, by omega, ?_⟩
      rw [hE.2.1 j q, hE.2.2 _ (hB.2.1 j q).2, hq]
    · unfold bAct at h2 ⊢
      revert h2
      split
      · intro h2; exact absurd h2 q
      next w' e =>
        intro h2
        by_cases h0 : B.2.2 w' = 0
        · rw [bAdd_y h0] at h2 ⊢
          have h2 : j < B.2.1 + 1 := h2
          have ej : j = B.2.1 := by omega
          refine ⟨k, by omega, ?_⟩
          show sF B.2.2 w' (1 + 4 * w + k) (sF B.1 B.2.1 w' j) = 1 + 4 * w + k
          rw [ej, show sF B.1 B.2.1 w' B.2.1 = w' by rw [sF_ap, if_pos rfl], sF_ap, if_pos rfl]
        · rw [bAdd_n h0] at h2; exact absurd h2 q
section bq
variable {n K s0 : Nat} {nx : Nat → Nat → Option Nat}
theorem bQ_y {d : Nat} (h : d < (bQ nx K s0 d).2.1) : bQ nx K s0 (d + 1) = bRow nx ((bQ nx K s0 d).1 d) K (bQ nx K s0 d) := if_pos h
theorem bQ_n {d : Nat} (h : ¬ d < (bQ nx K s0 d).2.1) : bQ nx K s0 (d + 1) = bQ nx K s0 d := if_neg h
theorem bQ_0 : bQ nx K s0 0 = (sF (fun _ => 0) 0 s0, 1, sF (fun _ => 0) s0 (1 + 4 * s0 + 0)) := bAdd_y rfl
theorem IB_0 (hs : VS n s0) : IB n (bQ nx K s0 0) := by
  refine IB_add (b := (fun _ => 0, 0, fun _ => 0)) ⟨?_, ?_, ?_, ?_⟩ hs
  · have : ∀ k, cntP (fun _ => 0) k = 0 := by
      intro k
      induction k with
      | zero => rfl
      | succ k ih => show cntP (fun _ => 0) k + (if (0 : Nat) = 0 then 0 else 1) = 0; rw [ih, if_pos rfl]
    exact (this 40000).symm
  · intro i hi; exact absurd hi (Nat.not_lt_zero i)
  · intro w hw; exact absurd rfl hw
  · intro i j _ hj; exact absurd hj (Nat.not_lt_zero j)
theorem IB_Q (hx : NX n K nx) (hs : VS n s0) : ∀ d, IB n (bQ nx K s0 d)
  | 0 => IB_0 hs
  | d + 1 => by
    have ih := IB_Q hx hs d
    by_cases h : d < (bQ nx K s0 d).2.1
    · rw [bQ_y h]; exact IB_row hx (ih.2.1 d h).1.1 ih K (Nat.le_refl K)
    · rw [bQ_n h]; exact ih
theorem Ext_s (d : Nat) : Ext (bQ nx K s0 d) (bQ nx K s0 (d + 1)) := by
  by_cases h : d < (bQ nx K s0 d).2.1
  · rw [bQ_y h]; exact Ext_row nx _ _ K
  · rw [bQ_n h]; exact Ext_rf _
theorem Ext_Qk (d : Nat) : ∀ k, Ext (bQ nx K s0 d) (bQ nx K s0 (d + k))
  | 0 => Ext_rf _
  | k + 1 => Ext_tr (Ext_Qk d k) (Ext_s (d + k))
theorem Ext_Q {d d' : Nat} (h : d ≤ d') : Ext (bQ nx K s0 d) (bQ nx K s0 d') := by
  have := Ext_Qk (nx := nx) (K := K) (s0 := s0) d (d' - d)
  rw [show d + (d' - d) = d' by omega] at this
  exact this
theorem still_k {d : Nat} (h : ¬ d < (bQ nx K s0 d).2.1) : ∀ k, bQ nx K s0 (d + k) = bQ nx K s0 d
  | 0 => rfl
  | k + 1 => by
    have ih := still_k h k
    have : ¬ d + k < (bQ nx K s0 (d + k)).2.1 := by rw [ih]; omega
    show bQ nx K s0 (d + k + 1) = _
    rw [bQ_n this, ih]
theorem tQ_max {d : Nat} (h : ¬ d < (bQ nx K s0 d).2.1) (d' : Nat) : (bQ nx K s0 d').2.1 ≤ (bQ nx K s0 d).2.1 := by
  by_cases q : d' ≤ d
  · exact (Ext_Q q).1
  · have := still_k h (d' - d)
    rw [show d + (d' - d) = d' by omega] at this
    rw [this]; exact Nat.le_refl _
/-- the way ahead of an entry -/
theorem par_Q (hx : NX n K nx) (hs : VS n s0) : ∀ d j, 0 < j → j < (bQ nx K s0 d).2.1 → ∃ i a, i < d ∧ i < (bQ nx K s0 i).2.1 ∧ a < K ∧ (bQ nx K s0 i).2.1 ≤ j ∧ j < (bQ nx K s0 (i + 1)).2.1 ∧ (bQ nx K s0 d).2.2 ((bQ nx K s0 d).1 j) = 1 + 4 * (bQ nx K s0 i).1 i + a
  | 0, j, h1, h2 => absurd h2 (by rw [bQ_0]; show ¬ j < 1; omega)
  | d + 1, j, h1, h2 => by
    have ih := par_Q hx hs d j h1
    have hB := IB_Q hx hs d
    have hE := Ext_s (nx := nx) (K := K) (s0 := s0) d
    by_cases q : j < (bQ nx K s0 d).2.1
    · obtain ⟨i, a, h3, h4, h5, h6, h7, h8⟩ := ih q
      refine ⟨i, a, by omega, h4, h5, h6, h7, ?_⟩
      rw [hE.2.1 j q, hE.2.2 _ (hB.2.1 j q).2, h8]
    · by_cases h : d < (bQ nx K s0 d).2.1
      · have e := bQ_y h
        have nr := New_row hx (hB.2.1 d h).1.1 hB K (Nat.le_refl K) j (by omega)
        rw [← e] at nr
        obtain ⟨a, ha, hq⟩ := nr h2
        exact ⟨d, a, by omega, h, ha, by omega, h2, hq⟩
      · rw [bQ_n h] at h2; exact absurd h2 q
/-- where the rows of k acts begin -/
def bD (nx : Nat → Nat → Option Nat) (K s0 : Nat) : Nat → Nat
  | 0 => 0
  | k + 1 => (bQ nx K s0 (bD nx K s0 k)).2.1
theorem bD_1 : bD nx K s0 1 = 1 := by show (bQ nx K s0 0).2.1 = 1; rw [bQ_0]
theorem bD_s : ∀ k, bD nx K s0 k ≤ bD nx K s0 (k + 1)
  | 0 => Nat.zero_le _
  | k + 1 => (Ext_Q (bD_s k)).1
theorem bD_k (k : Nat) : ∀ m, bD nx K s0 k ≤ bD nx K s0 (k + m)
  | 0 => Nat.le_refl _
  | m + 1 => Nat.le_trans (bD_k k m) (bD_s (k + m))
theorem bD_m {k k' : Nat} (h : k ≤ k') : bD nx K s0 k ≤ bD nx K s0 k' := by
  have := bD_k (nx := nx) (K := K) (s0 := s0) k (k' - k)
  rw [show k + (k' - k) = k' by omega] at this
  exact this
theorem bD_lt (hx : NX n K nx) (hs : VS n s0) : ∀ k, bD nx K s0 k ≤ 40000
  | 0 => Nat.zero_le _
  | _ + 1 => IB_le (IB_Q hx hs _)
/-- an entry of the rows of k acts is not past the queue when it is its turn -/
theorem lv_t {k d : Nat} (h1 : bD nx K s0 k ≤ d) (h2 : d < bD nx K s0 (k + 1)) : d < (bQ nx K s0 d).2.1 := Nat.lt_of_lt_of_le h2 (Ext_Q h1).1
theorem bF_ex (nx : Nat → Nat → Option Nat) (K s0 N : Nat) : ∃ b, b = bQ nx K s0 N := ⟨_, rfl⟩
noncomputable def bF (nx : Nat → Nat → Option Nat) (K s0 : Nat) : BB := Classical.choose (bF_ex nx K s0 40001)
theorem bF_eq : bF nx K s0 = bQ nx K s0 40001 := Classical.choose_spec (bF_ex nx K s0 40001)
theorem bF_Ext {d : Nat} (h : d ≤ 40001) : Ext (bQ nx K s0 d) (bF nx K s0) := by rw [bF_eq]; exact Ext_Q h
theorem fin_Q (hx : NX n K nx) (hs : VS n s0) {d i : Nat} (hd : d ≤ 40001) (h : i < (bQ nx K s0 d).2.1) : (bF nx K s0).1 i = (bQ nx K s0 d).1 i ∧ i < (bF nx K s0).2.1 :=
  ⟨(bF_Ext hd).2.1 i h, Nat.lt_of_lt_of_le h (bF_Ext hd).1⟩
theorem fin_P {d w : Nat} (hd : d ≤ 40001) (h : (bQ nx K s0 d).2.2 w ≠ 0) : (bF nx K s0).2.2 w = (bQ nx K s0 d).2.2 w := (bF_Ext hd).2.2 w h
theorem fin_lv (hx : NX n K nx) (hs : VS n s0) {k f : Nat} (h : f < bD nx K s0 k) : f < (bF nx K s0).2.1 := by
  cases k with
  | zero => exact absurd h (Nat.not_lt_zero f)
  | succ k => exact (fin_Q hx hs (Nat.le_trans (bD_lt hx hs k) (by omega)) h).2
theorem par_lv (hx : NX n K nx) (hs : VS n s0) {k f : Nat} (h1 : bD nx K s0 (k + 1) ≤ f) (h2 : f < bD nx K s0 (k + 2)) : ∃ g a, bD nx K s0 k ≤ g ∧ g < bD nx K s0 (k + 1) ∧ a < K ∧ (bF nx K s0).2.2 ((bF nx K s0).1 f) = 1 + 4 * (bF nx K s0).1 g + a := by
  have hf := fin_lv hx hs h2
  have h0 : 0 < f := Nat.lt_of_lt_of_le (by have := bD_m (nx := nx) (K := K) (s0 := s0) (show 1 ≤ k + 1 by omega); rw [bD_1] at this; omega) h1
  have pq := par_Q hx hs 40001 f h0
  rw [← bF_eq] at pq
  obtain ⟨i, a, h3, h4, h5, h6, h7, h8⟩ := pq hf
  have g1 : bD nx K s0 k ≤ i := by
    by_cases q : bD nx K s0 k ≤ i
    · exact q
    · have := (Ext_Q (nx := nx) (K := K) (s0 := s0) (show i + 1 ≤ bD nx K s0 k by omega)).1
      have e : bD nx K s0 (k + 1) = (bQ nx K s0 (bD nx K s0 k)).2.1 := rfl
      omega
  have g2 : i < bD nx K s0 (k + 1) := by
    by_cases q : i < bD nx K s0 (k + 1)
    · exact q
    · have := (Ext_Q (nx := nx) (K := K) (s0 := s0) (show bD nx K s0 (k + 1) ≤ i by omega)).1
      have e : bD nx K s0 (k + 2) = (bQ nx K s0 (bD nx K s0 (k + 1))).2.1 := rfl
      omega
  refine ⟨i, a, g1, g2, h5, ?_⟩
  rw [h8, (fin_Q hx hs (show i ≤ 40001 by omega) h4).1]
/-- the way i acts ahead -/
def anc (P : Nat → Nat) : Nat → Nat → Nat
  | 0, w => w
  | i + 1, w => (P (anc P i w) - 1) / 4
theorem anc_lv (hx : NX n K nx) (hs : VS n s0) (hK : K ≤ 4) {k f : Nat} (h1 : bD nx K s0 k ≤ f) (h2 : f < bD nx K s0 (k + 1)) : ∀ i, i ≤ k → ∃ g, bD nx K s0 (k - i) ≤ g ∧ g < bD nx K s0 (k - i + 1) ∧ g ≤ f ∧ anc (bF nx K s0).2.2 i ((bF nx K s0).1 f) = (bF nx K s0).1 g
  | 0, _ => ⟨f, h1, h2, Nat.le_refl f, rfl⟩
  | i + 1, hi => by
    obtain ⟨g, g1, g2, g4, g3⟩ := anc_lv hx hs hK h1 h2 i (by omega)
    rw [show k - i = (k - (i + 1)) + 1 by omega] at g1 g2
    obtain ⟨g', a, p1, p2, p3, p4⟩ := par_lv hx hs g1 g2
    refine ⟨g', p1, p2, by omega, ?_⟩
    show ((bF nx K s0).2.2 (anc (bF nx K s0).2.2 i ((bF nx K s0).1 f)) - 1) / 4 = _
    rw [g3, p4]; omega
/-- the entry f is the first goal, and k acts away -/
def Fnd (nx : Nat → Nat → Option Nat) (K s0 : Nat) (G : Nat → Prop) (k f : Nat) : Prop := k ≤ 40 ∧ bD nx K s0 k ≤ f ∧ f < bD nx K s0 (k + 1) ∧ G ((bF nx K s0).1 f) ∧ ∀ i, i < f → ¬ G ((bF nx K s0).1 i)
def Non (nx : Nat → Nat → Option Nat) (K s0 : Nat) (G : Nat → Prop) : Prop := ∀ i, i < bD nx K s0 41 → ¬ G ((bF nx K s0).1 i)
noncomputable def acOf (nx : Nat → Nat → Option Nat) (K s0 f i : Nat) : Nat := ((bF nx K s0).2.2 (anc (bF nx K s0).2.2 i ((bF nx K s0).1 f)) - 1) % 4
def rowA (k : Nat) (ac : Nat → Nat) (j : Int32) : Int32 := if j < 0 then nI k else if j < nI k then nI (ac (k - 1 - j.toNatClampNeg)) else (-9)
def RowAns (nx : Nat → Nat → Option Nat) (K s0 : Nat) (G : Nat → Prop) (j r : Int32) : Prop :=
  (∃ k f, Fnd nx K s0 G k f ∧ r = rowA k (acOf nx K s0 f) j) ∨ (Non nx K s0 G ∧ r = (-9))
theorem Fnd_1 {G : Nat → Prop} {k f k' f' : Nat} (h : Fnd nx K s0 G k f) (h' : Fnd nx K s0 G k' f') : k = k' ∧ f = f' := by
  obtain ⟨_, a1, a2, a3, a4⟩ := h
  obtain ⟨_, b1, b2, b3, b4⟩ := h'
  have ef : f = f' := by
    rcases Nat.lt_trichotomy f f' with q | q | q
    · exact absurd a3 (b4 f q)
    · exact q
    · exact absurd b3 (a4 f' q)
  subst ef
  refine ⟨?_, rfl⟩
  rcases Nat.lt_trichotomy k k' with q | q | q
  · have := bD_m (nx := nx) (K := K) (s0 := s0) (show k + 1 ≤ k' by omega); omega
  · exact q
  · have := bD_m (nx := nx) (K := K) (s0 := s0) (show k' + 1 ≤ k by omega); omega
theorem Fnd_Non {G : Nat → Prop} {k f : Nat} (h : Fnd nx K s0 G k f) : ¬ Non nx K s0 G := fun q =>
  q f (Nat.lt_of_lt_of_le h.2.2.1 (bD_m (by have := h.1; omega))) h.2.2.2.1
theorem RowAns_1 {G : Nat → Prop} {j r r' : Int32} (h : RowAns nx K s0 G j r) (h' : RowAns nx K s0 G j r') : r = r' := by
  rcases h with ⟨k, f, h1, h2⟩ | ⟨h1, h2⟩
  · rcases h' with ⟨k', f', h3, h4⟩ | ⟨h3, h4⟩
    · obtain ⟨rfl, rfl⟩ := Fnd_1 h1 h3
      rw [h2, h4]
    · exact absurd h3 (Fnd_Non h1)
  · rcases h' with ⟨k', f', h3, h4⟩ | ⟨h3, h4⟩
    · exact absurd h1 (Fnd_Non h3)
    · rw [h2, h4]
end bq

def wyN (n b : Nat) (lv : Nat → Nat) : Nat → Nat
  | 0 => b
  | r + 1 => 10 * wyN n b lv r + cc n lv r
theorem wyN_4 (n b : Nat) (lv : Nat → Nat) : wyN n b lv 4 = wy n b lv := by
  show 10 * (10 * (10 * (10 * b + cc n lv 0) + cc n lv 1) + cc n lv 2) + cc n lv 3 = _
  unfold wy; omega
theorem wyN_s {n b r x : Nat} {lv : Nat → Nat} (h : x = cc n lv r) : 10 * wyN n b lv r + x = wyN n b lv (r + 1) := by rw [h]; rfl
theorem gt2 (f : Nat → Nat) (w : Nat) : ∀ z, z < 2 → sF (sF f 1 (w / 10 / 10 % 10)) 0 (w / 10 / 10 / 10 % 10) z = dig w z := by
  intro z hz
  have e : z = 0 ∨ z = 1 := by omega
  rcases e with rfl | rfl
  · show w / 10 / 10 / 10 % 10 = w / 1000 % 10; omega
  · show w / 10 / 10 % 10 = w / 100 % 10; omega
theorem gt3 (f : Nat → Nat) (w : Nat) : ∀ z, z < 3 → sF (sF (sF f 2 (w / 10 % 10)) 1 (w / 10 / 10 % 10)) 0 (w / 10 / 10 / 10 % 10) z = dig w z := by
  intro z hz
  have e : z < 2 ∨ z = 2 := by omega
  rcases e with q | rfl
  · exact gt2 _ w z q
  · rfl
theorem gt4 (f : Nat → Nat) (w : Nat) : ∀ z, z < 4 → sF (sF (sF (sF f 3 (w % 10)) 2 (w / 10 % 10)) 1 (w / 10 / 10 % 10)) 0 (w / 10 / 10 / 10 % 10) z = dig w z := by
  intro z hz
  have e : z < 3 ∨ z = 3 := by omega
  rcases e with q | rfl
  · exact gt3 _ w z q
  · rfl
/-- the goal: the boat is there, or the level is no lower -/
def GT (r : Nat) (v : Int32) (b x : Nat) : Prop := v < 0 ∧ b = r ∨ ¬ v < 0 ∧ v ≤ nI x
abbrev GW (r : Nat) (v : Int32) : Nat → Prop := fun w => GT r v (w / 10000) (dig w r)
def encR (q : Nat) : Int32 := if q = 0 then (-9) else nI (8 * ((q - 1) / 4) + (q - 1) % 4)
theorem encR_0 : encR 0 = (-9) := rfl
theorem encR_y {q : Nat} (h : q ≠ 0) : encR q = nI (8 * ((q - 1) / 4) + (q - 1) % 4) := if_neg h
theorem nI_n9 {k : Nat} (h : k < 2 ^ 31) : nI k ≠ (-9) := by
  intro q
  have := congrArg Int32.toInt q
  rw [nI_toInt h] at this
  have e : (-9 : Int32).toInt = -9 := by decide
  omega
theorem encR_z {q : Nat} (hq : q ≤ 200000) : encR q = (-9) ↔ q = 0 := by
  constructor
  · intro h
    by_cases e : q = 0
    · exact e
    · rw [encR_y e] at h; exact absurd h (nI_n9 (by omega))
  · rintro rfl; rfl
def AGR (b : BB) (E : Nat → Int32) (F : Nat → Nat) (t : Nat) : Prop := (∀ w, w < 40000 → E w = encR (b.2.2 w)) ∧ (∀ i, i < b.2.1 → F i = b.1 i) ∧ t = b.2.1 ∧ ∀ w, b.2.2 w ≤ 200000
theorem AGR_add {b : BB} {E : Nat → Int32} {F : Nat → Nat} {t fr a w : Nat} (h : AGR b E F t) (h0 : E w = (-9)) (hw : w < 40000) (hfr : fr < 40000) (ha : a < 4) : AGR (bAdd b fr a w) (sF E w (nI (8 * fr + a))) (sF F t w) (t + 1) := by
  obtain ⟨h1, h2, h3, h4⟩ := h
  have z : b.2.2 w = 0 := (encR_z (h4 w)).mp (by rw [← h1 w hw]; exact h0)
  rw [bAdd_y z]
  subst h3
  refine ⟨fun v hv => ?_, fun i hi => ?_, rfl, fun v => ?_⟩
  · show sF E w (nI (8 * fr + a)) v = encR (sF b.2.2 w (1 + 4 * fr + a) v)
    by_cases e : v = w
    · rw [e, sF_ap, if_pos rfl, sF_ap, if_pos rfl, encR_y (by omega)]; congr 1; omega
    · rw [sF_n _ _ e, sF_n _ _ e]; exact h1 v hv
  · show sF F b.2.1 w i = sF b.1 b.2.1 w i
    by_cases e : i = b.2.1
    · rw [e, sF_ap, if_pos rfl, sF_ap, if_pos rfl]
    · have hi : i < b.2.1 + 1 := hi
      rw [sF_n _ _ e, sF_n _ _ e]; exact h2 i (by omega)
  · show sF b.2.2 w (1 + 4 * fr + a) v ≤ 200000
    exact sF_le h4 (by omega) v
theorem AGR_no {b : BB} {E : Nat → Int32} {F : Nat → Nat} {t fr a w : Nat} (h : AGR b E F t) (h0 : ¬ E w = (-9)) (hw : w < 40000) : AGR (bAdd b fr a w) E F t := by
  rw [bAdd_n (fun q => h0 (by rw [h.1 w hw, q]; rfl))]; exact h
def wnN (n : Nat) (kd lm : Nat → Nat) : Nat := wy n 0 (fun i => want (kd i) (lm i))
theorem dig_wn {n : Nat} {kd lm : Nat → Nat} (hm : ∀ i, lm i ≤ 9) (hn : n ≤ 4) {r : Nat} (hr : r < n) : dig (wnN n kd lm) r = want (kd r) (lm r) := by
  unfold wnN
  rw [dig_wy (fun i _ => Nat.le_trans (want_le _ _) (hm i)) (by omega)]
  unfold cc; rw [if_pos hr]
theorem may_eq {n w a : Nat} {kd lm L : Nat → Nat} (hm : ∀ i, lm i ≤ 9) (hn : n ≤ 4) (hL : ∀ i, i < n → L i = dig w i) (ha : a + 1 < n) : mayN kd L lm a ↔ mayW (wnN n kd lm) (dig w) a := by
  unfold mayN mayW
  rw [dig_wn hm hn ha, hL a (by omega), hL (a + 1) ha]
theorem nx_can {n rn w a : Nat} {kd lm L : Nat → Nat} (hm : ∀ i, lm i ≤ 9) (h2 : 2 ≤ n) (hn : n ≤ 4) (ha : a < n) (hL : ∀ i, i < n → L i = dig w i) (h : canN n kd lm L a) : nxW n rn (wnN n kd lm) w a = some (wy n (w / 10000 + if a < n - 1 ∧ a = w / 10000 then 1 else 0) (actN n rn kd lm L a)) := by
  unfold nxW actN
  by_cases e : a = n - 1
  · rw [if_pos e, if_pos e, if_neg (show ¬ (a < n - 1 ∧ a = w / 10000) by omega)]
    congr 1
    exact wy_cg (fun i hi => (night_cong (by omega) hL i hi).symm)
  · have hq : mayN kd L lm a := h.elim (fun q => absurd q e) id
    rw [if_neg e, if_neg e, if_pos hq, if_pos ((may_eq hm hn hL (by omega)).mp hq)]
    congr 1
    have e2 : (if a < n - 1 ∧ a = w / 10000 then 1 else 0) = (if a = w / 10000 then 1 else 0) := by
      by_cases q : a = w / 10000
      · rw [if_pos ⟨by omega, q⟩, if_pos q]
      · rw [if_neg (fun z => q z.2), if_neg q]
    rw [e2]
    exact wy_cg (fun i hi => (thru_cong (by omega) hL i hi).symm)
theorem nx_no {n rn w a : Nat} {kd lm L : Nat → Nat} (hm : ∀ i, lm i ≤ 9) (hn : n ≤ 4) (ha : a < n) (hL : ∀ i, i < n → L i = dig w i) (h : ¬ canN n kd lm L a) : nxW n rn (wnN n kd lm) w a = none := by
  unfold nxW
  rw [if_neg (fun q => h (Or.inl q)), if_neg (fun q => h (Or.inr ((may_eq hm hn hL (by omega)).mpr q)))]
theorem NX_W {n rn wn : Nat} (hn : n ≤ 4) : NX n n (nxW n rn wn) := fun _ _ _ hw ha h => nxW_VS hn ha hw h
theorem row_some {nx : Nat → Nat → Option Nat} {w a w' : Nat} {b : BB} (h : nx w a = some w') : bRow nx w (a + 1) b = bAdd (bRow nx w a b) w a w' := by
  show bAct nx w a (bRow nx w a b) = _
  unfold bAct; rw [h]
theorem row_none {nx : Nat → Nat → Option Nat} {w a : Nat} {b : BB} (h : nx w a = none) : bRow nx w (a + 1) b = bRow nx w a b := by
  show bAct nx w a (bRow nx w a b) = _
  unfold bAct; rw [h]
def flE (x : Nat) (f : Nat → Int32) : Nat → Int32 := fun i => if i < x then (-9) else f i
theorem flE_0 (f : Nat → Int32) : flE 0 f = f := by funext i; simp [flE]
theorem flE_s (x : Nat) (f : Nat → Int32) : sF (flE x f) x (-9) = flE (x + 1) f := by
  funext i
  rw [sF_ap]
  unfold flE
  by_cases h : i = x
  · rw [if_pos h, if_pos (by omega)]
  · rw [if_neg h]
    by_cases h2 : i < x
    · rw [if_pos h2, if_pos (by omega)]
    · rw [if_neg h2, if_neg (by omega)]
theorem AGR_0 {f : Nat → Int32} {F : Nat → Nat} : AGR (fun _ => 0, 0, fun _ => 0) (flE 40000 f) F 0 :=
  ⟨fun w hw => by unfold flE; rw [if_pos hw]; rfl, fun i hi => absurd hi (Nat.not_lt_zero i), rfl, fun _ => Nat.zero_le _⟩
theorem IB_00 {n : Nat} : IB n (fun _ => 0, 0, fun _ => 0) := by
  refine ⟨?_, fun i hi => absurd hi (Nat.not_lt_zero i), fun w hw => absurd rfl hw, fun i j _ hj => absurd hj (Nat.not_lt_zero j)⟩
  have : ∀ k, cntP (fun _ => 0) k = 0 := by
    intro k
    induction k with
    | zero => rfl
    | succ k ih => show cntP (fun _ => 0) k + (if (0 : Nat) = 0 then 0 else 1) = 0; rw [ih, if_pos rfl]
  exact (this 40000).symm
/-- what keeping the row needs, when entry f of the rows of k acts is there -/
theorem keep_h {n K s0 : Nat} {nx : Nat → Nat → Option Nat} (hx : NX n K nx) (hs : VS n s0) (hK : K ≤ 4) {b : BB} {E : Nat → Int32} {k f : Nat} (h1 : bD nx K s0 k ≤ f) (h2 : f < bD nx K s0 (k + 1))
    (hE : ∀ w, w < 40000 → E w = encR (b.2.2 w)) (hb : Ext b (bF nx K s0)) (hib : IB n b) (hf : f < b.2.1) (hle : ∀ w, b.2.2 w ≤ 200000) :
    (∀ i, i < k → anc (bF nx K s0).2.2 i ((bF nx K s0).1 f) ≠ s0 ∧ anc (bF nx K s0).2.2 i ((bF nx K s0).1 f) < 40000 ∧ (bF nx K s0).2.2 (anc (bF nx K s0).2.2 i ((bF nx K s0).1 f)) ≠ 0 ∧ (bF nx K s0).2.2 (anc (bF nx K s0).2.2 i ((bF nx K s0).1 f)) ≤ 200000 ∧ E (anc (bF nx K s0).2.2 i ((bF nx K s0).1 f)) = encR ((bF nx K s0).2.2 (anc (bF nx K s0).2.2 i ((bF nx K s0).1 f)))) ∧ anc (bF nx K s0).2.2 k ((bF nx K s0).1 f) = s0 := by
  have e0 : (bF nx K s0).1 0 = s0 := by
    rw [(fin_Q hx hs (show 0 ≤ 40001 by omega) (show 0 < (bQ nx K s0 0).2.1 by rw [bQ_0]; exact Nat.zero_lt_one)).1, bQ_0]; rfl
  have hF := IB_Q hx hs 40001
  rw [← bF_eq] at hF
  constructor
  · intro i hi
    obtain ⟨g, g1, g2, g4, g3⟩ := anc_lv hx hs hK h1 h2 i (by omega)
    rw [g3]
    have gb : g < b.2.1 := by omega
    have eq := hb.2.1 g gb
    have nz := (hib.2.1 g gb)
    have ep := hb.2.2 _ nz.2
    have gp : 0 < g := by
      have := bD_m (nx := nx) (K := K) (s0 := s0) (show 1 ≤ k - i by omega)
      rw [bD_1] at this; omega
    refine ⟨?_, ?_, ?_, ?_, ?_⟩
    · have := hF.2.2.2 0 g gp (Nat.lt_of_lt_of_le gb hb.1)
      rw [e0] at this; exact fun q => this q.symm
    · rw [eq]; exact nz.1.1
    · rw [eq, ep]; exact nz.2
    · rw [eq, ep]; exact hle _
    · rw [eq, ep]; exact hE _ nz.1.1
  · obtain ⟨g, g1, g2, g4, g3⟩ := anc_lv hx hs hK h1 h2 k (Nat.le_refl k)
    rw [Nat.sub_self] at g2
    have : bD nx K s0 (0 + 1) = 1 := bD_1
    rw [g3, show g = 0 by omega, e0]
theorem RowAns_nn {nx : Nat → Nat → Option Nat} {K s0 : Nat} {G : Nat → Prop} {j : Int32} (h : Non nx K s0 G) : RowAns nx K s0 G j (-9) := Or.inr ⟨h, rfl⟩
theorem rowA_n {k : Nat} {ac : Nat → Nat} : rowA k ac (-1) = nI k := rfl
theorem rowA_y {k : Nat} {ac : Nat → Nat} {j : Nat} (hk : k ≤ 40) (h : j < k) : rowA k ac (nI j) = nI (ac (k - 1 - j)) := by
  unfold rowA
  rw [if_neg (by rw [i_lt, nI_toInt (by omega), i_0]; omega), if_pos ((nI_ltI (by omega) (by omega)).mpr h), nI_clamp (by omega)]
theorem rowA_o {k : Nat} {ac : Nat → Nat} {j : Nat} (hj : j < 40) (hk : k ≤ 40) (h : ¬ j < k) : rowA k ac (nI j) = (-9) := by
  unfold rowA
  rw [if_neg (by rw [i_lt, nI_toInt (by omega), i_0]; omega), if_neg (fun q => h ((nI_ltI (by omega) (by omega)).mp q))]
abbrev okK (k : Int32) : Prop := k = (-1) ∨ inR k 40
def BoatAns (n rn : Nat) (kd lv lm : Nat → Nat) (fr to k r : Int32) : Prop :=
  onR fr n (r = (-1)) (fun i => onR to n (r = (-1)) (fun j => if j ≤ i then r = (-3) else if okK k then RowAns (nxW n rn (wnN n kd lm)) n (wy n i lv) (GW j (-9)) k r else r = (-2)))
def RaiseAns (n rn : Nat) (kd lv lm : Nat → Nat) (x v k r : Int32) : Prop :=
  onR x n (r = (-1)) (fun j => if inR v 10 ∧ okK k then RowAns (nxW n rn (wnN n kd lm)) n (wy n 3 lv) (GW j v) k r else r = (-2))
theorem RaiseAns_1 {n rn : Nat} {kd lv lm : Nat → Nat} {x v k r r' : Int32} (h : RaiseAns n rn kd lv lm x v k r) (h' : RaiseAns n rn kd lv lm x v k r') : r = r' := by
  unfold RaiseAns onR at h h'
  by_cases h1 : inR x n
  · rw [if_pos h1] at h h'
    by_cases h2 : inR v 10 ∧ okK k
    · rw [if_pos h2] at h h'; exact RowAns_1 h h'
    · rw [if_neg h2] at h h'; rw [h, h']
  · rw [if_neg h1] at h h'; rw [h, h']
theorem BoatAns_1 {n rn : Nat} {kd lv lm : Nat → Nat} {x v k r r' : Int32} (h : BoatAns n rn kd lv lm x v k r) (h' : BoatAns n rn kd lv lm x v k r') : r = r' := by
  unfold BoatAns onR at h h'
  by_cases h1 : inR x n
  · rw [if_pos h1] at h h'
    by_cases h2 : inR v n
    · rw [if_pos h2] at h h'
      by_cases h3 : v.toNatClampNeg ≤ x.toNatClampNeg
      · rw [if_pos h3] at h h'; rw [h, h']
      · rw [if_neg h3] at h h'
        by_cases h4 : okK k
        · rw [if_pos h4] at h h'; exact RowAns_1 h h'
        · rw [if_neg h4] at h h'; rw [h, h']
    · rw [if_neg h2] at h h'; rw [h, h']
  · rw [if_neg h1] at h h'; rw [h, h']
theorem neg9_le {k : Nat} (h : k < 2 ^ 31) : (-9 : Int32) ≤ nI k := by
  rw [i_le, nI_toInt h]; have : (-9 : Int32).toInt = -9 := by decide
  omega
theorem okK_iff {k : Int32} {lo hi : Int64} (h0 : lo.toInt = -1) (h : hi.toInt = 39) : (lo.toInt ≤ k.toInt64.toInt ∧ k.toInt64.toInt ≤ hi.toInt) ↔ okK k := by
  rw [h0, h, wide]
  have e : k = (-1) ↔ k.toInt = -1 := by
    rw [← Int32.toInt_inj]; exact Iff.rfl
  unfold okK inR
  rw [e]; omega

set_option maxHeartbeats 4000000 in
set_option maxRecDepth 100000 in
theorem c_X6_wayNow (l : Launch) (D : va_G) (cI cZ cO : ClassId) (mq : Nat) (ma : Nat → Nat) (mg : Nat → Nat) (mh : Nat → Int32) (mF : Nat → Nat → Nat) (mE : Nat → Nat → Int32) (sz : Nat)   (hn : mg 2 ≤ 4) (hw : ∀ z0, mF 12 z0 ≤ 9) : Met l yX6_wayNow wsX6_wayNow ({ frames := 0, cells := 0, slots := 0, locals := 0 }) (va_Pc [.ref mq] (st_W D (ty3 cI cZ cO) (wM cI cZ mq ma mg mh mF mE) sz)) (va_Qi (fun (rr : Int32) (u : Unit) => rr = nI (wy (mg 2) (mg 18) (mF 12))) (fun u t => at_W D (ty3 cI cZ cO) (va_A (wM cI cZ mq ma mg mh mF mE) sz) (wM cI cZ mq ma mg mh mF mE) t) (va_A (wM cI cZ mq ma mg mh mF mE) sz)) 0 0 (va_A (wM cI cZ mq ma mg mh mF mE) sz) := by
  refine Met.goi (cc := cX6_wayNow) (maxL := 3) (ret := (some .int)) (by decide) rfl (Nat.le_of_ble_eq_true rfl) (fun p e s m below meth c A ls X hW hl => ?_)
  have hi6 : ∀ w ∈ wsX60, w ∈ wsX6_wayNow := fun w h => List.mem_cons_of_mem _ (List.mem_append_right _ h)
  have hl : lv_has ls 3 [(0, .ref mq)] := hl
  refine x_aload_n X dX6_wayNow_0 rfl (lv_at hl 0 rfl) ?_
  refine x_get X hW (v := .int (nI (mg 18))) hi6 0 rfl rfl 18 (by decide) (List.mem_of_getElem? (i := 1) rfl) rfl rfl dX6_wayNow_1 ?_
  refine x_istore_n X [(1, .int (nI (mg 18))), (0, .ref mq)] dX6_wayNow_4 rfl hl (by decide) rfl (fun ls hl => ?_)
  refine x_iconst (v := nI 0) X dX6_wayNow_5 (by decide) ?_
  refine x_istore_n X [(2, .int (nI 0)), (1, .int (nI (mg 18))), (0, .ref mq)] dX6_wayNow_6 rfl hl (by decide) rfl (fun ls hl => ?_)
  refine W.loop (σ := (Nat)) (fun u H locs ls => (u ≤ 4) ∧ Wd D A s.heap H locs (wM cI cZ mq ma mg mh mF mE) ∧ lv_has ls 3 [(2, .int (nI u)), (1, .int (nI (wyN (mg 2) (mg 18) (mF 12) u))), (0, .ref mq)]) (fun u => 4 - u) (fun u H locs ls hI ih => ?_) 0 ⟨(show 0 ≤ 4 from (by omega)), hW, hl⟩
  obtain ⟨r, re⟩ : ∃ z, z = u := ⟨_, rfl⟩
  subst re
  obtain ⟨hv, hW, hl⟩ := hI
  have hv : r ≤ 4 := hv
  have hW : Wd D A s.heap H locs (wM cI cZ mq ma mg mh mF mE) := hW
  have hl : lv_has ls 3 [(2, .int (nI r)), (1, .int (nI (wyN (mg 2) (mg 18) (mF 12) r))), (0, .ref mq)] := hl
  have ih7 := ih
  refine x_iload_n X dX6_wayNow_7 rfl (lv_at hl 0 rfl) ?_
  refine x_iconst (v := nI 4) X dX6_wayNow_8 (by decide) ?_
  refine n_icmp_ge X 42 dX6_wayNow_9 (by decide) (by omega) (by decide) (fun c9 => ?_) (fun c9 => ?_)
  · have er : r = 4 := by omega
    refine x_iload_n X dX6_wayNow_42 rfl (lv_at hl 1 rfl) ?_
    exact x_iret X hW rfl () ((congrArg nI (show wyN (mg 2) (mg 18) (mF 12) r = wy (mg 2) (mg 18) (mF 12) from by rw [er]; exact wyN_4 _ _ _))) rfl dX6_wayNow_43
  · refine x_bipush (v := nI 10) X dX6_wayNow_12 (by decide) ?_
    refine x_iload_n X dX6_wayNow_14 rfl (lv_at hl 1 rfl) ?_
    refine n_imul X dX6_wayNow_15 ?_
    refine x_iload_n X dX6_wayNow_16 rfl (lv_at hl 0 rfl) ?_
    refine x_aload_n X dX6_wayNow_17 rfl (lv_at hl 2 rfl) ?_
    refine x_get X hW (v := .int (nI (mg 2))) hi6 0 rfl rfl 2 (by decide) (List.mem_of_getElem? (i := 2) rfl) rfl rfl dX6_wayNow_18 ?_
    refine n_icmp_ge X 33 dX6_wayNow_21 (by decide) (by omega) (by omega) (fun c21 => ?_) (fun c21 => ?_)
    · refine x_iconst (v := nI 0) X dX6_wayNow_33 (by decide) ?_
      refine n_iadd X dX6_wayNow_34 ?_
      refine n_as0 (b := wyN (mg 2) (mg 18) (mF 12) (r + 1)) (wyN_s (by unfold cc; first | rw [if_pos (by omega)] | rw [if_neg (by omega)])) ?_
      refine x_istore_n X [(1, .int (nI (wyN (mg 2) (mg 18) (mF 12) (r + 1)))), (2, .int (nI r)), (0, .ref mq)] dX6_wayNow_35 rfl hl (by decide) rfl (fun ls hl => ?_)
      refine x_iinc X [(2, .int (nI (r + 1))), (1, .int (nI (wyN (mg 2) (mg 18) (mF 12) (r + 1)))), (0, .ref mq)] (k := 1) dX6_wayNow_36 hl rfl (nI_inc1 r) (by decide) rfl (fun ls hl => ?_)
      refine x_goto X 7 dX6_wayNow_39 (by decide) ?_
      exact ih7 (r + 1) _ _ _ ⟨(show (r + 1) ≤ 4 from (by omega)), hW, lv_sub hl [0, 1, 2] rfl⟩ (by omega)
    · refine x_aload_n X dX6_wayNow_24 rfl (lv_at hl 2 rfl) ?_
      refine x_get X hW (v := .ref (ma 12)) hi6 0 rfl rfl 12 (by decide) (List.mem_of_getElem? (i := 3) rfl) rfl rfl dX6_wayNow_25 ?_
      refine x_iload_n X dX6_wayNow_28 rfl (lv_at hl 0 rfl) ?_
      refine n_iald X hW (f := mF 12) 7 0 rfl rfl (by omega) (by decide) dX6_wayNow_29 ?_
      refine x_goto X 34 dX6_wayNow_30 (by decide) ?_
      refine n_iadd X dX6_wayNow_34 ?_
      refine n_as0 (b := wyN (mg 2) (mg 18) (mF 12) (r + 1)) (wyN_s (by unfold cc; first | rw [if_pos (by omega)] | rw [if_neg (by omega)])) ?_
      refine x_istore_n X [(1, .int (nI (wyN (mg 2) (mg 18) (mF 12) (r + 1)))), (2, .int (nI r)), (0, .ref mq)] dX6_wayNow_35 rfl hl (by decide) rfl (fun ls hl => ?_)
      refine x_iinc X [(2, .int (nI (r + 1))), (1, .int (nI (wyN (mg 2) (mg 18) (mF 12) (r + 1)))), (0, .ref mq)] (k := 1) dX6_wayNow_36 hl rfl (nI_inc1 r) (by decide) rfl (fun ls hl => ?_)
      refine x_goto X 7 dX6_wayNow_39 (by decide) ?_
      exact ih7 (r + 1) _ _ _ ⟨(show (r + 1) ≤ 4 from (by omega)), hW, lv_sub hl [0, 1, 2] rfl⟩ (by omega)
set_option maxHeartbeats 4000000 in
set_option maxRecDepth 100000 in
theorem c_X6_goTo (l : Launch) (D : va_G) (cI cZ cO : ClassId) (mq : Nat) (ma : Nat → Nat) (mg : Nat → Nat) (mh : Nat → Int32) (mF : Nat → Nat → Nat) (mE : Nat → Nat → Int32) (sz : Nat) (w : Nat)  (hww : w < 40000) (h2 : 2 ≤ mg 2) (hn : mg 2 ≤ 4) (hw : ∀ z0, mF 12 z0 ≤ 9) : Met l yX6_goTo wsX6_goTo ({ frames := 0, cells := 0, slots := 0, locals := 0 }) (va_Pc [.ref mq, .int (nI w)] (st_W D (ty3 cI cZ cO) (wM cI cZ mq ma mg mh mF mE) sz)) (va_Qv (fun (u : (Nat → Nat)) => (∀ z0, z0 < mg 2 → u z0 = dig w z0) ∧ ∀ z0, u z0 ≤ 9) (fun u t => at_W D (ty3 cI cZ cO) (va_A (wM cI cZ mq ma mg mh mF mE) sz) (wM cI cZ mq ma (sF mg 18 (w / 10000)) mh (sF mF 12 u) mE) t) (va_A (wM cI cZ mq ma mg mh mF mE) sz)) 0 0 (va_A (wM cI cZ mq ma mg mh mF mE) sz) := by
  refine Met.gov (cc := cX6_goTo) (maxL := 4) (ret := none) (by decide) rfl (Nat.le_of_ble_eq_true rfl) (fun p e s m below meth c A ls X hW hl => ?_)
  have hi6 : ∀ w ∈ wsX60, w ∈ wsX6_goTo := fun w h => List.mem_cons_of_mem _ (List.mem_append_right _ h)
  have hl : lv_has ls 4 [(0, .ref mq), (1, .int (nI w))] := hl
  rcases (show mg 2 = 2 ∨ mg 2 = 3 ∨ mg 2 = 4 by omega) with hn2 | hn2 | hn2
  · refine x_iload_n X dX6_goTo_0 rfl (lv_at hl 1 rfl) ?_
    refine x_istore_n X [(2, .int (nI w)), (0, .ref mq), (1, .int (nI w))] dX6_goTo_1 rfl hl (by decide) rfl (fun ls hl => ?_)
    refine x_iconst (v := nI 3) X dX6_goTo_2 (by decide) ?_
    refine x_istore_n X [(3, .int (nI 3)), (2, .int (nI w)), (0, .ref mq), (1, .int (nI w))] dX6_goTo_3 rfl hl (by decide) rfl (fun ls hl => ?_)
    refine x_iload_n X dX6_goTo_4 rfl (lv_at hl 0 rfl) ?_
    refine n_if_lt X 37 dX6_goTo_5 (by decide) (by decide) ?_
    refine x_iload_n X dX6_goTo_8 rfl (lv_at hl 0 rfl) ?_
    refine x_aload_n X dX6_goTo_9 rfl (lv_at hl 2 rfl) ?_
    refine x_get X hW (v := .int (nI (mg 2))) hi6 0 rfl rfl 2 (by decide) (List.mem_of_getElem? (i := 1) rfl) rfl rfl dX6_goTo_10 ?_
    refine n_as0 (b := 2) hn2 ?_
    refine n_icmp_ge X 26 dX6_goTo_13 (by decide) (by decide) (by decide) (fun c13 => ?_) (fun c13 => by exact absurd c13 (by decide))
    refine x_iload_n X dX6_goTo_26 rfl (lv_at hl 1 rfl) ?_
    refine x_bipush (v := nI 10) X dX6_goTo_27 (by decide) ?_
    refine n_idiv X dX6_goTo_29 (by omega) (by omega) (by decide) ?_
    refine x_istore_n X [(2, .int (nI (w / 10))), (3, .int (nI 3)), (0, .ref mq), (1, .int (nI w))] dX6_goTo_30 rfl hl (by decide) rfl (fun ls hl => ?_)
    refine x_iinc X [(3, .int (nI 2)), (2, .int (nI (w / 10))), (0, .ref mq), (1, .int (nI w))] (k := 1) dX6_goTo_31 hl rfl (by decide) (by decide) rfl (fun ls hl => ?_)
    refine x_goto X 4 dX6_goTo_34 (by decide) ?_
    refine x_iload_n X dX6_goTo_4 rfl (lv_at hl 0 rfl) ?_
    refine n_if_lt X 37 dX6_goTo_5 (by decide) (by decide) ?_
    refine x_iload_n X dX6_goTo_8 rfl (lv_at hl 0 rfl) ?_
    refine x_aload_n X dX6_goTo_9 rfl (lv_at hl 2 rfl) ?_
    refine x_get X hW (v := .int (nI (mg 2))) hi6 0 rfl rfl 2 (by decide) (List.mem_of_getElem? (i := 1) rfl) rfl rfl dX6_goTo_10 ?_
    refine n_as0 (b := 2) hn2 ?_
    refine n_icmp_ge X 26 dX6_goTo_13 (by decide) (by decide) (by decide) (fun c13 => ?_) (fun c13 => by exact absurd c13 (by decide))
    refine x_iload_n X dX6_goTo_26 rfl (lv_at hl 1 rfl) ?_
    refine x_bipush (v := nI 10) X dX6_goTo_27 (by decide) ?_
    refine n_idiv X dX6_goTo_29 (by omega) (by omega) (by decide) ?_
    refine x_istore_n X [(2, .int (nI ((w / 10) / 10))), (3, .int (nI 2)), (0, .ref mq), (1, .int (nI w))] dX6_goTo_30 rfl hl (by decide) rfl (fun ls hl => ?_)
    refine x_iinc X [(3, .int (nI 1)), (2, .int (nI ((w / 10) / 10))), (0, .ref mq), (1, .int (nI w))] (k := 1) dX6_goTo_31 hl rfl (by decide) (by decide) rfl (fun ls hl => ?_)
    refine x_goto X 4 dX6_goTo_34 (by decide) ?_
    refine x_iload_n X dX6_goTo_4 rfl (lv_at hl 0 rfl) ?_
    refine n_if_lt X 37 dX6_goTo_5 (by decide) (by decide) ?_
    refine x_iload_n X dX6_goTo_8 rfl (lv_at hl 0 rfl) ?_
    refine x_aload_n X dX6_goTo_9 rfl (lv_at hl 2 rfl) ?_
    refine x_get X hW (v := .int (nI (mg 2))) hi6 0 rfl rfl 2 (by decide) (List.mem_of_getElem? (i := 1) rfl) rfl rfl dX6_goTo_10 ?_
    refine n_as0 (b := 2) hn2 ?_
    refine n_icmp_ge X 26 dX6_goTo_13 (by decide) (by decide) (by decide) (fun c13 => by exact absurd c13 (by decide)) (fun c13 => ?_)
    refine x_aload_n X dX6_goTo_16 rfl (lv_at hl 2 rfl) ?_
    refine x_get X hW (v := .ref (ma 12)) hi6 0 rfl rfl 12 (by decide) (List.mem_of_getElem? (i := 2) rfl) rfl rfl dX6_goTo_17 ?_
    refine x_iload_n X dX6_goTo_20 rfl (lv_at hl 0 rfl) ?_
    refine x_iload_n X dX6_goTo_21 rfl (lv_at hl 1 rfl) ?_
    refine x_bipush (v := nI 10) X dX6_goTo_22 (by decide) ?_
    refine n_irem X dX6_goTo_24 (by omega) (by omega) (by decide) ?_
    refine n_iast X hW (f := mF 12) 7 0 rfl rfl (by decide) (by decide) dX6_goTo_25 (wM cI cZ mq ma mg mh (sF mF 12 (sF (mF 12) 1 (((w / 10) / 10) % 10))) mE) rfl (fun H locs hW => ?_)
    refine x_iload_n X dX6_goTo_26 rfl (lv_at hl 1 rfl) ?_
    refine x_bipush (v := nI 10) X dX6_goTo_27 (by decide) ?_
    refine n_idiv X dX6_goTo_29 (by omega) (by omega) (by decide) ?_
    refine x_istore_n X [(2, .int (nI (((w / 10) / 10) / 10))), (3, .int (nI 1)), (0, .ref mq), (1, .int (nI w))] dX6_goTo_30 rfl hl (by decide) rfl (fun ls hl => ?_)
    refine x_iinc X [(3, .int (nI 0)), (2, .int (nI (((w / 10) / 10) / 10))), (0, .ref mq), (1, .int (nI w))] (k := 1) dX6_goTo_31 hl rfl (by decide) (by decide) rfl (fun ls hl => ?_)
    refine x_goto X 4 dX6_goTo_34 (by decide) ?_
    refine x_iload_n X dX6_goTo_4 rfl (lv_at hl 0 rfl) ?_
    refine n_if_lt X 37 dX6_goTo_5 (by decide) (by decide) ?_
    refine x_iload_n X dX6_goTo_8 rfl (lv_at hl 0 rfl) ?_
    refine x_aload_n X dX6_goTo_9 rfl (lv_at hl 2 rfl) ?_
    refine x_get X hW (v := .int (nI (mg 2))) hi6 0 rfl rfl 2 (by decide) (List.mem_of_getElem? (i := 1) rfl) rfl rfl dX6_goTo_10 ?_
    refine n_as0 (b := 2) hn2 ?_
    refine n_icmp_ge X 26 dX6_goTo_13 (by decide) (by decide) (by decide) (fun c13 => by exact absurd c13 (by decide)) (fun c13 => ?_)
    refine x_aload_n X dX6_goTo_16 rfl (lv_at hl 2 rfl) ?_
    refine x_get X hW (v := .ref (ma 12)) hi6 0 rfl rfl 12 (by decide) (List.mem_of_getElem? (i := 2) rfl) rfl rfl dX6_goTo_17 ?_
    refine x_iload_n X dX6_goTo_20 rfl (lv_at hl 0 rfl) ?_
    refine x_iload_n X dX6_goTo_21 rfl (lv_at hl 1 rfl) ?_
    refine x_bipush (v := nI 10) X dX6_goTo_22 (by decide) ?_
    refine n_irem X dX6_goTo_24 (by omega) (by omega) (by decide) ?_
    refine n_iast X hW (f := sF (mF 12) 1 (((w / 10) / 10) % 10)) 7 0 rfl rfl (by decide) (by decide) dX6_goTo_25 (wM cI cZ mq ma mg mh (sF mF 12 (sF (sF (mF 12) 1 (((w / 10) / 10) % 10)) 0 ((((w / 10) / 10) / 10) % 10))) mE) rfl (fun H locs hW => ?_)
    refine x_iload_n X dX6_goTo_26 rfl (lv_at hl 1 rfl) ?_
    refine x_bipush (v := nI 10) X dX6_goTo_27 (by decide) ?_
    refine n_idiv X dX6_goTo_29 (by omega) (by omega) (by decide) ?_
    refine x_istore_n X [(2, .int (nI ((((w / 10) / 10) / 10) / 10))), (3, .int (nI 0)), (0, .ref mq), (1, .int (nI w))] dX6_goTo_30 rfl hl (by decide) rfl (fun ls hl => ?_)
    refine x_iinc X [(3, .int (-1 : Int32)), (2, .int (nI ((((w / 10) / 10) / 10) / 10))), (0, .ref mq), (1, .int (nI w))] (k := 1) dX6_goTo_31 hl rfl (by decide) (by decide) rfl (fun ls hl => ?_)
    refine x_goto X 4 dX6_goTo_34 (by decide) ?_
    refine x_iload_n X dX6_goTo_4 rfl (lv_at hl 0 rfl) ?_
    refine x_if_lt X 37 dX6_goTo_5 (by decide) (fun c5 => ?_) (fun c5 => by first | exact absurd c5 (by decide) | exact absurd (by decide) c5)
    refine x_aload_n X dX6_goTo_37 rfl (lv_at hl 2 rfl) ?_
    refine x_iload_n X dX6_goTo_38 rfl (lv_at hl 1 rfl) ?_
    refine x_put X hW (v := .int (nI ((((w / 10) / 10) / 10) / 10))) hi6 tyX6 tyX6_ok nmX6 0 rfl rfl 18 (by decide) (List.mem_of_getElem? (i := 3) rfl) rfl rfl rfl rfl (Nat.le_of_ble_eq_true rfl) dX6_goTo_39 (wM cI cZ mq ma (sF mg 18 ((((w / 10) / 10) / 10) / 10)) mh (sF mF 12 (sF (sF (mF 12) 1 (((w / 10) / 10) % 10)) 0 ((((w / 10) / 10) / 10) % 10))) mE) rfl (fun H locs hW => ?_)
    exact x_vret X hW rfl (sF (sF (mF 12) 1 (((w / 10) / 10) % 10)) 0 ((((w / 10) / 10) / 10) % 10)) ((⟨by rw [hn2]; exact gt2 _ w, sF_le (sF_le (hw) (by omega)) (by omega)⟩)) (congrArg (fun z => (wM cI cZ mq ma (sF mg 18 z) mh (sF mF 12 (sF (sF (mF 12) 1 (((w / 10) / 10) % 10)) 0 ((((w / 10) / 10) / 10) % 10))) mE)) (show ((((w / 10) / 10) / 10) / 10) = (w / 10000) from by omega)) dX6_goTo_42
  · refine x_iload_n X dX6_goTo_0 rfl (lv_at hl 1 rfl) ?_
    refine x_istore_n X [(2, .int (nI w)), (0, .ref mq), (1, .int (nI w))] dX6_goTo_1 rfl hl (by decide) rfl (fun ls hl => ?_)
    refine x_iconst (v := nI 3) X dX6_goTo_2 (by decide) ?_
    refine x_istore_n X [(3, .int (nI 3)), (2, .int (nI w)), (0, .ref mq), (1, .int (nI w))] dX6_goTo_3 rfl hl (by decide) rfl (fun ls hl => ?_)
    refine x_iload_n X dX6_goTo_4 rfl (lv_at hl 0 rfl) ?_
    refine n_if_lt X 37 dX6_goTo_5 (by decide) (by decide) ?_
    refine x_iload_n X dX6_goTo_8 rfl (lv_at hl 0 rfl) ?_
    refine x_aload_n X dX6_goTo_9 rfl (lv_at hl 2 rfl) ?_
    refine x_get X hW (v := .int (nI (mg 2))) hi6 0 rfl rfl 2 (by decide) (List.mem_of_getElem? (i := 1) rfl) rfl rfl dX6_goTo_10 ?_
    refine n_as0 (b := 3) hn2 ?_
    refine n_icmp_ge X 26 dX6_goTo_13 (by decide) (by decide) (by decide) (fun c13 => ?_) (fun c13 => by exact absurd c13 (by decide))
    refine x_iload_n X dX6_goTo_26 rfl (lv_at hl 1 rfl) ?_
    refine x_bipush (v := nI 10) X dX6_goTo_27 (by decide) ?_
    refine n_idiv X dX6_goTo_29 (by omega) (by omega) (by decide) ?_
    refine x_istore_n X [(2, .int (nI (w / 10))), (3, .int (nI 3)), (0, .ref mq), (1, .int (nI w))] dX6_goTo_30 rfl hl (by decide) rfl (fun ls hl => ?_)
    refine x_iinc X [(3, .int (nI 2)), (2, .int (nI (w / 10))), (0, .ref mq), (1, .int (nI w))] (k := 1) dX6_goTo_31 hl rfl (by decide) (by decide) rfl (fun ls hl => ?_)
    refine x_goto X 4 dX6_goTo_34 (by decide) ?_
    refine x_iload_n X dX6_goTo_4 rfl (lv_at hl 0 rfl) ?_
    refine n_if_lt X 37 dX6_goTo_5 (by decide) (by decide) ?_
    refine x_iload_n X dX6_goTo_8 rfl (lv_at hl 0 rfl) ?_
    refine x_aload_n X dX6_goTo_9 rfl (lv_at hl 2 rfl) ?_
    refine x_get X hW (v := .int (nI (mg 2))) hi6 0 rfl rfl 2 (by decide) (List.mem_of_getElem? (i := 1) rfl) rfl rfl dX6_goTo_10 ?_
    refine n_as0 (b := 3) hn2 ?_
    refine n_icmp_ge X 26 dX6_goTo_13 (by decide) (by decide) (by decide) (fun c13 => by exact absurd c13 (by decide)) (fun c13 => ?_)
    refine x_aload_n X dX6_goTo_16 rfl (lv_at hl 2 rfl) ?_
    refine x_get X hW (v := .ref (ma 12)) hi6 0 rfl rfl 12 (by decide) (List.mem_of_getElem? (i := 2) rfl) rfl rfl dX6_goTo_17 ?_
    refine x_iload_n X dX6_goTo_20 rfl (lv_at hl 0 rfl) ?_
    refine x_iload_n X dX6_goTo_21 rfl (lv_at hl 1 rfl) ?_
    refine x_bipush (v := nI 10) X dX6_goTo_22 (by decide) ?_
    refine n_irem X dX6_goTo_24 (by omega) (by omega) (by decide) ?_
    refine n_iast X hW (f := mF 12) 7 0 rfl rfl (by decide) (by decide) dX6_goTo_25 (wM cI cZ mq ma mg mh (sF mF 12 (sF (mF 12) 2 ((w / 10) % 10))) mE) rfl (fun H locs hW => ?_)
    refine x_iload_n X dX6_goTo_26 rfl (lv_at hl 1 rfl) ?_
    refine x_bipush (v := nI 10) X dX6_goTo_27 (by decide) ?_
    refine n_idiv X dX6_goTo_29 (by omega) (by omega) (by decide) ?_
    refine x_istore_n X [(2, .int (nI ((w / 10) / 10))), (3, .int (nI 2)), (0, .ref mq), (1, .int (nI w))] dX6_goTo_30 rfl hl (by decide) rfl (fun ls hl => ?_)
    refine x_iinc X [(3, .int (nI 1)), (2, .int (nI ((w / 10) / 10))), (0, .ref mq), (1, .int (nI w))] (k := 1) dX6_goTo_31 hl rfl (by decide) (by decide) rfl (fun ls hl => ?_)
    refine x_goto X 4 dX6_goTo_34 (by decide) ?_
    refine x_iload_n X dX6_goTo_4 rfl (lv_at hl 0 rfl) ?_
    refine n_if_lt X 37 dX6_goTo_5 (by decide) (by decide) ?_
    refine x_iload_n X dX6_goTo_8 rfl (lv_at hl 0 rfl) ?_
    refine x_aload_n X dX6_goTo_9 rfl (lv_at hl 2 rfl) ?_
    refine x_get X hW (v := .int (nI (mg 2))) hi6 0 rfl rfl 2 (by decide) (List.mem_of_getElem? (i := 1) rfl) rfl rfl dX6_goTo_10 ?_
    refine n_as0 (b := 3) hn2 ?_
    refine n_icmp_ge X 26 dX6_goTo_13 (by decide) (by decide) (by decide) (fun c13 => by exact absurd c13 (by decide)) (fun c13 => ?_)
    refine x_aload_n X dX6_goTo_16 rfl (lv_at hl 2 rfl) ?_
    refine x_get X hW (v := .ref (ma 12)) hi6 0 rfl rfl 12 (by decide) (List.mem_of_getElem? (i := 2) rfl) rfl rfl dX6_goTo_17 ?_
    refine x_iload_n X dX6_goTo_20 rfl (lv_at hl 0 rfl) ?_
    refine x_iload_n X dX6_goTo_21 rfl (lv_at hl 1 rfl) ?_
    refine x_bipush (v := nI 10) X dX6_goTo_22 (by decide) ?_
    refine n_irem X dX6_goTo_24 (by omega) (by omega) (by decide) ?_
    refine n_iast X hW (f := sF (mF 12) 2 ((w / 10) % 10)) 7 0 rfl rfl (by decide) (by decide) dX6_goTo_25 (wM cI cZ mq ma mg mh (sF mF 12 (sF (sF (mF 12) 2 ((w / 10) % 10)) 1 (((w / 10) / 10) % 10))) mE) rfl (fun H locs hW => ?_)
    refine x_iload_n X dX6_goTo_26 rfl (lv_at hl 1 rfl) ?_
    refine x_bipush (v := nI 10) X dX6_goTo_27 (by decide) ?_
    refine n_idiv X dX6_goTo_29 (by omega) (by omega) (by decide) ?_
    refine x_istore_n X [(2, .int (nI (((w / 10) / 10) / 10))), (3, .int (nI 1)), (0, .ref mq), (1, .int (nI w))] dX6_goTo_30 rfl hl (by decide) rfl (fun ls hl => ?_)
    refine x_iinc X [(3, .int (nI 0)), (2, .int (nI (((w / 10) / 10) / 10))), (0, .ref mq), (1, .int (nI w))] (k := 1) dX6_goTo_31 hl rfl (by decide) (by decide) rfl (fun ls hl => ?_)
    refine x_goto X 4 dX6_goTo_34 (by decide) ?_
    refine x_iload_n X dX6_goTo_4 rfl (lv_at hl 0 rfl) ?_
    refine n_if_lt X 37 dX6_goTo_5 (by decide) (by decide) ?_
    refine x_iload_n X dX6_goTo_8 rfl (lv_at hl 0 rfl) ?_
    refine x_aload_n X dX6_goTo_9 rfl (lv_at hl 2 rfl) ?_
    refine x_get X hW (v := .int (nI (mg 2))) hi6 0 rfl rfl 2 (by decide) (List.mem_of_getElem? (i := 1) rfl) rfl rfl dX6_goTo_10 ?_
    refine n_as0 (b := 3) hn2 ?_
    refine n_icmp_ge X 26 dX6_goTo_13 (by decide) (by decide) (by decide) (fun c13 => by exact absurd c13 (by decide)) (fun c13 => ?_)
    refine x_aload_n X dX6_goTo_16 rfl (lv_at hl 2 rfl) ?_
    refine x_get X hW (v := .ref (ma 12)) hi6 0 rfl rfl 12 (by decide) (List.mem_of_getElem? (i := 2) rfl) rfl rfl dX6_goTo_17 ?_
    refine x_iload_n X dX6_goTo_20 rfl (lv_at hl 0 rfl) ?_
    refine x_iload_n X dX6_goTo_21 rfl (lv_at hl 1 rfl) ?_
    refine x_bipush (v := nI 10) X dX6_goTo_22 (by decide) ?_
    refine n_irem X dX6_goTo_24 (by omega) (by omega) (by decide) ?_
    refine n_iast X hW (f := sF (sF (mF 12) 2 ((w / 10) % 10)) 1 (((w / 10) / 10) % 10)) 7 0 rfl rfl (by decide) (by decide) dX6_goTo_25 (wM cI cZ mq ma mg mh (sF mF 12 (sF (sF (sF (mF 12) 2 ((w / 10) % 10)) 1 (((w / 10) / 10) % 10)) 0 ((((w / 10) / 10) / 10) % 10))) mE) rfl (fun H locs hW => ?_)
    refine x_iload_n X dX6_goTo_26 rfl (lv_at hl 1 rfl) ?_
    refine x_bipush (v := nI 10) X dX6_goTo_27 (by decide) ?_
    refine n_idiv X dX6_goTo_29 (by omega) (by omega) (by decide) ?_
    refine x_istore_n X [(2, .int (nI ((((w / 10) / 10) / 10) / 10))), (3, .int (nI 0)), (0, .ref mq), (1, .int (nI w))] dX6_goTo_30 rfl hl (by decide) rfl (fun ls hl => ?_)
    refine x_iinc X [(3, .int (-1 : Int32)), (2, .int (nI ((((w / 10) / 10) / 10) / 10))), (0, .ref mq), (1, .int (nI w))] (k := 1) dX6_goTo_31 hl rfl (by decide) (by decide) rfl (fun ls hl => ?_)
    refine x_goto X 4 dX6_goTo_34 (by decide) ?_
    refine x_iload_n X dX6_goTo_4 rfl (lv_at hl 0 rfl) ?_
    refine x_if_lt X 37 dX6_goTo_5 (by decide) (fun c5 => ?_) (fun c5 => by first | exact absurd c5 (by decide) | exact absurd (by decide) c5)
    refine x_aload_n X dX6_goTo_37 rfl (lv_at hl 2 rfl) ?_
    refine x_iload_n X dX6_goTo_38 rfl (lv_at hl 1 rfl) ?_
    refine x_put X hW (v := .int (nI ((((w / 10) / 10) / 10) / 10))) hi6 tyX6 tyX6_ok nmX6 0 rfl rfl 18 (by decide) (List.mem_of_getElem? (i := 3) rfl) rfl rfl rfl rfl (Nat.le_of_ble_eq_true rfl) dX6_goTo_39 (wM cI cZ mq ma (sF mg 18 ((((w / 10) / 10) / 10) / 10)) mh (sF mF 12 (sF (sF (sF (mF 12) 2 ((w / 10) % 10)) 1 (((w / 10) / 10) % 10)) 0 ((((w / 10) / 10) / 10) % 10))) mE) rfl (fun H locs hW => ?_)
    exact x_vret X hW rfl (sF (sF (sF (mF 12) 2 ((w / 10) % 10)) 1 (((w / 10) / 10) % 10)) 0 ((((w / 10) / 10) / 10) % 10)) ((⟨by rw [hn2]; exact gt3 _ w, sF_le (sF_le (sF_le (hw) (by omega)) (by omega)) (by omega)⟩)) (congrArg (fun z => (wM cI cZ mq ma (sF mg 18 z) mh (sF mF 12 (sF (sF (sF (mF 12) 2 ((w / 10) % 10)) 1 (((w / 10) / 10) % 10)) 0 ((((w / 10) / 10) / 10) % 10))) mE)) (show ((((w / 10) / 10) / 10) / 10) = (w / 10000) from by omega)) dX6_goTo_42
  · refine x_iload_n X dX6_goTo_0 rfl (lv_at hl 1 rfl) ?_
    refine x_istore_n X [(2, .int (nI w)), (0, .ref mq), (1, .int (nI w))] dX6_goTo_1 rfl hl (by decide) rfl (fun ls hl => ?_)
    refine x_iconst (v := nI 3) X dX6_goTo_2 (by decide) ?_
    refine x_istore_n X [(3, .int (nI 3)), (2, .int (nI w)), (0, .ref mq), (1, .int (nI w))] dX6_goTo_3 rfl hl (by decide) rfl (fun ls hl => ?_)
    refine x_iload_n X dX6_goTo_4 rfl (lv_at hl 0 rfl) ?_
    refine n_if_lt X 37 dX6_goTo_5 (by decide) (by decide) ?_
    refine x_iload_n X dX6_goTo_8 rfl (lv_at hl 0 rfl) ?_
    refine x_aload_n X dX6_goTo_9 rfl (lv_at hl 2 rfl) ?_
    refine x_get X hW (v := .int (nI (mg 2))) hi6 0 rfl rfl 2 (by decide) (List.mem_of_getElem? (i := 1) rfl) rfl rfl dX6_goTo_10 ?_
    refine n_as0 (b := 4) hn2 ?_
    refine n_icmp_ge X 26 dX6_goTo_13 (by decide) (by decide) (by decide) (fun c13 => by exact absurd c13 (by decide)) (fun c13 => ?_)
    refine x_aload_n X dX6_goTo_16 rfl (lv_at hl 2 rfl) ?_
    refine x_get X hW (v := .ref (ma 12)) hi6 0 rfl rfl 12 (by decide) (List.mem_of_getElem? (i := 2) rfl) rfl rfl dX6_goTo_17 ?_
    refine x_iload_n X dX6_goTo_20 rfl (lv_at hl 0 rfl) ?_
    refine x_iload_n X dX6_goTo_21 rfl (lv_at hl 1 rfl) ?_
    refine x_bipush (v := nI 10) X dX6_goTo_22 (by decide) ?_
    refine n_irem X dX6_goTo_24 (by omega) (by omega) (by decide) ?_
    refine n_iast X hW (f := mF 12) 7 0 rfl rfl (by decide) (by decide) dX6_goTo_25 (wM cI cZ mq ma mg mh (sF mF 12 (sF (mF 12) 3 (w % 10))) mE) rfl (fun H locs hW => ?_)
    refine x_iload_n X dX6_goTo_26 rfl (lv_at hl 1 rfl) ?_
    refine x_bipush (v := nI 10) X dX6_goTo_27 (by decide) ?_
    refine n_idiv X dX6_goTo_29 (by omega) (by omega) (by decide) ?_
    refine x_istore_n X [(2, .int (nI (w / 10))), (3, .int (nI 3)), (0, .ref mq), (1, .int (nI w))] dX6_goTo_30 rfl hl (by decide) rfl (fun ls hl => ?_)
    refine x_iinc X [(3, .int (nI 2)), (2, .int (nI (w / 10))), (0, .ref mq), (1, .int (nI w))] (k := 1) dX6_goTo_31 hl rfl (by decide) (by decide) rfl (fun ls hl => ?_)
    refine x_goto X 4 dX6_goTo_34 (by decide) ?_
    refine x_iload_n X dX6_goTo_4 rfl (lv_at hl 0 rfl) ?_
    refine n_if_lt X 37 dX6_goTo_5 (by decide) (by decide) ?_
    refine x_iload_n X dX6_goTo_8 rfl (lv_at hl 0 rfl) ?_
    refine x_aload_n X dX6_goTo_9 rfl (lv_at hl 2 rfl) ?_
    refine x_get X hW (v := .int (nI (mg 2))) hi6 0 rfl rfl 2 (by decide) (List.mem_of_getElem? (i := 1) rfl) rfl rfl dX6_goTo_10 ?_
    refine n_as0 (b := 4) hn2 ?_
    refine n_icmp_ge X 26 dX6_goTo_13 (by decide) (by decide) (by decide) (fun c13 => by exact absurd c13 (by decide)) (fun c13 => ?_)
    refine x_aload_n X dX6_goTo_16 rfl (lv_at hl 2 rfl) ?_
    refine x_get X hW (v := .ref (ma 12)) hi6 0 rfl rfl 12 (by decide) (List.mem_of_getElem? (i := 2) rfl) rfl rfl dX6_goTo_17 ?_
    refine x_iload_n X dX6_goTo_20 rfl (lv_at hl 0 rfl) ?_
    refine x_iload_n X dX6_goTo_21 rfl (lv_at hl 1 rfl) ?_
    refine x_bipush (v := nI 10) X dX6_goTo_22 (by decide) ?_
    refine n_irem X dX6_goTo_24 (by omega) (by omega) (by decide) ?_
    refine n_iast X hW (f := sF (mF 12) 3 (w % 10)) 7 0 rfl rfl (by decide) (by decide) dX6_goTo_25 (wM cI cZ mq ma mg mh (sF mF 12 (sF (sF (mF 12) 3 (w % 10)) 2 ((w / 10) % 10))) mE) rfl (fun H locs hW => ?_)
    refine x_iload_n X dX6_goTo_26 rfl (lv_at hl 1 rfl) ?_
    refine x_bipush (v := nI 10) X dX6_goTo_27 (by decide) ?_
    refine n_idiv X dX6_goTo_29 (by omega) (by omega) (by decide) ?_
    refine x_istore_n X [(2, .int (nI ((w / 10) / 10))), (3, .int (nI 2)), (0, .ref mq), (1, .int (nI w))] dX6_goTo_30 rfl hl (by decide) rfl (fun ls hl => ?_)
    refine x_iinc X [(3, .int (nI 1)), (2, .int (nI ((w / 10) / 10))), (0, .ref mq), (1, .int (nI w))] (k := 1) dX6_goTo_31 hl rfl (by decide) (by decide) rfl (fun ls hl => ?_)
    refine x_goto X 4 dX6_goTo_34 (by decide) ?_
    refine x_iload_n X dX6_goTo_4 rfl (lv_at hl 0 rfl) ?_
    refine n_if_lt X 37 dX6_goTo_5 (by decide) (by decide) ?_
    refine x_iload_n X dX6_goTo_8 rfl (lv_at hl 0 rfl) ?_
    refine x_aload_n X dX6_goTo_9 rfl (lv_at hl 2 rfl) ?_
    refine x_get X hW (v := .int (nI (mg 2))) hi6 0 rfl rfl 2 (by decide) (List.mem_of_getElem? (i := 1) rfl) rfl rfl dX6_goTo_10 ?_
    refine n_as0 (b := 4) hn2 ?_
    refine n_icmp_ge X 26 dX6_goTo_13 (by decide) (by decide) (by decide) (fun c13 => by exact absurd c13 (by decide)) (fun c13 => ?_)
    refine x_aload_n X dX6_goTo_16 rfl (lv_at hl 2 rfl) ?_
    refine x_get X hW (v := .ref (ma 12)) hi6 0 rfl rfl 12 (by decide) (List.mem_of_getElem? (i := 2) rfl) rfl rfl dX6_goTo_17 ?_
    refine x_iload_n X dX6_goTo_20 rfl (lv_at hl 0 rfl) ?_
    refine x_iload_n X dX6_goTo_21 rfl (lv_at hl 1 rfl) ?_
    refine x_bipush (v := nI 10) X dX6_goTo_22 (by decide) ?_
    refine n_irem X dX6_goTo_24 (by omega) (by omega) (by decide) ?_
    refine n_iast X hW (f := sF (sF (mF 12) 3 (w % 10)) 2 ((w / 10) % 10)) 7 0 rfl rfl (by decide) (by decide) dX6_goTo_25 (wM cI cZ mq ma mg mh (sF mF 12 (sF (sF (sF (mF 12) 3 (w % 10)) 2 ((w / 10) % 10)) 1 (((w / 10) / 10) % 10))) mE) rfl (fun H locs hW => ?_)
    refine x_iload_n X dX6_goTo_26 rfl (lv_at hl 1 rfl) ?_
    refine x_bipush (v := nI 10) X dX6_goTo_27 (by decide) ?_
    refine n_idiv X dX6_goTo_29 (by omega) (by omega) (by decide) ?_
    refine x_istore_n X [(2, .int (nI (((w / 10) / 10) / 10))), (3, .int (nI 1)), (0, .ref mq), (1, .int (nI w))] dX6_goTo_30 rfl hl (by decide) rfl (fun ls hl => ?_)
    refine x_iinc X [(3, .int (nI 0)), (2, .int (nI (((w / 10) / 10) / 10))), (0, .ref mq), (1, .int (nI w))] (k := 1) dX6_goTo_31 hl rfl (by decide) (by decide) rfl (fun ls hl => ?_)
    refine x_goto X 4 dX6_goTo_34 (by decide) ?_
    refine x_iload_n X dX6_goTo_4 rfl (lv_at hl 0 rfl) ?_
    refine n_if_lt X 37 dX6_goTo_5 (by decide) (by decide) ?_
    refine x_iload_n X dX6_goTo_8 rfl (lv_at hl 0 rfl) ?_
    refine x_aload_n X dX6_goTo_9 rfl (lv_at hl 2 rfl) ?_
    refine x_get X hW (v := .int (nI (mg 2))) hi6 0 rfl rfl 2 (by decide) (List.mem_of_getElem? (i := 1) rfl) rfl rfl dX6_goTo_10 ?_
    refine n_as0 (b := 4) hn2 ?_
    refine n_icmp_ge X 26 dX6_goTo_13 (by decide) (by decide) (by decide) (fun c13 => by exact absurd c13 (by decide)) (fun c13 => ?_)
    refine x_aload_n X dX6_goTo_16 rfl (lv_at hl 2 rfl) ?_
    refine x_get X hW (v := .ref (ma 12)) hi6 0 rfl rfl 12 (by decide) (List.mem_of_getElem? (i := 2) rfl) rfl rfl dX6_goTo_17 ?_
    refine x_iload_n X dX6_goTo_20 rfl (lv_at hl 0 rfl) ?_
    refine x_iload_n X dX6_goTo_21 rfl (lv_at hl 1 rfl) ?_
    refine x_bipush (v := nI 10) X dX6_goTo_22 (by decide) ?_
    refine n_irem X dX6_goTo_24 (by omega) (by omega) (by decide) ?_
    refine n_iast X hW (f := sF (sF (sF (mF 12) 3 (w % 10)) 2 ((w / 10) % 10)) 1 (((w / 10) / 10) % 10)) 7 0 rfl rfl (by decide) (by decide) dX6_goTo_25 (wM cI cZ mq ma mg mh (sF mF 12 (sF (sF (sF (sF (mF 12) 3 (w % 10)) 2 ((w / 10) % 10)) 1 (((w / 10) / 10) % 10)) 0 ((((w / 10) / 10) / 10) % 10))) mE) rfl (fun H locs hW => ?_)
    refine x_iload_n X dX6_goTo_26 rfl (lv_at hl 1 rfl) ?_
    refine x_bipush (v := nI 10) X dX6_goTo_27 (by decide) ?_
    refine n_idiv X dX6_goTo_29 (by omega) (by omega) (by decide) ?_
    refine x_istore_n X [(2, .int (nI ((((w / 10) / 10) / 10) / 10))), (3, .int (nI 0)), (0, .ref mq), (1, .int (nI w))] dX6_goTo_30 rfl hl (by decide) rfl (fun ls hl => ?_)
    refine x_iinc X [(3, .int (-1 : Int32)), (2, .int (nI ((((w / 10) / 10) / 10) / 10))), (0, .ref mq), (1, .int (nI w))] (k := 1) dX6_goTo_31 hl rfl (by decide) (by decide) rfl (fun ls hl => ?_)
    refine x_goto X 4 dX6_goTo_34 (by decide) ?_
    refine x_iload_n X dX6_goTo_4 rfl (lv_at hl 0 rfl) ?_
    refine x_if_lt X 37 dX6_goTo_5 (by decide) (fun c5 => ?_) (fun c5 => by first | exact absurd c5 (by decide) | exact absurd (by decide) c5)
    refine x_aload_n X dX6_goTo_37 rfl (lv_at hl 2 rfl) ?_
    refine x_iload_n X dX6_goTo_38 rfl (lv_at hl 1 rfl) ?_
    refine x_put X hW (v := .int (nI ((((w / 10) / 10) / 10) / 10))) hi6 tyX6 tyX6_ok nmX6 0 rfl rfl 18 (by decide) (List.mem_of_getElem? (i := 3) rfl) rfl rfl rfl rfl (Nat.le_of_ble_eq_true rfl) dX6_goTo_39 (wM cI cZ mq ma (sF mg 18 ((((w / 10) / 10) / 10) / 10)) mh (sF mF 12 (sF (sF (sF (sF (mF 12) 3 (w % 10)) 2 ((w / 10) % 10)) 1 (((w / 10) / 10) % 10)) 0 ((((w / 10) / 10) / 10) % 10))) mE) rfl (fun H locs hW => ?_)
    exact x_vret X hW rfl (sF (sF (sF (sF (mF 12) 3 (w % 10)) 2 ((w / 10) % 10)) 1 (((w / 10) / 10) % 10)) 0 ((((w / 10) / 10) / 10) % 10)) ((⟨by rw [hn2]; exact gt4 _ w, sF_le (sF_le (sF_le (sF_le (hw) (by omega)) (by omega)) (by omega)) (by omega)⟩)) (congrArg (fun z => (wM cI cZ mq ma (sF mg 18 z) mh (sF mF 12 (sF (sF (sF (sF (mF 12) 3 (w % 10)) 2 ((w / 10) % 10)) 1 (((w / 10) / 10) % 10)) 0 ((((w / 10) / 10) / 10) % 10))) mE)) (show ((((w / 10) / 10) / 10) / 10) = (w / 10000) from by omega)) dX6_goTo_42
set_option maxHeartbeats 4000000 in
set_option maxRecDepth 100000 in
theorem c_X6_isThere (l : Launch) (D : va_G) (cI cZ cO : ClassId) (mq : Nat) (ma : Nat → Nat) (mg : Nat → Nat) (mh : Nat → Int32) (mF : Nat → Nat → Nat) (mE : Nat → Nat → Int32) (sz : Nat) (r : Nat) (v : Int32)  (hr : r < 4) (hb18 : mg 18 < 5) (hw : ∀ z0, mF 12 z0 ≤ 9) : Met l yX6_isThere wsX6_isThere ({ frames := 0, cells := 0, slots := 0, locals := 0 }) (va_Pc [.ref mq, .int (nI r), .int v] (st_W D (ty3 cI cZ cO) (wM cI cZ mq ma mg mh mF mE) sz)) (va_Qi (fun (rr : Int32) (u : Unit) => (rr = nI 1 ∧ (GT r v (mg 18) (mF 12 r)) ∨ rr = nI 0 ∧ ¬ (GT r v (mg 18) (mF 12 r)))) (fun u t => at_W D (ty3 cI cZ cO) (va_A (wM cI cZ mq ma mg mh mF mE) sz) (wM cI cZ mq ma mg mh mF mE) t) (va_A (wM cI cZ mq ma mg mh mF mE) sz)) 0 0 (va_A (wM cI cZ mq ma mg mh mF mE) sz) := by
  refine Met.goi (cc := cX6_isThere) (maxL := 3) (ret := (some .boolean)) (by decide) rfl (Nat.le_of_ble_eq_true rfl) (fun p e s m below meth c A ls X hW hl => ?_)
  have hi6 : ∀ w ∈ wsX60, w ∈ wsX6_isThere := fun w h => List.mem_cons_of_mem _ (List.mem_append_right _ h)
  have hl : lv_has ls 3 [(0, .ref mq), (1, .int (nI r)), (2, .int v)] := hl
  have b1 := hw r
  refine x_iload_n X dX6_isThere_0 rfl (lv_at hl 2 rfl) ?_
  refine x_if_ge X 20 dX6_isThere_1 (by decide) (fun c1 => ?_) (fun c1 => ?_)
  · refine x_aload_n X dX6_isThere_20 rfl (lv_at hl 0 rfl) ?_
    refine x_get X hW (v := .ref (ma 12)) hi6 0 rfl rfl 12 (by decide) (List.mem_of_getElem? (i := 2) rfl) rfl rfl dX6_isThere_21 ?_
    refine x_iload_n X dX6_isThere_24 rfl (lv_at hl 1 rfl) ?_
    refine n_iald X hW (f := mF 12) 7 0 rfl rfl (by omega) (by decide) dX6_isThere_25 ?_
    refine x_iload_n X dX6_isThere_26 rfl (lv_at hl 2 rfl) ?_
    refine x_icmp_lt X 34 dX6_isThere_27 (by decide) (fun c27 => ?_) (fun c27 => ?_)
    · refine x_iconst (v := nI 0) X dX6_isThere_34 (by decide) ?_
      exact x_zret X hW rfl (Or.inl (by decide)) () (Or.inr ⟨rfl, by unfold GT; simp only [nI_0, i_lt, i_le, nI_toInt (show mF 12 r < 2 ^ 31 by omega), i_0] at *; omega⟩) rfl dX6_isThere_35
    · refine x_iconst (v := nI 1) X dX6_isThere_30 (by decide) ?_
      refine x_goto X 35 dX6_isThere_31 (by decide) ?_
      exact x_zret X hW rfl (Or.inr (by decide)) () (Or.inl ⟨rfl, by unfold GT; simp only [nI_0, i_lt, i_le, nI_toInt (show mF 12 r < 2 ^ 31 by omega), i_0] at *; omega⟩) rfl dX6_isThere_35
  · refine x_aload_n X dX6_isThere_4 rfl (lv_at hl 0 rfl) ?_
    refine x_get X hW (v := .int (nI (mg 18))) hi6 0 rfl rfl 18 (by decide) (List.mem_of_getElem? (i := 1) rfl) rfl rfl dX6_isThere_5 ?_
    refine x_iload_n X dX6_isThere_8 rfl (lv_at hl 1 rfl) ?_
    refine n_icmp_ne X 16 dX6_isThere_9 (by decide) (by omega) (by omega) (fun c9 => ?_) (fun c9 => ?_)
    · refine x_iconst (v := nI 0) X dX6_isThere_16 (by decide) ?_
      refine x_goto X 35 dX6_isThere_17 (by decide) ?_
      exact x_zret X hW rfl (Or.inl (by decide)) () (Or.inr ⟨rfl, by unfold GT; simp only [nI_0, i_lt, i_le, nI_toInt (show mF 12 r < 2 ^ 31 by omega), i_0] at *; omega⟩) rfl dX6_isThere_35
    · refine x_iconst (v := nI 1) X dX6_isThere_12 (by decide) ?_
      refine x_goto X 35 dX6_isThere_13 (by decide) ?_
      exact x_zret X hW rfl (Or.inr (by decide)) () (Or.inl ⟨rfl, by unfold GT; simp only [nI_0, i_lt, i_le, nI_toInt (show mF 12 r < 2 ^ 31 by omega), i_0] at *; omega⟩) rfl dX6_isThere_35
set_option maxHeartbeats 4000000 in
set_option maxRecDepth 100000 in
theorem c_X6_comeTo (l : Launch) (D : va_G) (cI cZ cO : ClassId) (mq : Nat) (ma : Nat → Nat) (mg : Nat → Nat) (mh : Nat → Int32) (mF : Nat → Nat → Nat) (mE : Nat → Nat → Int32) (sz : Nat) (fr : Nat) (a : Nat) (b : BB) (hfr : fr < 40000) (ha : a < 4) (hwy : wy (mg 2) (mg 18) (mF 12) < 40000) (hag : AGR b (mE 15) (mF 16) (mg 17)) (hroom : b.2.2 (wy (mg 2) (mg 18) (mF 12)) = 0 → b.2.1 < 40000) (hn : mg 2 ≤ 4) (hw : ∀ z0, mF 12 z0 ≤ 9) : Met l yX6_comeTo wsX6_comeTo ({ frames := 1, cells := 0, slots := 0, locals := 22 }) (va_Pc [.ref mq, .int (nI fr), .int (nI a)] (st_W D (ty3 cI cZ cO) (wM cI cZ mq ma mg mh mF mE) sz)) (va_Qv (fun (u : (Nat → Int32) × (Nat → Nat) × (Nat)) => AGR (bAdd b fr a (wy (mg 2) (mg 18) (mF 12))) u.1 u.2.1 u.2.2) (fun u t => at_W D (ty3 cI cZ cO) (va_A (wM cI cZ mq ma mg mh mF mE) sz) (wM cI cZ mq ma (sF mg 17 u.2.2) mh (sF mF 16 u.2.1) (sF mE 15 u.1)) t) (va_A (wM cI cZ mq ma mg mh mF mE) sz)) 0 0 (va_A (wM cI cZ mq ma mg mh mF mE) sz) := by
  refine Met.gov (cc := cX6_comeTo) (maxL := 4) (ret := none) (by decide) rfl (Nat.le_of_ble_eq_true rfl) (fun p e s m below meth c A ls X hW hl => ?_)
  have hi6 : ∀ w ∈ wsX60, w ∈ wsX6_comeTo := fun w h => List.mem_cons_of_mem _ (List.mem_append_right _ h)
  have hl : lv_has ls 4 [(0, .ref mq), (1, .int (nI fr)), (2, .int (nI a))] := hl
  refine x_aload_n X dX6_comeTo_0 rfl (lv_at hl 0 rfl) ?_
  refine x_callVi0 X hW (As := []) (rest := []) (c_X6_wayNow l D cI cZ cO mq ma mg mh mF mE _ (show (mg 2) ≤ 4 from (by first | assumption | omega)) (show ∀ z0, (mF 12) z0 ≤ 9 from (by first | assumption | omega))) (cwV 0 X.2.2.2.2.2.1 gX6_comeTo_X6_wayNow rfl rfl rfl (by decide +kernel) ⟨Nat.le_of_ble_eq_true rfl, Nat.le_of_ble_eq_true rfl⟩) 0 5 rfl rfl rfl rfl hl.1 rfl (Nat.le_of_ble_eq_true rfl) ⟨Nat.le_of_ble_eq_true rfl, Nat.le_of_ble_eq_true rfl⟩ dX6_comeTo_1 (fun r1 u2 H locs w1 hW => ?_)
  have hW : Wd D A s.heap H locs (wM cI cZ mq ma mg mh mF mE) := hW
  replace w1 : r1 = nI (wy ((mg 2)) ((mg 18)) ((mF 12))) := w1
  subst w1
  refine x_istore_n X [(3, .int (nI (wy ((mg 2)) ((mg 18)) ((mF 12))))), (0, .ref mq), (1, .int (nI fr)), (2, .int (nI a))] dX6_comeTo_4 rfl hl (by decide) rfl (fun ls hl => ?_)
  refine x_aload_n X dX6_comeTo_5 rfl (lv_at hl 1 rfl) ?_
  refine x_get X hW (v := .ref (ma 15)) hi6 0 rfl rfl 15 (by decide) (List.mem_of_getElem? (i := 1) rfl) rfl rfl dX6_comeTo_6 ?_
  refine x_iload_n X dX6_comeTo_9 rfl (lv_at hl 0 rfl) ?_
  refine i_iald X hW (f := mE 15) 8 0 rfl rfl (by omega) (by decide) dX6_comeTo_10 ?_
  refine x_bipush (v := (-9 : Int32)) X dX6_comeTo_11 (by decide) ?_
  refine x_icmp_ne X 48 dX6_comeTo_13 (by decide) (fun c13 => ?_) (fun c13 => ?_)
  · exact x_vret X hW rfl (mE 15, mF 16, mg 17) ((by first | exact AGR_add hag c13 hwy hfr ha | exact AGR_no hag c13 hwy)) rfl dX6_comeTo_48
  · have hz : b.2.2 (wy (mg 2) (mg 18) (mF 12)) = 0 := (encR_z (hag.2.2.2 _)).mp (by rw [← hag.1 _ hwy]; exact c13)
    have hq := hroom hz
    have hq2 := hag.2.2.1
    refine x_aload_n X dX6_comeTo_16 rfl (lv_at hl 1 rfl) ?_
    refine x_get X hW (v := .ref (ma 15)) hi6 0 rfl rfl 15 (by decide) (List.mem_of_getElem? (i := 1) rfl) rfl rfl dX6_comeTo_17 ?_
    refine x_iload_n X dX6_comeTo_20 rfl (lv_at hl 0 rfl) ?_
    refine x_bipush (v := nI 8) X dX6_comeTo_21 (by decide) ?_
    refine x_iload_n X dX6_comeTo_23 rfl (lv_at hl 2 rfl) ?_
    refine n_imul X dX6_comeTo_24 ?_
    refine x_iload_n X dX6_comeTo_25 rfl (lv_at hl 3 rfl) ?_
    refine n_iadd X dX6_comeTo_26 ?_
    refine i_iast X hW (f := mE 15) 8 0 rfl rfl (by omega) (by decide) dX6_comeTo_27 (wM cI cZ mq ma mg mh mF (sF mE 15 (sF (mE 15) (wy ((mg 2)) ((mg 18)) ((mF 12))) (nI ((8 * fr) + a))))) rfl (fun H locs hW => ?_)
    refine x_aload_n X dX6_comeTo_28 rfl (lv_at hl 1 rfl) ?_
    refine x_get X hW (v := .ref (ma 16)) hi6 0 rfl rfl 16 (by decide) (List.mem_of_getElem? (i := 2) rfl) rfl rfl dX6_comeTo_29 ?_
    refine x_aload_n X dX6_comeTo_32 rfl (lv_at hl 1 rfl) ?_
    refine x_get X hW (v := .int (nI (mg 17))) hi6 0 rfl rfl 17 (by decide) (List.mem_of_getElem? (i := 3) rfl) rfl rfl dX6_comeTo_33 ?_
    refine x_iload_n X dX6_comeTo_36 rfl (lv_at hl 0 rfl) ?_
    refine n_iast X hW (f := mF 16) 9 0 rfl rfl (by omega) (by decide) dX6_comeTo_37 (wM cI cZ mq ma mg mh (sF mF 16 (sF (mF 16) (mg 17) (wy ((mg 2)) ((mg 18)) ((mF 12))))) (sF mE 15 (sF (mE 15) (wy ((mg 2)) ((mg 18)) ((mF 12))) (nI ((8 * fr) + a))))) rfl (fun H locs hW => ?_)
    refine x_aload_n X dX6_comeTo_38 rfl (lv_at hl 1 rfl) ?_
    refine x_dup X dX6_comeTo_39 rfl ?_
    refine x_get X hW (v := .int (nI (mg 17))) hi6 0 rfl rfl 17 (by decide) (List.mem_of_getElem? (i := 3) rfl) rfl rfl dX6_comeTo_40 ?_
    refine x_iconst (v := nI 1) X dX6_comeTo_43 (by decide) ?_
    refine n_iadd X dX6_comeTo_44 ?_
    refine x_put X hW (v := .int (nI (mg 17 + 1))) hi6 tyX6 tyX6_ok nmX6 0 rfl rfl 17 (by decide) (List.mem_of_getElem? (i := 3) rfl) rfl rfl rfl rfl (Nat.le_of_ble_eq_true rfl) dX6_comeTo_45 (wM cI cZ mq ma (sF mg 17 (mg 17 + 1)) mh (sF mF 16 (sF (mF 16) (mg 17) (wy ((mg 2)) ((mg 18)) ((mF 12))))) (sF mE 15 (sF (mE 15) (wy ((mg 2)) ((mg 18)) ((mF 12))) (nI ((8 * fr) + a))))) rfl (fun H locs hW => ?_)
    exact x_vret X hW rfl (sF (mE 15) (wy ((mg 2)) ((mg 18)) ((mF 12))) (nI ((8 * fr) + a)), sF (mF 16) (mg 17) (wy ((mg 2)) ((mg 18)) ((mF 12))), mg 17 + 1) ((by first | exact AGR_add hag c13 hwy hfr ha | exact AGR_no hag c13 hwy)) rfl dX6_comeTo_48
set_option maxHeartbeats 4000000 in
set_option maxRecDepth 100000 in
theorem c_X6_keepRow (l : Launch) (D : va_G) (cI cZ cO : ClassId) (mq : Nat) (ma : Nat → Nat) (mg : Nat → Nat) (mh : Nat → Int32) (mF : Nat → Nat → Nat) (mE : Nat → Nat → Int32) (sz : Nat) (s0 : Nat) (w : Nat) (P : Nat → Nat) (k : Nat) (hk : k ≤ 40) (hs0 : s0 < 40000) (hP : ∀ z0, z0 < k → anc P z0 w ≠ s0 ∧ anc P z0 w < 40000 ∧ P (anc P z0 w) ≠ 0 ∧ P (anc P z0 w) ≤ 200000 ∧ mE 15 (anc P z0 w) = encR (P (anc P z0 w))) (he : anc P k w = s0) : Met l yX6_keepRow wsX6_keepRow ({ frames := 0, cells := 0, slots := 0, locals := 0 }) (va_Pc [.ref mq, .int (nI s0), .int (nI w)] (st_W D (ty3 cI cZ cO) (wM cI cZ mq ma mg mh mF mE) sz)) (va_Qv (fun (u : (Nat → Nat)) => ∀ z0, z0 < k → u z0 = (P (anc P z0 w) - 1) % 4) (fun u t => at_W D (ty3 cI cZ cO) (va_A (wM cI cZ mq ma mg mh mF mE) sz) (wM cI cZ mq ma (sF mg 20 k) mh (sF mF 19 u) mE) t) (va_A (wM cI cZ mq ma mg mh mF mE) sz)) 0 0 (va_A (wM cI cZ mq ma mg mh mF mE) sz) := by
  refine Met.gov (cc := cX6_keepRow) (maxL := 4) (ret := none) (by decide) rfl (Nat.le_of_ble_eq_true rfl) (fun p e s m below meth c A ls X hW hl => ?_)
  have hi6 : ∀ w ∈ wsX60, w ∈ wsX6_keepRow := fun w h => List.mem_cons_of_mem _ (List.mem_append_right _ h)
  have hl : lv_has ls 4 [(0, .ref mq), (1, .int (nI s0)), (2, .int (nI w))] := hl
  refine x_aload_n X dX6_keepRow_0 rfl (lv_at hl 0 rfl) ?_
  refine x_iconst (v := nI 0) X dX6_keepRow_1 (by decide) ?_
  refine x_put X hW (v := .int (nI 0)) hi6 tyX6 tyX6_ok nmX6 0 rfl rfl 20 (by decide) (List.mem_of_getElem? (i := 1) rfl) rfl rfl rfl rfl (Nat.le_of_ble_eq_true rfl) dX6_keepRow_2 (wM cI cZ mq ma (sF mg 20 0) mh mF mE) rfl (fun H locs hW => ?_)
  refine x_iload_n X dX6_keepRow_5 rfl (lv_at hl 2 rfl) ?_
  refine x_istore_n X [(3, .int (nI w)), (0, .ref mq), (1, .int (nI s0)), (2, .int (nI w))] dX6_keepRow_6 rfl hl (by decide) rfl (fun ls hl => ?_)
  refine W.loop (σ := (Nat) × (Nat → Nat)) (fun u H locs ls => (u.1 ≤ k ∧ ∀ z0, z0 < u.1 → u.2 z0 = (P (anc P z0 w) - 1) % 4) ∧ Wd D A s.heap H locs (wM cI cZ mq ma (sF mg 20 u.1) mh (sF mF 19 u.2) mE) ∧ lv_has ls 4 [(3, .int (nI (anc P u.1 w))), (0, .ref mq), (1, .int (nI s0)), (2, .int (nI w))]) (fun u => k - u.1) (fun u H locs ls hI ih => ?_) (0, (mF 19)) ⟨(show 0 ≤ k ∧ ∀ z0, z0 < 0 → (mF 19) z0 = (P (anc P z0 w) - 1) % 4 from ⟨Nat.zero_le _, fun z0 h => absurd h (Nat.not_lt_zero z0)⟩), hW, hl⟩
  obtain ⟨i, R⟩ := u
  obtain ⟨hv, hW, hl⟩ := hI
  have hv : i ≤ k ∧ ∀ z0, z0 < i → R z0 = (P (anc P z0 w) - 1) % 4 := hv
  have hW : Wd D A s.heap H locs (wM cI cZ mq ma (sF mg 20 i) mh (sF mF 19 R) mE) := hW
  have hl : lv_has ls 4 [(3, .int (nI (anc P i w))), (0, .ref mq), (1, .int (nI s0)), (2, .int (nI w))] := hl
  have ih7 := ih
  refine x_iload_n X dX6_keepRow_7 rfl (lv_at hl 0 rfl) ?_
  rcases Nat.lt_or_ge i k with hik | hik
  · obtain ⟨p1, p2, p3, p4, p5⟩ := hP i hik
    refine x_iload_n X dX6_keepRow_8 rfl (lv_at hl 2 rfl) ?_
    refine n_icmp_eq X 53 dX6_keepRow_9 (by decide) (by omega) (by omega) (fun c9 => by exact absurd c9 p1) (fun c9 => ?_)
    refine x_aload_n X dX6_keepRow_12 rfl (lv_at hl 1 rfl) ?_
    refine x_get X hW (v := .ref (ma 19)) hi6 0 rfl rfl 19 (by decide) (List.mem_of_getElem? (i := 2) rfl) rfl rfl dX6_keepRow_13 ?_
    refine x_aload_n X dX6_keepRow_16 rfl (lv_at hl 1 rfl) ?_
    refine x_get X hW (v := .int (nI i)) hi6 0 rfl rfl 20 (by decide) (List.mem_of_getElem? (i := 1) rfl) rfl rfl dX6_keepRow_17 ?_
    refine x_aload_n X dX6_keepRow_20 rfl (lv_at hl 1 rfl) ?_
    refine x_get X hW (v := .ref (ma 15)) hi6 0 rfl rfl 15 (by decide) (List.mem_of_getElem? (i := 3) rfl) rfl rfl dX6_keepRow_21 ?_
    refine x_iload_n X dX6_keepRow_24 rfl (lv_at hl 0 rfl) ?_
    refine i_iald X hW (f := mE 15) 8 0 rfl rfl (by omega) (by decide) dX6_keepRow_25 ?_
    refine i_as0 (b := nI (8 * ((P (anc P i w) - 1) / 4) + (P (anc P i w) - 1) % 4)) (by rw [p5, encR_y p3]) ?_
    refine x_bipush (v := nI 8) X dX6_keepRow_26 (by decide) ?_
    refine n_irem X dX6_keepRow_28 (by omega) (by omega) (by decide) ?_
    refine n_as0 (b := (P (anc P i w) - 1) % 4) (by omega) ?_
    refine n_iast X hW (f := R) 10 0 rfl rfl (by omega) (by decide) dX6_keepRow_29 (wM cI cZ mq ma (sF mg 20 i) mh (sF mF 19 (sF R i ((P (anc P i w) - 1) % 4))) mE) rfl (fun H locs hW => ?_)
    refine x_aload_n X dX6_keepRow_30 rfl (lv_at hl 1 rfl) ?_
    refine x_dup X dX6_keepRow_31 rfl ?_
    refine x_get X hW (v := .int (nI i)) hi6 0 rfl rfl 20 (by decide) (List.mem_of_getElem? (i := 1) rfl) rfl rfl dX6_keepRow_32 ?_
    refine x_iconst (v := nI 1) X dX6_keepRow_35 (by decide) ?_
    refine n_iadd X dX6_keepRow_36 ?_
    refine x_put X hW (v := .int (nI (i + 1))) hi6 tyX6 tyX6_ok nmX6 0 rfl rfl 20 (by decide) (List.mem_of_getElem? (i := 1) rfl) rfl rfl rfl rfl (Nat.le_of_ble_eq_true rfl) dX6_keepRow_37 (wM cI cZ mq ma (sF mg 20 (i + 1)) mh (sF mF 19 (sF R i ((P (anc P i w) - 1) % 4))) mE) rfl (fun H locs hW => ?_)
    refine x_aload_n X dX6_keepRow_40 rfl (lv_at hl 1 rfl) ?_
    refine x_get X hW (v := .ref (ma 15)) hi6 0 rfl rfl 15 (by decide) (List.mem_of_getElem? (i := 3) rfl) rfl rfl dX6_keepRow_41 ?_
    refine x_iload_n X dX6_keepRow_44 rfl (lv_at hl 0 rfl) ?_
    refine i_iald X hW (f := mE 15) 8 0 rfl rfl (by omega) (by decide) dX6_keepRow_45 ?_
    refine i_as0 (b := nI (8 * ((P (anc P i w) - 1) / 4) + (P (anc P i w) - 1) % 4)) (by rw [p5, encR_y p3]) ?_
    refine x_bipush (v := nI 8) X dX6_keepRow_46 (by decide) ?_
    refine n_idiv X dX6_keepRow_48 (by omega) (by omega) (by decide) ?_
    refine n_as0 (b := anc P (i + 1) w) (by show _ = (P (anc P i w) - 1) / 4; omega) ?_
    refine x_istore_n X [(3, .int (nI (anc P (i + 1) w))), (0, .ref mq), (1, .int (nI s0)), (2, .int (nI w))] dX6_keepRow_49 rfl hl (by decide) rfl (fun ls hl => ?_)
    refine x_goto X 7 dX6_keepRow_50 (by decide) ?_
    exact ih7 ((i + 1), (sF R i ((P (anc P i w) - 1) % 4))) _ _ _ ⟨(show (i + 1) ≤ k ∧ ∀ z0, z0 < (i + 1) → (sF R i ((P (anc P i w) - 1) % 4)) z0 = (P (anc P z0 w) - 1) % 4 from ⟨by omega, sF_c hv.2 rfl⟩), hW, lv_sub hl [0, 1, 2, 3] rfl⟩ (by dsimp only; omega)
  · have ei : i = k := by omega
    have he2 : anc P i w = s0 := by rw [ei]; exact he
    refine x_iload_n X dX6_keepRow_8 rfl (lv_at hl 2 rfl) ?_
    refine n_icmp_eq X 53 dX6_keepRow_9 (by decide) (by omega) (by omega) (fun c9 => ?_) (fun c9 => by exact absurd he2 c9)
    exact x_vret X hW rfl R ((by first | (intro z0 hz; exact hv.2 z0 (by omega)) | omega)) (congrArg (fun z => (wM cI cZ mq ma (sF mg 20 z) mh (sF mF 19 R) mE)) (show i = k from by omega)) dX6_keepRow_53
set_option maxHeartbeats 4000000 in
set_option maxRecDepth 100000 in
theorem c_X6_goOn (l : Launch) (D : va_G) (cI cZ cO : ClassId) (mq : Nat) (ma : Nat → Nat) (mg : Nat → Nat) (mh : Nat → Int32) (mF : Nat → Nat → Nat) (mE : Nat → Nat → Int32) (sz : Nat) (w : Nat) (b : BB) (hww : w < 40000) (hb : IB (mg 2) b) (hag : AGR b (mE 15) (mF 16) (mg 17)) (h2 : 2 ≤ mg 2) (hn : mg 2 ≤ 4) (hk : ∀ z0, mF 3 z0 ≤ 2) (hm : ∀ z0, mF 5 z0 ≤ 9) (hw : ∀ z0, mF 12 z0 ≤ 9) (hrn : mg 1 ≤ 3) : Met l yX6_goOn wsX6_goOn ({ frames := 3, cells := 0, slots := 0, locals := 64 }) (va_Pc [.ref mq, .int (nI w)] (st_W D (ty3 cI cZ cO) (wM cI cZ mq ma mg mh mF mE) sz)) (va_Qv (fun (u : (Nat → Int32) × (Nat → Nat) × (Nat) × (Nat → Nat) × (Nat)) => AGR (bRow (nxW (mg 2) (mg 1) (wnN (mg 2) (mF 3) (mF 5))) w (mg 2) b) u.1 u.2.1 u.2.2.1 ∧ ∀ z0, u.2.2.2.1 z0 ≤ 9) (fun u t => at_W D (ty3 cI cZ cO) (va_A (wM cI cZ mq ma mg mh mF mE) sz) (wM cI cZ mq ma (sF (sF mg 17 u.2.2.1) 18 u.2.2.2.2) mh (sF (sF mF 12 u.2.2.2.1) 16 u.2.1) (sF mE 15 u.1)) t) (va_A (wM cI cZ mq ma mg mh mF mE) sz)) 0 0 (va_A (wM cI cZ mq ma mg mh mF mE) sz) := by
  refine Met.gov (cc := cX6_goOn) (maxL := 4) (ret := none) (by decide) rfl (Nat.le_of_ble_eq_true rfl) (fun p e s m below meth c A ls X hW hl => ?_)
  have hi6 : ∀ w ∈ wsX60, w ∈ wsX6_goOn := fun w h => List.mem_cons_of_mem _ (List.mem_append_right _ h)
  have hl : lv_has ls 4 [(0, .ref mq), (1, .int (nI w))] := hl
  refine x_iconst (v := nI 0) X dX6_goOn_0 (by decide) ?_
  refine x_istore_n X [(2, .int (nI 0)), (0, .ref mq), (1, .int (nI w))] dX6_goOn_1 rfl hl (by decide) rfl (fun ls hl => ?_)
  refine W.loop (σ := (Nat) × (Nat → Int32) × (Nat → Nat) × (Nat) × (Nat → Nat) × (Nat)) (fun u H locs ls => (u.1 ≤ mg 2 ∧ AGR (bRow (nxW (mg 2) (mg 1) (wnN (mg 2) (mF 3) (mF 5))) w u.1 b) u.2.1 u.2.2.1 u.2.2.2.1 ∧ ∀ z0, u.2.2.2.2.1 z0 ≤ 9) ∧ Wd D A s.heap H locs (wM cI cZ mq ma (sF (sF mg 17 u.2.2.2.1) 18 u.2.2.2.2.2) mh (sF (sF mF 12 u.2.2.2.2.1) 16 u.2.2.1) (sF mE 15 u.2.1)) ∧ lv_has ls 4 [(2, .int (nI u.1)), (0, .ref mq), (1, .int (nI w))]) (fun u => mg 2 - u.1) (fun u H locs ls hI ih => ?_) (0, (mE 15), (mF 16), (mg 17), (mF 12), (mg 18)) ⟨(show 0 ≤ mg 2 ∧ AGR (bRow (nxW (mg 2) (mg 1) (wnN (mg 2) (mF 3) (mF 5))) w 0 b) (mE 15) (mF 16) (mg 17) ∧ ∀ z0, (mF 12) z0 ≤ 9 from ⟨Nat.zero_le _, hag, hw⟩), hW, hl⟩
  obtain ⟨a, EE, FF, tt, LL, bo⟩ := u
  obtain ⟨hv, hW, hl⟩ := hI
  have hv : a ≤ mg 2 ∧ AGR (bRow (nxW (mg 2) (mg 1) (wnN (mg 2) (mF 3) (mF 5))) w a b) EE FF tt ∧ ∀ z0, LL z0 ≤ 9 := hv
  have hW : Wd D A s.heap H locs (wM cI cZ mq ma (sF (sF mg 17 tt) 18 bo) mh (sF (sF mF 12 LL) 16 FF) (sF mE 15 EE)) := hW
  have hl : lv_has ls 4 [(2, .int (nI a)), (0, .ref mq), (1, .int (nI w))] := hl
  have ih2 := ih
  refine x_iload_n X dX6_goOn_2 rfl (lv_at hl 0 rfl) ?_
  refine x_aload_n X dX6_goOn_3 rfl (lv_at hl 1 rfl) ?_
  refine x_get X hW (v := .int (nI (mg 2))) hi6 0 rfl rfl 2 (by decide) (List.mem_of_getElem? (i := 1) rfl) rfl rfl dX6_goOn_4 ?_
  refine n_icmp_ge X 69 dX6_goOn_7 (by decide) (by omega) (by omega) (fun c7 => ?_) (fun c7 => ?_)
  · exact x_vret X hW rfl (EE, FF, tt, LL, bo) ((⟨by have q := hv.2.1; rw [show a = mg 2 by omega] at q; exact q, hv.2.2⟩)) rfl dX6_goOn_69
  · refine x_aload_n X dX6_goOn_10 rfl (lv_at hl 1 rfl) ?_
    refine x_iload_n X dX6_goOn_11 rfl (lv_at hl 2 rfl) ?_
    refine x_callVv0 X hW (As := [.int (nI w)]) (rest := []) (c_X6_goTo l D cI cZ cO mq ma (sF (sF mg 17 tt) 18 bo) mh (sF (sF mF 12 LL) 16 FF) (sF mE 15 EE) _ w (show w < 40000 from (by first | assumption | omega)) (show 2 ≤ (mg 2) from (by first | assumption | omega)) (show (mg 2) ≤ 4 from (by first | assumption | omega)) (show ∀ z0, LL z0 ≤ 9 from hv.2.2)) (cwV 1 X.2.2.2.2.2.1 gX6_goOn_X6_goTo rfl rfl rfl (by decide +kernel) ⟨Nat.le_of_ble_eq_true rfl, Nat.le_of_ble_eq_true rfl⟩) 0 5 rfl rfl rfl rfl hl.1 rfl (Nat.le_of_ble_eq_true rfl) ⟨Nat.le_of_ble_eq_true rfl, Nat.le_of_ble_eq_true rfl⟩ dX6_goOn_12 (fun u3 H locs w12 hW => ?_)
    obtain ⟨o1_1, o1_1e⟩ : ∃ z, z = u3 := ⟨_, rfl⟩
    subst o1_1e
    have hW : Wd D A s.heap H locs (wM cI cZ mq ma (sF (sF mg 17 tt) 18 (w / 10000)) mh (sF (sF mF 12 o1_1) 16 FF) (sF mE 15 EE)) := hW
    replace w12 : (∀ z0, z0 < (mg 2) → o1_1 z0 = dig w z0) ∧ ∀ z0, o1_1 z0 ≤ 9 := w12
    refine x_aload_n X dX6_goOn_15 rfl (lv_at hl 1 rfl) ?_
    refine x_get X hW (v := .int (nI (w / 10000))) hi6 0 rfl rfl 18 (by decide) (List.mem_of_getElem? (i := 2) rfl) rfl rfl dX6_goOn_16 ?_
    refine x_istore_n X [(3, .int (nI (w / 10000))), (2, .int (nI a)), (0, .ref mq), (1, .int (nI w))] dX6_goOn_19 rfl hl (by decide) rfl (fun ls hl => ?_)
    refine x_aload_n X dX6_goOn_20 rfl (lv_at hl 2 rfl) ?_
    refine x_iload_n X dX6_goOn_21 rfl (lv_at hl 1 rfl) ?_
    have hL := w12.1
    have hL9 := w12.2
    refine x_callVi0 X hW (As := [.int (nI a)]) (rest := []) (c_X6_does l D cI cZ cO mq ma (sF (sF mg 17 tt) 18 (w / 10000)) mh (sF (sF mF 12 o1_1) 16 FF) (sF mE 15 EE) _ a (show a < (mg 2) from (by omega)) (show 2 ≤ (mg 2) from (by first | assumption | omega)) (show (mg 2) ≤ 4 from (by first | assumption | omega)) (show ∀ z0, (mF 3) z0 ≤ 2 from (by first | assumption | omega)) (show ∀ z0, (mF 5) z0 ≤ 9 from (by first | assumption | omega)) (show ∀ z0, o1_1 z0 ≤ 9 from hL9) (show (mg 1) ≤ 3 from (by first | assumption | omega))) (cwV 1 X.2.2.2.2.2.1 gX6_goOn_X6_does rfl rfl rfl (by decide +kernel) ⟨Nat.le_of_ble_eq_true rfl, Nat.le_of_ble_eq_true rfl⟩) 0 5 rfl rfl rfl rfl hl.1 rfl (Nat.le_of_ble_eq_true rfl) ⟨Nat.le_of_ble_eq_true rfl, Nat.le_of_ble_eq_true rfl⟩ dX6_goOn_22 (fun r4 u5 H locs w22 hW => ?_)
    have hW : Wd D A s.heap H locs (wM cI cZ mq ma (sF (sF mg 17 tt) 18 (w / 10000)) mh (sF (sF mF 12 (actN ((mg 2)) ((mg 1)) ((mF 3)) ((mF 5)) (o1_1) a)) 16 FF) (sF mE 15 EE)) := hW
    replace w22 : (r4 = nI 1 ∧ (canN ((mg 2)) ((mF 3)) ((mF 5)) (o1_1) a) ∨ r4 = nI 0 ∧ ¬ (canN ((mg 2)) ((mF 3)) ((mF 5)) (o1_1) a)) := w22
    rcases w22 with ⟨w22, h22⟩ | ⟨w22, h22⟩
    · subst w22
      have hnx := nx_can (rn := mg 1) hm h2 hn (show a < mg 2 by omega) hL h22
      refine n_if_eq X 63 dX6_goOn_25 (by decide) (by decide) (fun c25 => by exact absurd c25 (by decide)) (fun c25 => ?_)
      refine x_aload_n X dX6_goOn_28 rfl (lv_at hl 2 rfl) ?_
      refine x_dup X dX6_goOn_29 rfl ?_
      refine x_get X hW (v := .int (nI (w / 10000))) hi6 0 rfl rfl 18 (by decide) (List.mem_of_getElem? (i := 2) rfl) rfl rfl dX6_goOn_30 ?_
      refine x_iload_n X dX6_goOn_33 rfl (lv_at hl 1 rfl) ?_
      refine x_aload_n X dX6_goOn_34 rfl (lv_at hl 2 rfl) ?_
      refine x_get X hW (v := .int (nI (mg 2))) hi6 0 rfl rfl 2 (by decide) (List.mem_of_getElem? (i := 1) rfl) rfl rfl dX6_goOn_35 ?_
      refine x_iconst (v := nI 1) X dX6_goOn_38 (by decide) ?_
      refine n_isub X dX6_goOn_39 (by omega) ?_
      refine n_icmp_ge X 52 dX6_goOn_40 (by decide) (by omega) (by omega) (fun c40 => ?_) (fun c40 => ?_)
      · refine x_iconst (v := nI 0) X dX6_goOn_52 (by decide) ?_
        refine n_iadd X dX6_goOn_53 ?_
        refine n_as0 (b := w / 10000 + (if a < mg 2 - 1 ∧ a = w / 10000 then 1 else 0)) (by first | rw [if_pos (by omega)] | rw [if_neg (by omega)]) ?_
        refine x_put X hW (v := .int (nI (w / 10000 + (if a < mg 2 - 1 ∧ a = w / 10000 then 1 else 0)))) hi6 tyX6 tyX6_ok nmX6 0 rfl rfl 18 (by decide) (List.mem_of_getElem? (i := 2) rfl) rfl rfl rfl rfl (Nat.le_of_ble_eq_true rfl) dX6_goOn_54 (wM cI cZ mq ma (sF (sF mg 17 tt) 18 (w / 10000 + (if a < mg 2 - 1 ∧ a = w / 10000 then 1 else 0))) mh (sF (sF mF 12 (actN ((mg 2)) ((mg 1)) ((mF 3)) ((mF 5)) (o1_1) a)) 16 FF) (sF mE 15 EE)) rfl (fun H locs hW => ?_)
        refine x_aload_n X dX6_goOn_57 rfl (lv_at hl 2 rfl) ?_
        refine x_iload_n X dX6_goOn_58 rfl (lv_at hl 3 rfl) ?_
        refine x_iload_n X dX6_goOn_59 rfl (lv_at hl 1 rfl) ?_
        have hib := IB_row (NX_W (rn := mg 1) (wn := wnN (mg 2) (mF 3) (mF 5)) hn) hww hb a (by omega)
        have hlt : wy (mg 2) (w / 10000 + (if a < mg 2 - 1 ∧ a = w / 10000 then 1 else 0)) (actN (mg 2) (mg 1) (mF 3) (mF 5) o1_1 a) < 40000 := (nxW_VS hn (by omega) hww hnx).1
        refine x_callVv0 X hW (As := [.int (nI w), .int (nI a)]) (rest := []) (c_X6_comeTo l D cI cZ cO mq ma (sF (sF mg 17 tt) 18 (w / 10000 + (if a < mg 2 - 1 ∧ a = w / 10000 then 1 else 0))) mh (sF (sF mF 12 (actN ((mg 2)) ((mg 1)) ((mF 3)) ((mF 5)) (o1_1) a)) 16 FF) (sF mE 15 EE) _ w a (bRow (nxW (mg 2) (mg 1) (wnN (mg 2) (mF 3) (mF 5))) w a b) (show w < 40000 from hww) (show a < 4 from (by omega)) (show wy ((mg 2)) ((w / 10000 + (if a < mg 2 - 1 ∧ a = w / 10000 then 1 else 0))) ((actN ((mg 2)) ((mg 1)) ((mF 3)) ((mF 5)) (o1_1) a)) < 40000 from hlt) (show AGR (bRow (nxW (mg 2) (mg 1) (wnN (mg 2) (mF 3) (mF 5))) w a b) (EE) (FF) (tt) from hv.2.1) (show (bRow (nxW (mg 2) (mg 1) (wnN (mg 2) (mF 3) (mF 5))) w a b).2.2 (wy ((mg 2)) ((w / 10000 + (if a < mg 2 - 1 ∧ a = w / 10000 then 1 else 0))) ((actN ((mg 2)) ((mg 1)) ((mF 3)) ((mF 5)) (o1_1) a))) = 0 → (bRow (nxW (mg 2) (mg 1) (wnN (mg 2) (mF 3) (mF 5))) w a b).2.1 < 40000 from (fun q => IB_room hib q hlt)) (show (mg 2) ≤ 4 from (by first | assumption | omega)) (show ∀ z0, (actN ((mg 2)) ((mg 1)) ((mF 3)) ((mF 5)) (o1_1) a) z0 ≤ 9 from (actN_le hL9 hm))) (cwV 2 X.2.2.2.2.2.1 gX6_goOn_X6_comeTo rfl rfl rfl (by decide +kernel) ⟨Nat.le_of_ble_eq_true rfl, Nat.le_of_ble_eq_true rfl⟩) 0 5 rfl rfl rfl rfl hl.1 rfl (Nat.le_of_ble_eq_true rfl) ⟨Nat.le_of_ble_eq_true rfl, Nat.le_of_ble_eq_true rfl⟩ dX6_goOn_60 (fun u10 H locs w60 hW => ?_)
        obtain ⟨o1_6, o2_7, o3_8⟩ := u10
        have hW : Wd D A s.heap H locs (wM cI cZ mq ma (sF (sF mg 17 o3_8) 18 (w / 10000 + (if a < mg 2 - 1 ∧ a = w / 10000 then 1 else 0))) mh (sF (sF mF 12 (actN ((mg 2)) ((mg 1)) ((mF 3)) ((mF 5)) (o1_1) a)) 16 o2_7) (sF mE 15 o1_6)) := hW
        replace w60 : AGR (bAdd (bRow (nxW (mg 2) (mg 1) (wnN (mg 2) (mF 3) (mF 5))) w a b) w a (wy ((mg 2)) ((w / 10000 + (if a < mg 2 - 1 ∧ a = w / 10000 then 1 else 0))) ((actN ((mg 2)) ((mg 1)) ((mF 3)) ((mF 5)) (o1_1) a)))) o1_6 o2_7 o3_8 := w60
        refine x_iinc X [(2, .int (nI (a + 1))), (3, .int (nI (w / 10000))), (0, .ref mq), (1, .int (nI w))] (k := 1) dX6_goOn_63 hl rfl (nI_inc1 a) (by decide) rfl (fun ls hl => ?_)
        refine x_goto X 2 dX6_goOn_66 (by decide) ?_
        exact ih2 ((a + 1), o1_6, o2_7, o3_8, (actN ((mg 2)) ((mg 1)) ((mF 3)) ((mF 5)) (o1_1) a), (w / 10000 + (if a < mg 2 - 1 ∧ a = w / 10000 then 1 else 0))) _ _ _ ⟨(show (a + 1) ≤ mg 2 ∧ AGR (bRow (nxW (mg 2) (mg 1) (wnN (mg 2) (mF 3) (mF 5))) w (a + 1) b) o1_6 o2_7 o3_8 ∧ ∀ z0, (actN ((mg 2)) ((mg 1)) ((mF 3)) ((mF 5)) (o1_1) a) z0 ≤ 9 from ⟨by omega, by rw [row_some hnx]; exact w60, actN_le hL9 hm⟩), hW, lv_sub hl [0, 2, 3] rfl⟩ (by dsimp only; omega)
      · refine x_iload_n X dX6_goOn_43 rfl (lv_at hl 1 rfl) ?_
        refine x_iload_n X dX6_goOn_44 rfl (lv_at hl 0 rfl) ?_
        refine n_icmp_ne X 52 dX6_goOn_45 (by decide) (by omega) (by omega) (fun c45 => ?_) (fun c45 => ?_)
        · refine x_iconst (v := nI 0) X dX6_goOn_52 (by decide) ?_
          refine n_iadd X dX6_goOn_53 ?_
          refine n_as0 (b := w / 10000 + (if a < mg 2 - 1 ∧ a = w / 10000 then 1 else 0)) (by first | rw [if_pos (by omega)] | rw [if_neg (by omega)]) ?_
          refine x_put X hW (v := .int (nI (w / 10000 + (if a < mg 2 - 1 ∧ a = w / 10000 then 1 else 0)))) hi6 tyX6 tyX6_ok nmX6 0 rfl rfl 18 (by decide) (List.mem_of_getElem? (i := 2) rfl) rfl rfl rfl rfl (Nat.le_of_ble_eq_true rfl) dX6_goOn_54 (wM cI cZ mq ma (sF (sF mg 17 tt) 18 (w / 10000 + (if a < mg 2 - 1 ∧ a = w / 10000 then 1 else 0))) mh (sF (sF mF 12 (actN ((mg 2)) ((mg 1)) ((mF 3)) ((mF 5)) (o1_1) a)) 16 FF) (sF mE 15 EE)) rfl (fun H locs hW => ?_)
          refine x_aload_n X dX6_goOn_57 rfl (lv_at hl 2 rfl) ?_
          refine x_iload_n X dX6_goOn_58 rfl (lv_at hl 3 rfl) ?_
          refine x_iload_n X dX6_goOn_59 rfl (lv_at hl 1 rfl) ?_
          have hib := IB_row (NX_W (rn := mg 1) (wn := wnN (mg 2) (mF 3) (mF 5)) hn) hww hb a (by omega)
          have hlt : wy (mg 2) (w / 10000 + (if a < mg 2 - 1 ∧ a = w / 10000 then 1 else 0)) (actN (mg 2) (mg 1) (mF 3) (mF 5) o1_1 a) < 40000 := (nxW_VS hn (by omega) hww hnx).1
          refine x_callVv0 X hW (As := [.int (nI w), .int (nI a)]) (rest := []) (c_X6_comeTo l D cI cZ cO mq ma (sF (sF mg 17 tt) 18 (w / 10000 + (if a < mg 2 - 1 ∧ a = w / 10000 then 1 else 0))) mh (sF (sF mF 12 (actN ((mg 2)) ((mg 1)) ((mF 3)) ((mF 5)) (o1_1) a)) 16 FF) (sF mE 15 EE) _ w a (bRow (nxW (mg 2) (mg 1) (wnN (mg 2) (mF 3) (mF 5))) w a b) (show w < 40000 from hww) (show a < 4 from (by omega)) (show wy ((mg 2)) ((w / 10000 + (if a < mg 2 - 1 ∧ a = w / 10000 then 1 else 0))) ((actN ((mg 2)) ((mg 1)) ((mF 3)) ((mF 5)) (o1_1) a)) < 40000 from hlt) (show AGR (bRow (nxW (mg 2) (mg 1) (wnN (mg 2) (mF 3) (mF 5))) w a b) (EE) (FF) (tt) from hv.2.1) (show (bRow (nxW (mg 2) (mg 1) (wnN (mg 2) (mF 3) (mF 5))) w a b).2.2 (wy ((mg 2)) ((w / 10000 + (if a < mg 2 - 1 ∧ a = w / 10000 then 1 else 0))) ((actN ((mg 2)) ((mg 1)) ((mF 3)) ((mF 5)) (o1_1) a))) = 0 → (bRow (nxW (mg 2) (mg 1) (wnN (mg 2) (mF 3) (mF 5))) w a b).2.1 < 40000 from (fun q => IB_room hib q hlt)) (show (mg 2) ≤ 4 from (by first | assumption | omega)) (show ∀ z0, (actN ((mg 2)) ((mg 1)) ((mF 3)) ((mF 5)) (o1_1) a) z0 ≤ 9 from (actN_le hL9 hm))) (cwV 2 X.2.2.2.2.2.1 gX6_goOn_X6_comeTo rfl rfl rfl (by decide +kernel) ⟨Nat.le_of_ble_eq_true rfl, Nat.le_of_ble_eq_true rfl⟩) 0 5 rfl rfl rfl rfl hl.1 rfl (Nat.le_of_ble_eq_true rfl) ⟨Nat.le_of_ble_eq_true rfl, Nat.le_of_ble_eq_true rfl⟩ dX6_goOn_60 (fun u15 H locs w60 hW => ?_)
          obtain ⟨o1_11, o2_12, o3_13⟩ := u15
          have hW : Wd D A s.heap H locs (wM cI cZ mq ma (sF (sF mg 17 o3_13) 18 (w / 10000 + (if a < mg 2 - 1 ∧ a = w / 10000 then 1 else 0))) mh (sF (sF mF 12 (actN ((mg 2)) ((mg 1)) ((mF 3)) ((mF 5)) (o1_1) a)) 16 o2_12) (sF mE 15 o1_11)) := hW
          replace w60 : AGR (bAdd (bRow (nxW (mg 2) (mg 1) (wnN (mg 2) (mF 3) (mF 5))) w a b) w a (wy ((mg 2)) ((w / 10000 + (if a < mg 2 - 1 ∧ a = w / 10000 then 1 else 0))) ((actN ((mg 2)) ((mg 1)) ((mF 3)) ((mF 5)) (o1_1) a)))) o1_11 o2_12 o3_13 := w60
          refine x_iinc X [(2, .int (nI (a + 1))), (3, .int (nI (w / 10000))), (0, .ref mq), (1, .int (nI w))] (k := 1) dX6_goOn_63 hl rfl (nI_inc1 a) (by decide) rfl (fun ls hl => ?_)
          refine x_goto X 2 dX6_goOn_66 (by decide) ?_
          exact ih2 ((a + 1), o1_11, o2_12, o3_13, (actN ((mg 2)) ((mg 1)) ((mF 3)) ((mF 5)) (o1_1) a), (w / 10000 + (if a < mg 2 - 1 ∧ a = w / 10000 then 1 else 0))) _ _ _ ⟨(show (a + 1) ≤ mg 2 ∧ AGR (bRow (nxW (mg 2) (mg 1) (wnN (mg 2) (mF 3) (mF 5))) w (a + 1) b) o1_11 o2_12 o3_13 ∧ ∀ z0, (actN ((mg 2)) ((mg 1)) ((mF 3)) ((mF 5)) (o1_1) a) z0 ≤ 9 from ⟨by omega, by rw [row_some hnx]; exact w60, actN_le hL9 hm⟩), hW, lv_sub hl [0, 2, 3] rfl⟩ (by dsimp only; omega)
        · refine x_iconst (v := nI 1) X dX6_goOn_48 (by decide) ?_
          refine x_goto X 53 dX6_goOn_49 (by decide) ?_
          refine n_iadd X dX6_goOn_53 ?_
          refine n_as0 (b := w / 10000 + (if a < mg 2 - 1 ∧ a = w / 10000 then 1 else 0)) (by first | rw [if_pos (by omega)] | rw [if_neg (by omega)]) ?_
          refine x_put X hW (v := .int (nI (w / 10000 + (if a < mg 2 - 1 ∧ a = w / 10000 then 1 else 0)))) hi6 tyX6 tyX6_ok nmX6 0 rfl rfl 18 (by decide) (List.mem_of_getElem? (i := 2) rfl) rfl rfl rfl rfl (Nat.le_of_ble_eq_true rfl) dX6_goOn_54 (wM cI cZ mq ma (sF (sF mg 17 tt) 18 (w / 10000 + (if a < mg 2 - 1 ∧ a = w / 10000 then 1 else 0))) mh (sF (sF mF 12 (actN ((mg 2)) ((mg 1)) ((mF 3)) ((mF 5)) (o1_1) a)) 16 FF) (sF mE 15 EE)) rfl (fun H locs hW => ?_)
          refine x_aload_n X dX6_goOn_57 rfl (lv_at hl 2 rfl) ?_
          refine x_iload_n X dX6_goOn_58 rfl (lv_at hl 3 rfl) ?_
          refine x_iload_n X dX6_goOn_59 rfl (lv_at hl 1 rfl) ?_
          have hib := IB_row (NX_W (rn := mg 1) (wn := wnN (mg 2) (mF 3) (mF 5)) hn) hww hb a (by omega)
          have hlt : wy (mg 2) (w / 10000 + (if a < mg 2 - 1 ∧ a = w / 10000 then 1 else 0)) (actN (mg 2) (mg 1) (mF 3) (mF 5) o1_1 a) < 40000 := (nxW_VS hn (by omega) hww hnx).1
          refine x_callVv0 X hW (As := [.int (nI w), .int (nI a)]) (rest := []) (c_X6_comeTo l D cI cZ cO mq ma (sF (sF mg 17 tt) 18 (w / 10000 + (if a < mg 2 - 1 ∧ a = w / 10000 then 1 else 0))) mh (sF (sF mF 12 (actN ((mg 2)) ((mg 1)) ((mF 3)) ((mF 5)) (o1_1) a)) 16 FF) (sF mE 15 EE) _ w a (bRow (nxW (mg 2) (mg 1) (wnN (mg 2) (mF 3) (mF 5))) w a b) (show w < 40000 from hww) (show a < 4 from (by omega)) (show wy ((mg 2)) ((w / 10000 + (if a < mg 2 - 1 ∧ a = w / 10000 then 1 else 0))) ((actN ((mg 2)) ((mg 1)) ((mF 3)) ((mF 5)) (o1_1) a)) < 40000 from hlt) (show AGR (bRow (nxW (mg 2) (mg 1) (wnN (mg 2) (mF 3) (mF 5))) w a b) (EE) (FF) (tt) from hv.2.1) (show (bRow (nxW (mg 2) (mg 1) (wnN (mg 2) (mF 3) (mF 5))) w a b).2.2 (wy ((mg 2)) ((w / 10000 + (if a < mg 2 - 1 ∧ a = w / 10000 then 1 else 0))) ((actN ((mg 2)) ((mg 1)) ((mF 3)) ((mF 5)) (o1_1) a))) = 0 → (bRow (nxW (mg 2) (mg 1) (wnN (mg 2) (mF 3) (mF 5))) w a b).2.1 < 40000 from (fun q => IB_room hib q hlt)) (show (mg 2) ≤ 4 from (by first | assumption | omega)) (show ∀ z0, (actN ((mg 2)) ((mg 1)) ((mF 3)) ((mF 5)) (o1_1) a) z0 ≤ 9 from (actN_le hL9 hm))) (cwV 2 X.2.2.2.2.2.1 gX6_goOn_X6_comeTo rfl rfl rfl (by decide +kernel) ⟨Nat.le_of_ble_eq_true rfl, Nat.le_of_ble_eq_true rfl⟩) 0 5 rfl rfl rfl rfl hl.1 rfl (Nat.le_of_ble_eq_true rfl) ⟨Nat.le_of_ble_eq_true rfl, Nat.le_of_ble_eq_true rfl⟩ dX6_goOn_60 (fun u20 H locs w60 hW => ?_)
          obtain ⟨o1_16, o2_17, o3_18⟩ := u20
          have hW : Wd D A s.heap H locs (wM cI cZ mq ma (sF (sF mg 17 o3_18) 18 (w / 10000 + (if a < mg 2 - 1 ∧ a = w / 10000 then 1 else 0))) mh (sF (sF mF 12 (actN ((mg 2)) ((mg 1)) ((mF 3)) ((mF 5)) (o1_1) a)) 16 o2_17) (sF mE 15 o1_16)) := hW
          replace w60 : AGR (bAdd (bRow (nxW (mg 2) (mg 1) (wnN (mg 2) (mF 3) (mF 5))) w a b) w a (wy ((mg 2)) ((w / 10000 + (if a < mg 2 - 1 ∧ a = w / 10000 then 1 else 0))) ((actN ((mg 2)) ((mg 1)) ((mF 3)) ((mF 5)) (o1_1) a)))) o1_16 o2_17 o3_18 := w60
          refine x_iinc X [(2, .int (nI (a + 1))), (3, .int (nI (w / 10000))), (0, .ref mq), (1, .int (nI w))] (k := 1) dX6_goOn_63 hl rfl (nI_inc1 a) (by decide) rfl (fun ls hl => ?_)
          refine x_goto X 2 dX6_goOn_66 (by decide) ?_
          exact ih2 ((a + 1), o1_16, o2_17, o3_18, (actN ((mg 2)) ((mg 1)) ((mF 3)) ((mF 5)) (o1_1) a), (w / 10000 + (if a < mg 2 - 1 ∧ a = w / 10000 then 1 else 0))) _ _ _ ⟨(show (a + 1) ≤ mg 2 ∧ AGR (bRow (nxW (mg 2) (mg 1) (wnN (mg 2) (mF 3) (mF 5))) w (a + 1) b) o1_16 o2_17 o3_18 ∧ ∀ z0, (actN ((mg 2)) ((mg 1)) ((mF 3)) ((mF 5)) (o1_1) a) z0 ≤ 9 from ⟨by omega, by rw [row_some hnx]; exact w60, actN_le hL9 hm⟩), hW, lv_sub hl [0, 2, 3] rfl⟩ (by dsimp only; omega)
    · subst w22
      have hnx := nx_no (rn := mg 1) hm hn (show a < mg 2 by omega) hL h22
      refine n_if_eq X 63 dX6_goOn_25 (by decide) (by decide) (fun c25 => ?_) (fun c25 => by exact absurd c25 (by decide))
      refine x_iinc X [(2, .int (nI (a + 1))), (3, .int (nI (w / 10000))), (0, .ref mq), (1, .int (nI w))] (k := 1) dX6_goOn_63 hl rfl (nI_inc1 a) (by decide) rfl (fun ls hl => ?_)
      refine x_goto X 2 dX6_goOn_66 (by decide) ?_
      exact ih2 ((a + 1), EE, FF, tt, (actN ((mg 2)) ((mg 1)) ((mF 3)) ((mF 5)) (o1_1) a), (w / 10000)) _ _ _ ⟨(show (a + 1) ≤ mg 2 ∧ AGR (bRow (nxW (mg 2) (mg 1) (wnN (mg 2) (mF 3) (mF 5))) w (a + 1) b) EE FF tt ∧ ∀ z0, (actN ((mg 2)) ((mg 1)) ((mF 3)) ((mF 5)) (o1_1) a) z0 ≤ 9 from ⟨by omega, by rw [row_none hnx]; exact hv.2.1, actN_le hL9 hm⟩), hW, lv_sub hl [0, 2, 3] rfl⟩ (by dsimp only; omega)
set_option maxHeartbeats 4000000 in
set_option maxRecDepth 100000 in
theorem c_X6_fewest (l : Launch) (D : va_G) (cI cZ cO : ClassId) (mq : Nat) (ma : Nat → Nat) (mg : Nat → Nat) (mh : Nat → Int32) (mF : Nat → Nat → Nat) (mE : Nat → Nat → Int32) (sz : Nat) (bt : Nat) (r : Nat) (v : Int32)  (hbt : bt < 4) (hr : r < mg 2) (hlv : ∀ z0, mF 4 z0 ≤ 9) (h2 : 2 ≤ mg 2) (hn : mg 2 ≤ 4) (hk : ∀ z0, mF 3 z0 ≤ 2) (hm : ∀ z0, mF 5 z0 ≤ 9) (hw : ∀ z0, mF 12 z0 ≤ 9) (hrn : mg 1 ≤ 3) : Met l yX6_fewest wsX6_fewest ({ frames := 4, cells := 0, slots := 0, locals := 87 }) (va_Pc [.ref mq, .int (nI bt), .int (nI r), .int v] (st_W D (ty3 cI cZ cO) (wM cI cZ mq ma mg mh mF mE) sz)) (va_Qi (fun (rr : Int32) (u : (Nat → Int32) × (Nat → Nat) × (Nat) × (Nat → Nat) × (Nat) × (Nat → Nat) × (Nat)) => ((∃ z0 z1, Fnd (nxW (mg 2) (mg 1) (wnN (mg 2) (mF 3) (mF 5))) (mg 2) (wy (mg 2) bt (mF 4)) (GW r v) z0 z1 ∧ rr = nI z0 ∧ ∀ z2, z2 < z0 → u.2.2.2.2.2.1 z2 = acOf (nxW (mg 2) (mg 1) (wnN (mg 2) (mF 3) (mF 5))) (mg 2) (wy (mg 2) bt (mF 4)) z1 z2) ∨ (Non (nxW (mg 2) (mg 1) (wnN (mg 2) (mF 3) (mF 5))) (mg 2) (wy (mg 2) bt (mF 4)) (GW r v) ∧ rr = (-9))) ∧ ∀ z0, u.2.2.2.1 z0 ≤ 9) (fun u t => at_W D (ty3 cI cZ cO) (va_A (wM cI cZ mq ma mg mh mF mE) sz) (wM cI cZ mq ma (sF (sF (sF mg 17 u.2.2.1) 18 u.2.2.2.2.1) 20 u.2.2.2.2.2.2) mh (sF (sF (sF mF 12 u.2.2.2.1) 16 u.2.1) 19 u.2.2.2.2.2.1) (sF mE 15 u.1)) t) (va_A (wM cI cZ mq ma mg mh mF mE) sz)) 0 0 (va_A (wM cI cZ mq ma mg mh mF mE) sz) := by
  refine Met.goi (cc := cX6_fewest) (maxL := 9) (ret := (some .int)) (by decide) rfl (Nat.le_of_ble_eq_true rfl) (fun p e s m below meth c A ls X hW hl => ?_)
  have hi6 : ∀ w ∈ wsX60, w ∈ wsX6_fewest := fun w h => List.mem_cons_of_mem _ (List.mem_append_right _ h)
  have hl : lv_has ls 9 [(0, .ref mq), (1, .int (nI bt)), (2, .int (nI r)), (3, .int v)] := hl
  have hs0 : VS (mg 2) (wy (mg 2) bt (mF 4)) := VS_wy (fun i _ => hlv i) hbt
  have hnx : NX (mg 2) (mg 2) (nxW (mg 2) (mg 1) (wnN (mg 2) (mF 3) (mF 5))) := NX_W hn
  refine x_iconst (v := nI 0) X dX6_fewest_0 (by decide) ?_
  refine x_istore X [(4, .int (nI 0)), (0, .ref mq), (1, .int (nI bt)), (2, .int (nI r)), (3, .int v)] dX6_fewest_1 hl (by decide) rfl (fun ls hl => ?_)
  refine W.loop (σ := (Nat)) (fun u H locs ls => (u ≤ 40000) ∧ Wd D A s.heap H locs (wM cI cZ mq ma mg mh mF (sF mE 15 (flE u (mE 15)))) ∧ lv_has ls 9 [(4, .int (nI u)), (0, .ref mq), (1, .int (nI bt)), (2, .int (nI r)), (3, .int v)]) (fun u => 40000 - u) (fun u H locs ls hI ih => ?_) 0 ⟨(show 0 ≤ 40000 from (by omega)), (hW.eq (congrArg (fun z => (wM cI cZ mq ma mg mh mF (sF mE 15 z))) (show (mE 15) = (flE 0 (mE 15)) from by first | rw [flE_s] | rw [flE_0]))), hl⟩
  obtain ⟨x, xe⟩ : ∃ z, z = u := ⟨_, rfl⟩
  subst xe
  obtain ⟨hv, hW, hl⟩ := hI
  have hv : x ≤ 40000 := hv
  have hW : Wd D A s.heap H locs (wM cI cZ mq ma mg mh mF (sF mE 15 (flE x (mE 15)))) := hW
  have hl : lv_has ls 9 [(4, .int (nI x)), (0, .ref mq), (1, .int (nI bt)), (2, .int (nI r)), (3, .int v)] := hl
  have ih3 := ih
  refine x_iload X dX6_fewest_3 (lv_at hl 0 rfl) ?_
  refine x_ldc (v := (40000)) X (List.mem_of_getElem? (i := 1) rfl) dX6_fewest_5 ?_
  refine i_as0 (b := nI 40000) (by decide) ?_
  refine n_icmp_ge X 25 dX6_fewest_7 (by decide) (by omega) (by decide) (fun c7 => ?_) (fun c7 => ?_)
  · have ex : x = 40000 := by omega
    subst ex
    refine x_aload_n X dX6_fewest_25 rfl (lv_at hl 1 rfl) ?_
    refine x_callVv0 X hW (As := []) (rest := []) (c_X6_begin l D cI cZ cO mq ma mg mh mF (sF mE 15 (flE 40000 (mE 15))) _ (show (mg 2) ≤ 4 from (by first | assumption | omega))) (cwV 0 X.2.2.2.2.2.1 gX6_fewest_X6_begin rfl rfl rfl (by decide +kernel) ⟨Nat.le_of_ble_eq_true rfl, Nat.le_of_ble_eq_true rfl⟩) 0 5 rfl rfl rfl rfl hl.1 rfl (Nat.le_of_ble_eq_true rfl) ⟨Nat.le_of_ble_eq_true rfl, Nat.le_of_ble_eq_true rfl⟩ dX6_fewest_26 (fun u2 H locs w26 hW => ?_)
    have hW : Wd D A s.heap H locs (wM cI cZ mq ma mg mh (sF mF 12 (cpN ((mg 2)) ((mF 4)) ((mF 12)))) (sF mE 15 (flE 40000 (mE 15)))) := hW
    replace w26 : True := w26
    have w26x : ∀ z0, cpN (mg 2) (mF 4) (mF 12) z0 ≤ 9 := cpN_le hlv hw
    refine x_aload_n X dX6_fewest_29 rfl (lv_at hl 1 rfl) ?_
    refine x_iload_n X dX6_fewest_30 rfl (lv_at hl 2 rfl) ?_
    refine x_put X hW (v := .int (nI bt)) hi6 tyX6 tyX6_ok nmX6 0 rfl rfl 18 (by decide) (List.mem_of_getElem? (i := 3) rfl) rfl rfl rfl rfl (Nat.le_of_ble_eq_true rfl) dX6_fewest_31 (wM cI cZ mq ma (sF mg 18 bt) mh (sF mF 12 (cpN ((mg 2)) ((mF 4)) ((mF 12)))) (sF mE 15 (flE 40000 (mE 15)))) rfl (fun H locs hW => ?_)
    refine x_aload_n X dX6_fewest_34 rfl (lv_at hl 1 rfl) ?_
    refine x_iconst (v := nI 0) X dX6_fewest_35 (by decide) ?_
    refine x_put X hW (v := .int (nI 0)) hi6 tyX6 tyX6_ok nmX6 0 rfl rfl 17 (by decide) (List.mem_of_getElem? (i := 4) rfl) rfl rfl rfl rfl (Nat.le_of_ble_eq_true rfl) dX6_fewest_36 (wM cI cZ mq ma (sF (sF mg 17 0) 18 bt) mh (sF mF 12 (cpN ((mg 2)) ((mF 4)) ((mF 12)))) (sF mE 15 (flE 40000 (mE 15)))) rfl (fun H locs hW => ?_)
    refine x_aload_n X dX6_fewest_39 rfl (lv_at hl 1 rfl) ?_
    refine x_callVi0 X hW (As := []) (rest := []) (c_X6_wayNow l D cI cZ cO mq ma (sF (sF mg 17 0) 18 bt) mh (sF mF 12 (cpN ((mg 2)) ((mF 4)) ((mF 12)))) (sF mE 15 (flE 40000 (mE 15))) _ (show (mg 2) ≤ 4 from (by first | assumption | omega)) (show ∀ z0, (cpN ((mg 2)) ((mF 4)) ((mF 12))) z0 ≤ 9 from w26x)) (cwV 0 X.2.2.2.2.2.1 gX6_fewest_X6_wayNow rfl rfl rfl (by decide +kernel) ⟨Nat.le_of_ble_eq_true rfl, Nat.le_of_ble_eq_true rfl⟩) 0 5 rfl rfl rfl rfl hl.1 rfl (Nat.le_of_ble_eq_true rfl) ⟨Nat.le_of_ble_eq_true rfl, Nat.le_of_ble_eq_true rfl⟩ dX6_fewest_40 (fun r3 u4 H locs w40 hW => ?_)
    have hW : Wd D A s.heap H locs (wM cI cZ mq ma (sF (sF mg 17 0) 18 bt) mh (sF mF 12 (cpN ((mg 2)) ((mF 4)) ((mF 12)))) (sF mE 15 (flE 40000 (mE 15)))) := hW
    replace w40 : r3 = nI (wy ((mg 2)) (bt) ((cpN ((mg 2)) ((mF 4)) ((mF 12))))) := w40
    subst w40
    have hwe : wy (mg 2) bt (cpN (mg 2) (mF 4) (mF 12)) = (wy (mg 2) bt (mF 4)) := wy_cg (fun i hi => cpN_in hi)
    refine n_as0 (b := wy (mg 2) bt (mF 4)) hwe ?_
    refine x_istore X [(4, .int (nI (wy (mg 2) bt (mF 4)))), (0, .ref mq), (1, .int (nI bt)), (2, .int (nI r)), (3, .int v)] dX6_fewest_43 hl (by decide) rfl (fun ls hl => ?_)
    refine x_aload_n X dX6_fewest_45 rfl (lv_at hl 1 rfl) ?_
    refine x_iload X dX6_fewest_46 (lv_at hl 0 rfl) ?_
    refine x_iconst (v := nI 0) X dX6_fewest_48 (by decide) ?_
    refine x_callVv0 X hW (As := [.int (nI (wy (mg 2) bt (mF 4))), .int (nI 0)]) (rest := []) (c_X6_comeTo l D cI cZ cO mq ma (sF (sF mg 17 0) 18 bt) mh (sF mF 12 (cpN ((mg 2)) ((mF 4)) ((mF 12)))) (sF mE 15 (flE 40000 (mE 15))) _ (wy (mg 2) bt (mF 4)) 0 (fun _ => 0, 0, fun _ => 0) (show (wy (mg 2) bt (mF 4)) < 40000 from hs0.1) (show 0 < 4 from (by omega)) (show wy ((mg 2)) (bt) ((cpN ((mg 2)) ((mF 4)) ((mF 12)))) < 40000 from (by rw [hwe]; exact hs0.1)) (show AGR (fun _ => 0, 0, fun _ => 0) ((flE 40000 (mE 15))) ((mF 16)) (0) from AGR_0) (show (fun _ => 0, 0, fun _ => 0).2.2 (wy ((mg 2)) (bt) ((cpN ((mg 2)) ((mF 4)) ((mF 12))))) = 0 → (fun _ => 0, 0, fun _ => 0).2.1 < 40000 from (fun _ => (by decide : (0 : Nat) < 40000))) (show (mg 2) ≤ 4 from (by first | assumption | omega)) (show ∀ z0, (cpN ((mg 2)) ((mF 4)) ((mF 12))) z0 ≤ 9 from w26x)) (cwV 2 X.2.2.2.2.2.1 gX6_fewest_X6_comeTo rfl rfl rfl (by decide +kernel) ⟨Nat.le_of_ble_eq_true rfl, Nat.le_of_ble_eq_true rfl⟩) 0 5 rfl rfl rfl rfl hl.1 rfl (Nat.le_of_ble_eq_true rfl) ⟨Nat.le_of_ble_eq_true rfl, Nat.le_of_ble_eq_true rfl⟩ dX6_fewest_49 (fun u9 H locs w49 hW => ?_)
    obtain ⟨o1_5, o2_6, o3_7⟩ := u9
    have hW : Wd D A s.heap H locs (wM cI cZ mq ma (sF (sF mg 17 o3_7) 18 bt) mh (sF (sF mF 12 (cpN ((mg 2)) ((mF 4)) ((mF 12)))) 16 o2_6) (sF mE 15 o1_5)) := hW
    replace w49 : AGR (bAdd (fun _ => 0, 0, fun _ => 0) (wy (mg 2) bt (mF 4)) 0 (wy ((mg 2)) (bt) ((cpN ((mg 2)) ((mF 4)) ((mF 12)))))) o1_5 o2_6 o3_7 := w49
    have hag0 : AGR (bQ (nxW (mg 2) (mg 1) (wnN (mg 2) (mF 3) (mF 5))) (mg 2) (wy (mg 2) bt (mF 4)) (0)) o1_5 o2_6 o3_7 := by have q := w49; rw [hwe] at q; exact q
    refine x_iconst (v := nI 0) X dX6_fewest_52 (by decide) ?_
    refine x_istore X [(5, .int (nI 0)), (4, .int (nI (wy (mg 2) bt (mF 4)))), (0, .ref mq), (1, .int (nI bt)), (2, .int (nI r)), (3, .int v)] dX6_fewest_53 hl (by decide) rfl (fun ls hl => ?_)
    refine x_iconst (v := nI 0) X dX6_fewest_55 (by decide) ?_
    refine x_istore X [(6, .int (nI 0)), (5, .int (nI 0)), (4, .int (nI (wy (mg 2) bt (mF 4)))), (0, .ref mq), (1, .int (nI bt)), (2, .int (nI r)), (3, .int v)] dX6_fewest_56 hl (by decide) rfl (fun ls hl => ?_)
    refine W.loop (σ := (Nat) × (Nat) × (Nat → Int32) × (Nat → Nat) × (Nat) × (Nat → Nat) × (Nat)) (fun u H locs ls => (u.1 ≤ 41 ∧ u.2.1 = bD (nxW (mg 2) (mg 1) (wnN (mg 2) (mF 3) (mF 5))) (mg 2) (wy (mg 2) bt (mF 4)) (u.1) ∧ AGR (bQ (nxW (mg 2) (mg 1) (wnN (mg 2) (mF 3) (mF 5))) (mg 2) (wy (mg 2) bt (mF 4)) (u.2.1)) u.2.2.1 u.2.2.2.1 u.2.2.2.2.1 ∧ (∀ z0, z0 < u.2.1 → ¬ GW r v ((bF (nxW (mg 2) (mg 1) (wnN (mg 2) (mF 3) (mF 5))) (mg 2) (wy (mg 2) bt (mF 4))).1 z0)) ∧ ∀ z0, u.2.2.2.2.2.1 z0 ≤ 9) ∧ Wd D A s.heap H locs (wM cI cZ mq ma (sF (sF mg 17 u.2.2.2.2.1) 18 u.2.2.2.2.2.2) mh (sF (sF mF 12 u.2.2.2.2.2.1) 16 u.2.2.2.1) (sF mE 15 u.2.2.1)) ∧ lv_has ls 9 [(6, .int (nI u.1)), (5, .int (nI u.2.1)), (4, .int (nI (wy (mg 2) bt (mF 4)))), (0, .ref mq), (1, .int (nI bt)), (2, .int (nI r)), (3, .int v)]) (fun u => 41 - u.1) (fun u H locs ls hI ih => ?_) (0, 0, o1_5, o2_6, o3_7, (cpN ((mg 2)) ((mF 4)) ((mF 12))), bt) ⟨(show 0 ≤ 41 ∧ 0 = bD (nxW (mg 2) (mg 1) (wnN (mg 2) (mF 3) (mF 5))) (mg 2) (wy (mg 2) bt (mF 4)) (0) ∧ AGR (bQ (nxW (mg 2) (mg 1) (wnN (mg 2) (mF 3) (mF 5))) (mg 2) (wy (mg 2) bt (mF 4)) (0)) o1_5 o2_6 o3_7 ∧ (∀ z0, z0 < 0 → ¬ GW r v ((bF (nxW (mg 2) (mg 1) (wnN (mg 2) (mF 3) (mF 5))) (mg 2) (wy (mg 2) bt (mF 4))).1 z0)) ∧ ∀ z0, (cpN ((mg 2)) ((mF 4)) ((mF 12))) z0 ≤ 9 from ⟨Nat.zero_le _, rfl, hag0, fun z0 h => absurd h (Nat.not_lt_zero z0), w26x⟩), hW, hl⟩
    obtain ⟨nn, d, EE, FF, tt, LL, bo⟩ := u
    obtain ⟨hv, hW, hl⟩ := hI
    have hv : nn ≤ 41 ∧ d = bD (nxW (mg 2) (mg 1) (wnN (mg 2) (mF 3) (mF 5))) (mg 2) (wy (mg 2) bt (mF 4)) (nn) ∧ AGR (bQ (nxW (mg 2) (mg 1) (wnN (mg 2) (mF 3) (mF 5))) (mg 2) (wy (mg 2) bt (mF 4)) (d)) EE FF tt ∧ (∀ z0, z0 < d → ¬ GW r v ((bF (nxW (mg 2) (mg 1) (wnN (mg 2) (mF 3) (mF 5))) (mg 2) (wy (mg 2) bt (mF 4))).1 z0)) ∧ ∀ z0, LL z0 ≤ 9 := hv
    have hW : Wd D A s.heap H locs (wM cI cZ mq ma (sF (sF mg 17 tt) 18 bo) mh (sF (sF mF 12 LL) 16 FF) (sF mE 15 EE)) := hW
    have hl : lv_has ls 9 [(6, .int (nI nn)), (5, .int (nI d)), (4, .int (nI (wy (mg 2) bt (mF 4)))), (0, .ref mq), (1, .int (nI bt)), (2, .int (nI r)), (3, .int v)] := hl
    have ih58 := ih
    refine x_iload X dX6_fewest_58 (lv_at hl 0 rfl) ?_
    refine x_bipush (v := nI 40) X dX6_fewest_60 (by decide) ?_
    refine n_icmp_gt X 131 dX6_fewest_62 (by decide) (by omega) (by decide) (fun c62 => ?_) (fun c62 => ?_)
    · obtain ⟨o1h, o2h, o3h, o4h, o5h⟩ := hv
      have en : nn = 41 := by omega
      refine x_bipush (v := (-9 : Int32)) X dX6_fewest_131 (by decide) ?_
      exact x_iret X hW rfl (EE, FF, tt, LL, bo, mF 19, mg 20) (⟨Or.inr ⟨fun i hi => o4h i (by rw [o2h, en]; exact hi), rfl⟩, o5h⟩) rfl dX6_fewest_133
    · refine x_aload_n X dX6_fewest_65 rfl (lv_at hl 3 rfl) ?_
      refine x_get X hW (v := .int (nI tt)) hi6 0 rfl rfl 17 (by decide) (List.mem_of_getElem? (i := 4) rfl) rfl rfl dX6_fewest_66 ?_
      refine x_istore X [(7, .int (nI tt)), (6, .int (nI nn)), (5, .int (nI d)), (4, .int (nI (wy (mg 2) bt (mF 4)))), (0, .ref mq), (1, .int (nI bt)), (2, .int (nI r)), (3, .int v)] dX6_fewest_69 hl (by decide) rfl (fun ls hl => ?_)
      obtain ⟨o1h, o2h, o3h, o4h, o5h⟩ := hv
      have htt : tt = bD (nxW (mg 2) (mg 1) (wnN (mg 2) (mF 3) (mF 5))) (mg 2) (wy (mg 2) bt (mF 4)) (nn + 1) := by rw [o3h.2.2.1, o2h]; rfl
      have hd4 := bD_lt hnx hs0 (nn + 1)
      refine W.loop (σ := (Nat) × (Nat → Int32) × (Nat → Nat) × (Nat) × (Nat → Nat) × (Nat)) (fun u H locs ls => (bD (nxW (mg 2) (mg 1) (wnN (mg 2) (mF 3) (mF 5))) (mg 2) (wy (mg 2) bt (mF 4)) (nn) ≤ u.1 ∧ u.1 ≤ tt ∧ AGR (bQ (nxW (mg 2) (mg 1) (wnN (mg 2) (mF 3) (mF 5))) (mg 2) (wy (mg 2) bt (mF 4)) (u.1)) u.2.1 u.2.2.1 u.2.2.2.1 ∧ (∀ z0, z0 < u.1 → ¬ GW r v ((bF (nxW (mg 2) (mg 1) (wnN (mg 2) (mF 3) (mF 5))) (mg 2) (wy (mg 2) bt (mF 4))).1 z0)) ∧ ∀ z0, u.2.2.2.2.1 z0 ≤ 9) ∧ Wd D A s.heap H locs (wM cI cZ mq ma (sF (sF mg 17 u.2.2.2.1) 18 u.2.2.2.2.2) mh (sF (sF mF 12 u.2.2.2.2.1) 16 u.2.2.1) (sF mE 15 u.2.1)) ∧ lv_has ls 9 [(7, .int (nI tt)), (6, .int (nI nn)), (5, .int (nI u.1)), (4, .int (nI (wy (mg 2) bt (mF 4)))), (0, .ref mq), (1, .int (nI bt)), (2, .int (nI r)), (3, .int v)]) (fun u => tt - u.1) (fun u H locs ls hI ih => ?_) (d, EE, FF, tt, LL, bo) ⟨(show bD (nxW (mg 2) (mg 1) (wnN (mg 2) (mF 3) (mF 5))) (mg 2) (wy (mg 2) bt (mF 4)) (nn) ≤ d ∧ d ≤ tt ∧ AGR (bQ (nxW (mg 2) (mg 1) (wnN (mg 2) (mF 3) (mF 5))) (mg 2) (wy (mg 2) bt (mF 4)) (d)) EE FF tt ∧ (∀ z0, z0 < d → ¬ GW r v ((bF (nxW (mg 2) (mg 1) (wnN (mg 2) (mF 3) (mF 5))) (mg 2) (wy (mg 2) bt (mF 4))).1 z0)) ∧ ∀ z0, LL z0 ≤ 9 from ⟨by omega, by rw [htt, o2h]; exact bD_s nn, o3h, o4h, o5h⟩), hW, hl⟩
      obtain ⟨d1, E1, F1, t1, L1, b1⟩ := u
      obtain ⟨hv, hW, hl⟩ := hI
      have hv : bD (nxW (mg 2) (mg 1) (wnN (mg 2) (mF 3) (mF 5))) (mg 2) (wy (mg 2) bt (mF 4)) (nn) ≤ d1 ∧ d1 ≤ tt ∧ AGR (bQ (nxW (mg 2) (mg 1) (wnN (mg 2) (mF 3) (mF 5))) (mg 2) (wy (mg 2) bt (mF 4)) (d1)) E1 F1 t1 ∧ (∀ z0, z0 < d1 → ¬ GW r v ((bF (nxW (mg 2) (mg 1) (wnN (mg 2) (mF 3) (mF 5))) (mg 2) (wy (mg 2) bt (mF 4))).1 z0)) ∧ ∀ z0, L1 z0 ≤ 9 := hv
      have hW : Wd D A s.heap H locs (wM cI cZ mq ma (sF (sF mg 17 t1) 18 b1) mh (sF (sF mF 12 L1) 16 F1) (sF mE 15 E1)) := hW
      have hl : lv_has ls 9 [(7, .int (nI tt)), (6, .int (nI nn)), (5, .int (nI d1)), (4, .int (nI (wy (mg 2) bt (mF 4)))), (0, .ref mq), (1, .int (nI bt)), (2, .int (nI r)), (3, .int v)] := hl
      have ih71 := ih
      refine x_iload X dX6_fewest_71 (lv_at hl 2 rfl) ?_
      refine x_iload X dX6_fewest_73 (lv_at hl 0 rfl) ?_
      refine n_icmp_ge X 125 dX6_fewest_75 (by decide) (by omega) (by omega) (fun c75 => ?_) (fun c75 => ?_)
      · obtain ⟨i1, i2, i3, i4, i5⟩ := hv
        have ed : d1 = tt := by omega
        refine x_iinc X [(6, .int (nI (nn + 1))), (7, .int (nI tt)), (5, .int (nI d1)), (4, .int (nI (wy (mg 2) bt (mF 4)))), (0, .ref mq), (1, .int (nI bt)), (2, .int (nI r)), (3, .int v)] (k := 1) dX6_fewest_125 hl rfl (nI_inc1 nn) (by decide) rfl (fun ls hl => ?_)
        refine x_goto X 58 dX6_fewest_128 (by decide) ?_
        exact ih58 ((nn + 1), d1, E1, F1, t1, L1, b1) _ _ _ ⟨(show (nn + 1) ≤ 41 ∧ d1 = bD (nxW (mg 2) (mg 1) (wnN (mg 2) (mF 3) (mF 5))) (mg 2) (wy (mg 2) bt (mF 4)) ((nn + 1)) ∧ AGR (bQ (nxW (mg 2) (mg 1) (wnN (mg 2) (mF 3) (mF 5))) (mg 2) (wy (mg 2) bt (mF 4)) (d1)) E1 F1 t1 ∧ (∀ z0, z0 < d1 → ¬ GW r v ((bF (nxW (mg 2) (mg 1) (wnN (mg 2) (mF 3) (mF 5))) (mg 2) (wy (mg 2) bt (mF 4))).1 z0)) ∧ ∀ z0, L1 z0 ≤ 9 from ⟨by omega, by rw [ed]; exact htt, i3, i4, i5⟩), hW, lv_sub hl [0, 2, 3, 4, 5, 6, 7] rfl⟩ (by dsimp only; omega)
      · obtain ⟨i1, i2, i3, i4, i5⟩ := hv
        have hdt : d1 < (bQ (nxW (mg 2) (mg 1) (wnN (mg 2) (mF 3) (mF 5))) (mg 2) (wy (mg 2) bt (mF 4)) (d1)).2.1 := lv_t i1 (by rw [← htt]; omega)
        have hib := IB_Q hnx hs0 d1
        have hvs := (hib.2.1 d1 hdt).1
        have hfin := (fin_Q hnx hs0 (show d1 ≤ 40001 by omega) hdt).1
        refine x_aload_n X dX6_fewest_78 rfl (lv_at hl 4 rfl) ?_
        refine x_get X hW (v := .ref (ma 16)) hi6 0 rfl rfl 16 (by decide) (List.mem_of_getElem? (i := 5) rfl) rfl rfl dX6_fewest_79 ?_
        refine x_iload X dX6_fewest_82 (lv_at hl 2 rfl) ?_
        refine n_iald X hW (f := F1) 9 0 rfl rfl (by omega) (by decide) dX6_fewest_84 ?_
        refine n_as0 (b := (bQ (nxW (mg 2) (mg 1) (wnN (mg 2) (mF 3) (mF 5))) (mg 2) (wy (mg 2) bt (mF 4)) (d1)).1 d1) (i3.2.1 d1 hdt) ?_
        refine x_istore X [(8, .int (nI ((bQ (nxW (mg 2) (mg 1) (wnN (mg 2) (mF 3) (mF 5))) (mg 2) (wy (mg 2) bt (mF 4)) (d1)).1 d1))), (7, .int (nI tt)), (6, .int (nI nn)), (5, .int (nI d1)), (4, .int (nI (wy (mg 2) bt (mF 4)))), (0, .ref mq), (1, .int (nI bt)), (2, .int (nI r)), (3, .int v)] dX6_fewest_85 hl (by decide) rfl (fun ls hl => ?_)
        refine x_aload_n X dX6_fewest_87 rfl (lv_at hl 5 rfl) ?_
        refine x_iload X dX6_fewest_88 (lv_at hl 0 rfl) ?_
        refine x_callVv0 X hW (As := [.int (nI ((bQ (nxW (mg 2) (mg 1) (wnN (mg 2) (mF 3) (mF 5))) (mg 2) (wy (mg 2) bt (mF 4)) (d1)).1 d1))]) (rest := []) (c_X6_goTo l D cI cZ cO mq ma (sF (sF mg 17 t1) 18 b1) mh (sF (sF mF 12 L1) 16 F1) (sF mE 15 E1) _ ((bQ (nxW (mg 2) (mg 1) (wnN (mg 2) (mF 3) (mF 5))) (mg 2) (wy (mg 2) bt (mF 4)) (d1)).1 d1) (show ((bQ (nxW (mg 2) (mg 1) (wnN (mg 2) (mF 3) (mF 5))) (mg 2) (wy (mg 2) bt (mF 4)) (d1)).1 d1) < 40000 from hvs.1) (show 2 ≤ (mg 2) from (by first | assumption | omega)) (show (mg 2) ≤ 4 from (by first | assumption | omega)) (show ∀ z0, L1 z0 ≤ 9 from i5)) (cwV 1 X.2.2.2.2.2.1 gX6_fewest_X6_goTo rfl rfl rfl (by decide +kernel) ⟨Nat.le_of_ble_eq_true rfl, Nat.le_of_ble_eq_true rfl⟩) 0 5 rfl rfl rfl rfl hl.1 rfl (Nat.le_of_ble_eq_true rfl) ⟨Nat.le_of_ble_eq_true rfl, Nat.le_of_ble_eq_true rfl⟩ dX6_fewest_90 (fun u12 H locs w90 hW => ?_)
        obtain ⟨o1_10, o1_10e⟩ : ∃ z, z = u12 := ⟨_, rfl⟩
        subst o1_10e
        have hW : Wd D A s.heap H locs (wM cI cZ mq ma (sF (sF mg 17 t1) 18 (((bQ (nxW (mg 2) (mg 1) (wnN (mg 2) (mF 3) (mF 5))) (mg 2) (wy (mg 2) bt (mF 4)) (d1)).1 d1) / 10000)) mh (sF (sF mF 12 o1_10) 16 F1) (sF mE 15 E1)) := hW
        replace w90 : (∀ z0, z0 < (mg 2) → o1_10 z0 = dig ((bQ (nxW (mg 2) (mg 1) (wnN (mg 2) (mF 3) (mF 5))) (mg 2) (wy (mg 2) bt (mF 4)) (d1)).1 d1) z0) ∧ ∀ z0, o1_10 z0 ≤ 9 := w90
        refine x_aload_n X dX6_fewest_93 rfl (lv_at hl 5 rfl) ?_
        refine x_iload_n X dX6_fewest_94 rfl (lv_at hl 7 rfl) ?_
        refine x_iload_n X dX6_fewest_95 rfl (lv_at hl 8 rfl) ?_
        have hbo : ((bQ (nxW (mg 2) (mg 1) (wnN (mg 2) (mF 3) (mF 5))) (mg 2) (wy (mg 2) bt (mF 4)) (d1)).1 d1) / 10000 < 5 := by have := hvs.1; omega
        have hdr : o1_10 r = dig ((bQ (nxW (mg 2) (mg 1) (wnN (mg 2) (mF 3) (mF 5))) (mg 2) (wy (mg 2) bt (mF 4)) (d1)).1 d1) r := w90.1 r hr
        refine x_callVi0 X hW (As := [.int (nI r), .int v]) (rest := []) (c_X6_isThere l D cI cZ cO mq ma (sF (sF mg 17 t1) 18 (((bQ (nxW (mg 2) (mg 1) (wnN (mg 2) (mF 3) (mF 5))) (mg 2) (wy (mg 2) bt (mF 4)) (d1)).1 d1) / 10000)) mh (sF (sF mF 12 o1_10) 16 F1) (sF mE 15 E1) _ r v (show r < 4 from (by omega)) (show (((bQ (nxW (mg 2) (mg 1) (wnN (mg 2) (mF 3) (mF 5))) (mg 2) (wy (mg 2) bt (mF 4)) (d1)).1 d1) / 10000) < 5 from hbo) (show ∀ z0, o1_10 z0 ≤ 9 from w90.2)) (cwV 2 X.2.2.2.2.2.1 gX6_fewest_X6_isThere rfl rfl rfl (by decide +kernel) ⟨Nat.le_of_ble_eq_true rfl, Nat.le_of_ble_eq_true rfl⟩) 0 5 rfl rfl rfl rfl hl.1 rfl (Nat.le_of_ble_eq_true rfl) ⟨Nat.le_of_ble_eq_true rfl, Nat.le_of_ble_eq_true rfl⟩ dX6_fewest_96 (fun r13 u14 H locs w96 hW => ?_)
        have hW : Wd D A s.heap H locs (wM cI cZ mq ma (sF (sF mg 17 t1) 18 (((bQ (nxW (mg 2) (mg 1) (wnN (mg 2) (mF 3) (mF 5))) (mg 2) (wy (mg 2) bt (mF 4)) (d1)).1 d1) / 10000)) mh (sF (sF mF 12 o1_10) 16 F1) (sF mE 15 E1)) := hW
        replace w96 : (r13 = nI 1 ∧ (GT r v ((((bQ (nxW (mg 2) (mg 1) (wnN (mg 2) (mF 3) (mF 5))) (mg 2) (wy (mg 2) bt (mF 4)) (d1)).1 d1) / 10000)) (o1_10 r)) ∨ r13 = nI 0 ∧ ¬ (GT r v ((((bQ (nxW (mg 2) (mg 1) (wnN (mg 2) (mF 3) (mF 5))) (mg 2) (wy (mg 2) bt (mF 4)) (d1)).1 d1) / 10000)) (o1_10 r))) := w96
        rcases w96 with ⟨w96, h96⟩ | ⟨w96, h96⟩
        · subst w96
          have hG : GW r v ((bF (nxW (mg 2) (mg 1) (wnN (mg 2) (mF 3) (mF 5))) (mg 2) (wy (mg 2) bt (mF 4))).1 d1) := by rw [hfin]; show GT r v (((bQ (nxW (mg 2) (mg 1) (wnN (mg 2) (mF 3) (mF 5))) (mg 2) (wy (mg 2) bt (mF 4)) (d1)).1 d1) / 10000) (dig ((bQ (nxW (mg 2) (mg 1) (wnN (mg 2) (mF 3) (mF 5))) (mg 2) (wy (mg 2) bt (mF 4)) (d1)).1 d1) r); rw [← hdr]; exact h96
          have hF : Fnd (nxW (mg 2) (mg 1) (wnN (mg 2) (mF 3) (mF 5))) (mg 2) (wy (mg 2) bt (mF 4)) (GW r v) nn d1 := ⟨by omega, i1, by rw [← htt]; omega, hG, i4⟩
          have hkp := keep_h hnx hs0 hn hF.2.1 hF.2.2.1 i3.1 (bF_Ext (show d1 ≤ 40001 by omega)) hib hdt i3.2.2.2
          rw [hfin] at hkp
          refine n_if_eq X 113 dX6_fewest_99 (by decide) (by decide) (fun c99 => by exact absurd c99 (by decide)) (fun c99 => ?_)
          refine x_aload_n X dX6_fewest_102 rfl (lv_at hl 5 rfl) ?_
          refine x_iload X dX6_fewest_103 (lv_at hl 4 rfl) ?_
          refine x_iload X dX6_fewest_105 (lv_at hl 0 rfl) ?_
          refine x_callVv0 X hW (As := [.int (nI (wy (mg 2) bt (mF 4))), .int (nI ((bQ (nxW (mg 2) (mg 1) (wnN (mg 2) (mF 3) (mF 5))) (mg 2) (wy (mg 2) bt (mF 4)) (d1)).1 d1))]) (rest := []) (c_X6_keepRow l D cI cZ cO mq ma (sF (sF mg 17 t1) 18 (((bQ (nxW (mg 2) (mg 1) (wnN (mg 2) (mF 3) (mF 5))) (mg 2) (wy (mg 2) bt (mF 4)) (d1)).1 d1) / 10000)) mh (sF (sF mF 12 o1_10) 16 F1) (sF mE 15 E1) _ (wy (mg 2) bt (mF 4)) ((bQ (nxW (mg 2) (mg 1) (wnN (mg 2) (mF 3) (mF 5))) (mg 2) (wy (mg 2) bt (mF 4)) (d1)).1 d1) ((bF (nxW (mg 2) (mg 1) (wnN (mg 2) (mF 3) (mF 5))) (mg 2) (wy (mg 2) bt (mF 4))).2.2) nn (show nn ≤ 40 from (by omega)) (show (wy (mg 2) bt (mF 4)) < 40000 from hs0.1) (show ∀ z0, z0 < nn → anc ((bF (nxW (mg 2) (mg 1) (wnN (mg 2) (mF 3) (mF 5))) (mg 2) (wy (mg 2) bt (mF 4))).2.2) z0 ((bQ (nxW (mg 2) (mg 1) (wnN (mg 2) (mF 3) (mF 5))) (mg 2) (wy (mg 2) bt (mF 4)) (d1)).1 d1) ≠ (wy (mg 2) bt (mF 4)) ∧ anc ((bF (nxW (mg 2) (mg 1) (wnN (mg 2) (mF 3) (mF 5))) (mg 2) (wy (mg 2) bt (mF 4))).2.2) z0 ((bQ (nxW (mg 2) (mg 1) (wnN (mg 2) (mF 3) (mF 5))) (mg 2) (wy (mg 2) bt (mF 4)) (d1)).1 d1) < 40000 ∧ ((bF (nxW (mg 2) (mg 1) (wnN (mg 2) (mF 3) (mF 5))) (mg 2) (wy (mg 2) bt (mF 4))).2.2) (anc ((bF (nxW (mg 2) (mg 1) (wnN (mg 2) (mF 3) (mF 5))) (mg 2) (wy (mg 2) bt (mF 4))).2.2) z0 ((bQ (nxW (mg 2) (mg 1) (wnN (mg 2) (mF 3) (mF 5))) (mg 2) (wy (mg 2) bt (mF 4)) (d1)).1 d1)) ≠ 0 ∧ ((bF (nxW (mg 2) (mg 1) (wnN (mg 2) (mF 3) (mF 5))) (mg 2) (wy (mg 2) bt (mF 4))).2.2) (anc ((bF (nxW (mg 2) (mg 1) (wnN (mg 2) (mF 3) (mF 5))) (mg 2) (wy (mg 2) bt (mF 4))).2.2) z0 ((bQ (nxW (mg 2) (mg 1) (wnN (mg 2) (mF 3) (mF 5))) (mg 2) (wy (mg 2) bt (mF 4)) (d1)).1 d1)) ≤ 200000 ∧ E1 (anc ((bF (nxW (mg 2) (mg 1) (wnN (mg 2) (mF 3) (mF 5))) (mg 2) (wy (mg 2) bt (mF 4))).2.2) z0 ((bQ (nxW (mg 2) (mg 1) (wnN (mg 2) (mF 3) (mF 5))) (mg 2) (wy (mg 2) bt (mF 4)) (d1)).1 d1)) = encR (((bF (nxW (mg 2) (mg 1) (wnN (mg 2) (mF 3) (mF 5))) (mg 2) (wy (mg 2) bt (mF 4))).2.2) (anc ((bF (nxW (mg 2) (mg 1) (wnN (mg 2) (mF 3) (mF 5))) (mg 2) (wy (mg 2) bt (mF 4))).2.2) z0 ((bQ (nxW (mg 2) (mg 1) (wnN (mg 2) (mF 3) (mF 5))) (mg 2) (wy (mg 2) bt (mF 4)) (d1)).1 d1))) from hkp.1) (show anc ((bF (nxW (mg 2) (mg 1) (wnN (mg 2) (mF 3) (mF 5))) (mg 2) (wy (mg 2) bt (mF 4))).2.2) nn ((bQ (nxW (mg 2) (mg 1) (wnN (mg 2) (mF 3) (mF 5))) (mg 2) (wy (mg 2) bt (mF 4)) (d1)).1 d1) = (wy (mg 2) bt (mF 4)) from hkp.2)) (cwV 2 X.2.2.2.2.2.1 gX6_fewest_X6_keepRow rfl rfl rfl (by decide +kernel) ⟨Nat.le_of_ble_eq_true rfl, Nat.le_of_ble_eq_true rfl⟩) 0 5 rfl rfl rfl rfl hl.1 rfl (Nat.le_of_ble_eq_true rfl) ⟨Nat.le_of_ble_eq_true rfl, Nat.le_of_ble_eq_true rfl⟩ dX6_fewest_107 (fun u17 H locs w107 hW => ?_)
          obtain ⟨o1_15, o1_15e⟩ : ∃ z, z = u17 := ⟨_, rfl⟩
          subst o1_15e
          have hW : Wd D A s.heap H locs (wM cI cZ mq ma (sF (sF (sF mg 17 t1) 18 (((bQ (nxW (mg 2) (mg 1) (wnN (mg 2) (mF 3) (mF 5))) (mg 2) (wy (mg 2) bt (mF 4)) (d1)).1 d1) / 10000)) 20 nn) mh (sF (sF (sF mF 12 o1_10) 16 F1) 19 o1_15) (sF mE 15 E1)) := hW
          replace w107 : ∀ z0, z0 < nn → o1_15 z0 = (((bF (nxW (mg 2) (mg 1) (wnN (mg 2) (mF 3) (mF 5))) (mg 2) (wy (mg 2) bt (mF 4))).2.2) (anc ((bF (nxW (mg 2) (mg 1) (wnN (mg 2) (mF 3) (mF 5))) (mg 2) (wy (mg 2) bt (mF 4))).2.2) z0 ((bQ (nxW (mg 2) (mg 1) (wnN (mg 2) (mF 3) (mF 5))) (mg 2) (wy (mg 2) bt (mF 4)) (d1)).1 d1)) - 1) % 4 := w107
          refine x_iload X dX6_fewest_110 (lv_at hl 2 rfl) ?_
          exact x_iret X hW rfl (E1, F1, t1, o1_10, ((bQ (nxW (mg 2) (mg 1) (wnN (mg 2) (mF 3) (mF 5))) (mg 2) (wy (mg 2) bt (mF 4)) (d1)).1 d1) / 10000, o1_15, nn) (⟨Or.inl ⟨nn, d1, hF, rfl, by unfold acOf; rw [hfin]; exact w107⟩, w90.2⟩) rfl dX6_fewest_112
        · subst w96
          have hG : ¬ GW r v ((bF (nxW (mg 2) (mg 1) (wnN (mg 2) (mF 3) (mF 5))) (mg 2) (wy (mg 2) bt (mF 4))).1 d1) := by rw [hfin]; show ¬ GT r v (((bQ (nxW (mg 2) (mg 1) (wnN (mg 2) (mF 3) (mF 5))) (mg 2) (wy (mg 2) bt (mF 4)) (d1)).1 d1) / 10000) (dig ((bQ (nxW (mg 2) (mg 1) (wnN (mg 2) (mF 3) (mF 5))) (mg 2) (wy (mg 2) bt (mF 4)) (d1)).1 d1) r); rw [← hdr]; exact h96
          refine n_if_eq X 113 dX6_fewest_99 (by decide) (by decide) (fun c99 => ?_) (fun c99 => by exact absurd c99 (by decide))
          refine x_iinc X [(5, .int (nI (d1 + 1))), (8, .int (nI ((bQ (nxW (mg 2) (mg 1) (wnN (mg 2) (mF 3) (mF 5))) (mg 2) (wy (mg 2) bt (mF 4)) (d1)).1 d1))), (7, .int (nI tt)), (6, .int (nI nn)), (4, .int (nI (wy (mg 2) bt (mF 4)))), (0, .ref mq), (1, .int (nI bt)), (2, .int (nI r)), (3, .int v)] (k := 3) dX6_fewest_113 hl rfl (nI_inc1 d1) (by decide) rfl (fun ls hl => ?_)
          refine x_aload_n X dX6_fewest_116 rfl (lv_at hl 5 rfl) ?_
          refine x_iload X dX6_fewest_117 (lv_at hl 1 rfl) ?_
          refine x_callVv0 X hW (As := [.int (nI ((bQ (nxW (mg 2) (mg 1) (wnN (mg 2) (mF 3) (mF 5))) (mg 2) (wy (mg 2) bt (mF 4)) (d1)).1 d1))]) (rest := []) (c_X6_goOn l D cI cZ cO mq ma (sF (sF mg 17 t1) 18 (((bQ (nxW (mg 2) (mg 1) (wnN (mg 2) (mF 3) (mF 5))) (mg 2) (wy (mg 2) bt (mF 4)) (d1)).1 d1) / 10000)) mh (sF (sF mF 12 o1_10) 16 F1) (sF mE 15 E1) _ ((bQ (nxW (mg 2) (mg 1) (wnN (mg 2) (mF 3) (mF 5))) (mg 2) (wy (mg 2) bt (mF 4)) (d1)).1 d1) (bQ (nxW (mg 2) (mg 1) (wnN (mg 2) (mF 3) (mF 5))) (mg 2) (wy (mg 2) bt (mF 4)) (d1)) (show ((bQ (nxW (mg 2) (mg 1) (wnN (mg 2) (mF 3) (mF 5))) (mg 2) (wy (mg 2) bt (mF 4)) (d1)).1 d1) < 40000 from hvs.1) (show IB ((mg 2)) (bQ (nxW (mg 2) (mg 1) (wnN (mg 2) (mF 3) (mF 5))) (mg 2) (wy (mg 2) bt (mF 4)) (d1)) from hib) (show AGR (bQ (nxW (mg 2) (mg 1) (wnN (mg 2) (mF 3) (mF 5))) (mg 2) (wy (mg 2) bt (mF 4)) (d1)) (E1) (F1) (t1) from i3) (show 2 ≤ (mg 2) from (by first | assumption | omega)) (show (mg 2) ≤ 4 from (by first | assumption | omega)) (show ∀ z0, (mF 3) z0 ≤ 2 from (by first | assumption | omega)) (show ∀ z0, (mF 5) z0 ≤ 9 from (by first | assumption | omega)) (show ∀ z0, o1_10 z0 ≤ 9 from w90.2) (show (mg 1) ≤ 3 from (by first | assumption | omega))) (cwV 1 X.2.2.2.2.2.1 gX6_fewest_X6_goOn rfl rfl rfl (by decide +kernel) ⟨Nat.le_of_ble_eq_true rfl, Nat.le_of_ble_eq_true rfl⟩) 0 5 rfl rfl rfl rfl hl.1 rfl (Nat.le_of_ble_eq_true rfl) ⟨Nat.le_of_ble_eq_true rfl, Nat.le_of_ble_eq_true rfl⟩ dX6_fewest_119 (fun u24 H locs w119 hW => ?_)
          obtain ⟨o1_18, o2_19, o3_20, o4_21, o5_22⟩ := u24
          have hW : Wd D A s.heap H locs (wM cI cZ mq ma (sF (sF mg 17 o3_20) 18 o5_22) mh (sF (sF mF 12 o4_21) 16 o2_19) (sF mE 15 o1_18)) := hW
          replace w119 : AGR (bRow (nxW ((mg 2)) ((mg 1)) (wnN ((mg 2)) ((mF 3)) ((mF 5)))) ((bQ (nxW (mg 2) (mg 1) (wnN (mg 2) (mF 3) (mF 5))) (mg 2) (wy (mg 2) bt (mF 4)) (d1)).1 d1) ((mg 2)) (bQ (nxW (mg 2) (mg 1) (wnN (mg 2) (mF 3) (mF 5))) (mg 2) (wy (mg 2) bt (mF 4)) (d1))) o1_18 o2_19 o3_20 ∧ ∀ z0, o4_21 z0 ≤ 9 := w119
          refine x_goto X 71 dX6_fewest_122 (by decide) ?_
          exact ih71 ((d1 + 1), o1_18, o2_19, o3_20, o4_21, o5_22) _ _ _ ⟨(show bD (nxW (mg 2) (mg 1) (wnN (mg 2) (mF 3) (mF 5))) (mg 2) (wy (mg 2) bt (mF 4)) (nn) ≤ (d1 + 1) ∧ (d1 + 1) ≤ tt ∧ AGR (bQ (nxW (mg 2) (mg 1) (wnN (mg 2) (mF 3) (mF 5))) (mg 2) (wy (mg 2) bt (mF 4)) ((d1 + 1))) o1_18 o2_19 o3_20 ∧ (∀ z0, z0 < (d1 + 1) → ¬ GW r v ((bF (nxW (mg 2) (mg 1) (wnN (mg 2) (mF 3) (mF 5))) (mg 2) (wy (mg 2) bt (mF 4))).1 z0)) ∧ ∀ z0, o4_21 z0 ≤ 9 from ⟨by omega, by omega, by rw [bQ_y hdt]; exact w119.1, (fun z0 hz => by rcases Nat.lt_or_ge z0 d1 with q | q; exact i4 z0 q; rw [show z0 = d1 by omega]; exact hG), w119.2⟩), hW, lv_sub hl [2, 3, 0, 4, 5, 6, 7, 8] rfl⟩ (by dsimp only; omega)
  · refine x_aload_n X dX6_fewest_10 rfl (lv_at hl 1 rfl) ?_
    refine x_get X hW (v := .ref (ma 15)) hi6 0 rfl rfl 15 (by decide) (List.mem_of_getElem? (i := 2) rfl) rfl rfl dX6_fewest_11 ?_
    refine x_iload X dX6_fewest_14 (lv_at hl 0 rfl) ?_
    refine x_bipush (v := (-9 : Int32)) X dX6_fewest_16 (by decide) ?_
    refine i_iast X hW (f := flE x (mE 15)) 8 0 rfl rfl (by omega) (by decide) dX6_fewest_18 (wM cI cZ mq ma mg mh mF (sF mE 15 (sF (flE x (mE 15)) x (-9 : Int32)))) rfl (fun H locs hW => ?_)
    refine x_iinc X [(4, .int (nI (x + 1))), (0, .ref mq), (1, .int (nI bt)), (2, .int (nI r)), (3, .int v)] (k := 0) dX6_fewest_19 hl rfl (nI_inc1 x) (by decide) rfl (fun ls hl => ?_)
    refine x_goto X 3 dX6_fewest_22 (by decide) ?_
    exact ih3 (x + 1) _ _ _ ⟨(show (x + 1) ≤ 40000 from (by omega)), (hW.eq (congrArg (fun z => (wM cI cZ mq ma mg mh mF (sF mE 15 z))) (show (sF (flE x (mE 15)) x (-9 : Int32)) = (flE (x + 1) (mE 15)) from by first | rw [flE_s] | rw [flE_0]))), lv_sub hl [0, 1, 2, 3, 4] rfl⟩ (by omega)
set_option maxHeartbeats 4000000 in
set_option maxRecDepth 100000 in
theorem c_X6_actOf (l : Launch) (D : va_G) (cI cZ cO : ClassId) (mq : Nat) (ma : Nat → Nat) (mg : Nat → Nat) (mh : Nat → Int32) (mF : Nat → Nat → Nat) (mE : Nat → Nat → Int32) (sz : Nat) (a : Int32) (k : Int32) (ac : Nat → Nat) (ha : (∃ z0, z0 ≤ 40 ∧ a = nI z0 ∧ ∀ z1, z1 < z0 → mF 19 z1 = ac z1) ∨ a = (-9)) (hk : okK k) : Met l yX6_actOf wsX6_actOf ({ frames := 0, cells := 0, slots := 0, locals := 0 }) (va_Pc [.ref mq, .int a, .int k] (st_W D (ty3 cI cZ cO) (wM cI cZ mq ma mg mh mF mE) sz)) (va_Qi (fun (rr : Int32) (u : Unit) => (∀ z0, z0 ≤ 40 → a = nI z0 → rr = rowA z0 ac k) ∧ (a = (-9) → rr = (-9))) (fun u t => at_W D (ty3 cI cZ cO) (va_A (wM cI cZ mq ma mg mh mF mE) sz) (wM cI cZ mq ma mg mh mF mE) t) (va_A (wM cI cZ mq ma mg mh mF mE) sz)) 0 0 (va_A (wM cI cZ mq ma mg mh mF mE) sz) := by
  refine Met.goi (cc := cX6_actOf) (maxL := 3) (ret := (some .int)) (by decide) rfl (Nat.le_of_ble_eq_true rfl) (fun p e s m below meth c A ls X hW hl => ?_)
  have hi6 : ∀ w ∈ wsX60, w ∈ wsX6_actOf := fun w h => List.mem_cons_of_mem _ (List.mem_append_right _ h)
  have hl : lv_has ls 3 [(0, .ref mq), (1, .int a), (2, .int k)] := hl
  rcases ha with ⟨ka, hka, hae, hac⟩ | rfl <;> rcases hk with rfl | hk
  · subst hae
    refine x_iload_n X dX6_actOf_0 rfl (lv_at hl 2 rfl) ?_
    refine x_if_ge X 8 dX6_actOf_1 (by decide) (fun c1 => by first | exact absurd c1 (by decide) | exact absurd (by decide) c1) (fun c1 => ?_)
    refine x_iload_n X dX6_actOf_4 rfl (lv_at hl 1 rfl) ?_
    refine x_goto X 28 dX6_actOf_5 (by decide) ?_
    exact x_iret X hW rfl () ((by refine ⟨fun z0 hz0 hz => ?_, fun hz => ?_⟩ <;> first | (exact absurd hz (nI_n9 (by omega))) | (exact absurd hz.symm (nI_n9 (by omega))) | rfl | (have hz2 := (nI_eq (by omega) (by omega)).mp hz; subst hz2; first | rfl | (rw [rowA_y hz0 (by omega), hac _ (by omega)]) | (rw [rowA_o hkk hz0 (by omega)])))) rfl dX6_actOf_28
  · subst hae
    obtain ⟨kk, hkk, rfl⟩ := inR_ex hk (by omega)
    refine x_iload_n X dX6_actOf_0 rfl (lv_at hl 2 rfl) ?_
    refine n_if_ge X 8 dX6_actOf_1 (by decide) (by omega) ?_
    refine x_iload_n X dX6_actOf_8 rfl (lv_at hl 2 rfl) ?_
    refine x_iload_n X dX6_actOf_9 rfl (lv_at hl 1 rfl) ?_
    refine n_icmp_ge X 26 dX6_actOf_10 (by decide) (by omega) (by omega) (fun c10 => ?_) (fun c10 => ?_)
    · refine x_bipush (v := (-9 : Int32)) X dX6_actOf_26 (by decide) ?_
      exact x_iret X hW rfl () ((by refine ⟨fun z0 hz0 hz => ?_, fun hz => ?_⟩ <;> first | (exact absurd hz (nI_n9 (by omega))) | (exact absurd hz.symm (nI_n9 (by omega))) | rfl | (have hz2 := (nI_eq (by omega) (by omega)).mp hz; subst hz2; first | rfl | (rw [rowA_y hz0 (by omega), hac _ (by omega)]) | (rw [rowA_o hkk hz0 (by omega)])))) rfl dX6_actOf_28
    · refine x_aload_n X dX6_actOf_13 rfl (lv_at hl 0 rfl) ?_
      refine x_get X hW (v := .ref (ma 19)) hi6 0 rfl rfl 19 (by decide) (List.mem_of_getElem? (i := 1) rfl) rfl rfl dX6_actOf_14 ?_
      refine x_iload_n X dX6_actOf_17 rfl (lv_at hl 1 rfl) ?_
      refine x_iconst (v := nI 1) X dX6_actOf_18 (by decide) ?_
      refine n_isub X dX6_actOf_19 (by omega) ?_
      refine x_iload_n X dX6_actOf_20 rfl (lv_at hl 2 rfl) ?_
      refine n_isub X dX6_actOf_21 (by omega) ?_
      refine n_iald X hW (f := mF 19) 10 0 rfl rfl (by omega) (by decide) dX6_actOf_22 ?_
      refine x_goto X 28 dX6_actOf_23 (by decide) ?_
      exact x_iret X hW rfl () ((by refine ⟨fun z0 hz0 hz => ?_, fun hz => ?_⟩ <;> first | (exact absurd hz (nI_n9 (by omega))) | (exact absurd hz.symm (nI_n9 (by omega))) | rfl | (have hz2 := (nI_eq (by omega) (by omega)).mp hz; subst hz2; first | rfl | (rw [rowA_y hz0 (by omega), hac _ (by omega)]) | (rw [rowA_o hkk hz0 (by omega)])))) rfl dX6_actOf_28
  · refine x_iload_n X dX6_actOf_0 rfl (lv_at hl 2 rfl) ?_
    refine x_if_ge X 8 dX6_actOf_1 (by decide) (fun c1 => by first | exact absurd c1 (by decide) | exact absurd (by decide) c1) (fun c1 => ?_)
    refine x_iload_n X dX6_actOf_4 rfl (lv_at hl 1 rfl) ?_
    refine x_goto X 28 dX6_actOf_5 (by decide) ?_
    exact x_iret X hW rfl () ((by refine ⟨fun z0 hz0 hz => ?_, fun hz => ?_⟩ <;> first | (exact absurd hz (nI_n9 (by omega))) | (exact absurd hz.symm (nI_n9 (by omega))) | rfl | (have hz2 := (nI_eq (by omega) (by omega)).mp hz; subst hz2; first | rfl | (rw [rowA_y hz0 (by omega), hac _ (by omega)]) | (rw [rowA_o hkk hz0 (by omega)])))) rfl dX6_actOf_28
  · obtain ⟨kk, hkk, rfl⟩ := inR_ex hk (by omega)
    refine x_iload_n X dX6_actOf_0 rfl (lv_at hl 2 rfl) ?_
    refine n_if_ge X 8 dX6_actOf_1 (by decide) (by omega) ?_
    refine x_iload_n X dX6_actOf_8 rfl (lv_at hl 2 rfl) ?_
    refine x_iload_n X dX6_actOf_9 rfl (lv_at hl 1 rfl) ?_
    refine x_icmp_ge X 26 dX6_actOf_10 (by decide) (fun c10 => ?_) (fun c10 => by exact absurd (neg9_le (by omega)) c10)
    refine x_bipush (v := (-9 : Int32)) X dX6_actOf_26 (by decide) ?_
    exact x_iret X hW rfl () ((by refine ⟨fun z0 hz0 hz => ?_, fun hz => ?_⟩ <;> first | (exact absurd hz (nI_n9 (by omega))) | (exact absurd hz.symm (nI_n9 (by omega))) | rfl | (have hz2 := (nI_eq (by omega) (by omega)).mp hz; subst hz2; first | rfl | (rw [rowA_y hz0 (by omega), hac _ (by omega)]) | (rw [rowA_o hkk hz0 (by omega)])))) rfl dX6_actOf_28
set_option maxHeartbeats 4000000 in
set_option maxRecDepth 100000 in
theorem c_X6_boat (l : Launch) (D : va_G) (cI cZ cO : ClassId) (mq : Nat) (ma : Nat → Nat) (mg : Nat → Nat) (mh : Nat → Int32) (mF : Nat → Nat → Nat) (mE : Nat → Nat → Int32) (sz : Nat) (fr : Int32) (to : Int32) (k : Int32)  (h02 : mg 2 = 0 ∨ 2 ≤ mg 2) (hlv : ∀ z0, mF 4 z0 ≤ 9) (hn : mg 2 ≤ 4) (hk : ∀ z0, mF 3 z0 ≤ 2) (hm : ∀ z0, mF 5 z0 ≤ 9) (hw : ∀ z0, mF 12 z0 ≤ 9) (hrn : mg 1 ≤ 3) : Met l yX6_boat wsX6_boat ({ frames := 5, cells := 0, slots := 0, locals := 115 }) (va_Pc [.ref mq, .int fr, .int to, .int k] (st_W D (ty3 cI cZ cO) (wM cI cZ mq ma mg mh mF mE) sz)) (va_Qi (fun (rr : Int32) (u : (Nat → Int32) × (Nat → Nat) × (Nat) × (Nat → Nat) × (Nat) × (Nat → Nat) × (Nat)) => BoatAns (mg 2) (mg 1) (mF 3) (mF 4) (mF 5) fr to k rr ∧ ∀ z0, u.2.2.2.1 z0 ≤ 9) (fun u t => at_W D (ty3 cI cZ cO) (va_A (wM cI cZ mq ma mg mh mF mE) sz) (wM cI cZ mq ma (sF (sF (sF mg 17 u.2.2.1) 18 u.2.2.2.2.1) 20 u.2.2.2.2.2.2) mh (sF (sF (sF mF 12 u.2.2.2.1) 16 u.2.1) 19 u.2.2.2.2.2.1) (sF mE 15 u.1)) t) (va_A (wM cI cZ mq ma mg mh mF mE) sz)) 0 0 (va_A (wM cI cZ mq ma mg mh mF mE) sz) := by
  refine Met.goi (cc := cX6_boat) (maxL := 4) (ret := (some .int)) (by decide) rfl (Nat.le_of_ble_eq_true rfl) (fun p e s m below meth c A ls X hW hl => ?_)
  have hi6 : ∀ w ∈ wsX60, w ∈ wsX6_boat := fun w h => List.mem_cons_of_mem _ (List.mem_append_right _ h)
  have hl : lv_has ls 4 [(0, .ref mq), (1, .int fr), (2, .int to), (3, .int k)] := hl
  refine x_aload_n X dX6_boat_0 rfl (lv_at hl 0 rfl) ?_
  refine x_iload_n X dX6_boat_1 rfl (lv_at hl 1 rfl) ?_
  refine x_callVi0 X hW (As := [.int fr]) (rest := []) (c_X6_noReach l D cI cZ cO mq ma mg mh mF mE _ fr (show (mg 2) ≤ 4 from (by first | assumption | omega))) (cwV 1 X.2.2.2.2.2.1 gX6_boat_X6_noReach rfl rfl rfl (by decide +kernel) ⟨Nat.le_of_ble_eq_true rfl, Nat.le_of_ble_eq_true rfl⟩) 0 5 rfl rfl rfl rfl hl.1 rfl (Nat.le_of_ble_eq_true rfl) ⟨Nat.le_of_ble_eq_true rfl, Nat.le_of_ble_eq_true rfl⟩ dX6_boat_2 (fun r1 u2 H locs w2 hW => ?_)
  have hW : Wd D A s.heap H locs (wM cI cZ mq ma mg mh mF mE) := hW
  replace w2 : (r1 = nI 1 ∧ (¬ inR fr ((mg 2))) ∨ r1 = nI 0 ∧ ¬ (¬ inR fr ((mg 2)))) := w2
  rcases w2 with ⟨w2, h2⟩ | ⟨w2, h2⟩
  · subst w2
    have gfr := h2
    refine n_if_ne X 16 dX6_boat_5 (by decide) (by decide) (fun c5 => ?_) (fun c5 => by exact absurd c5 (by decide))
    refine x_iconst (v := (-1 : Int32)) X dX6_boat_16 (by decide) ?_
    exact x_iret X hW rfl (mE 15, mF 16, mg 17, mF 12, mg 18, mF 19, mg 20) (⟨by unfold BoatAns; rw [onR_out gfr], hw⟩) rfl dX6_boat_17
  · subst w2
    obtain ⟨i, hi, rfl⟩ := inR_ex (Classical.not_not.mp h2) (by omega)
    refine n_if_ne X 16 dX6_boat_5 (by decide) (by decide) (fun c5 => by exact absurd c5 (by decide)) (fun c5 => ?_)
    refine x_aload_n X dX6_boat_8 rfl (lv_at hl 0 rfl) ?_
    refine x_iload_n X dX6_boat_9 rfl (lv_at hl 2 rfl) ?_
    refine x_callVi0 X hW (As := [.int to]) (rest := []) (c_X6_noReach l D cI cZ cO mq ma mg mh mF mE _ to (show (mg 2) ≤ 4 from (by first | assumption | omega))) (cwV 1 X.2.2.2.2.2.1 gX6_boat_X6_noReach rfl rfl rfl (by decide +kernel) ⟨Nat.le_of_ble_eq_true rfl, Nat.le_of_ble_eq_true rfl⟩) 0 5 rfl rfl rfl rfl hl.1 rfl (Nat.le_of_ble_eq_true rfl) ⟨Nat.le_of_ble_eq_true rfl, Nat.le_of_ble_eq_true rfl⟩ dX6_boat_10 (fun r3 u4 H locs w10 hW => ?_)
    have hW : Wd D A s.heap H locs (wM cI cZ mq ma mg mh mF mE) := hW
    replace w10 : (r3 = nI 1 ∧ (¬ inR to ((mg 2))) ∨ r3 = nI 0 ∧ ¬ (¬ inR to ((mg 2)))) := w10
    rcases w10 with ⟨w10, h10⟩ | ⟨w10, h10⟩
    · subst w10
      have gto := h10
      refine n_if_eq X 18 dX6_boat_13 (by decide) (by decide) (fun c13 => by exact absurd c13 (by decide)) (fun c13 => ?_)
      refine x_iconst (v := (-1 : Int32)) X dX6_boat_16 (by decide) ?_
      exact x_iret X hW rfl (mE 15, mF 16, mg 17, mF 12, mg 18, mF 19, mg 20) (⟨by unfold BoatAns; rw [onR_in hi (by omega)]; rw [onR_out gto], hw⟩) rfl dX6_boat_17
    · subst w10
      obtain ⟨j, hj, rfl⟩ := inR_ex (Classical.not_not.mp h10) (by omega)
      refine n_if_eq X 18 dX6_boat_13 (by decide) (by decide) (fun c13 => ?_) (fun c13 => by exact absurd c13 (by decide))
      refine x_iload_n X dX6_boat_18 rfl (lv_at hl 2 rfl) ?_
      refine x_iload_n X dX6_boat_19 rfl (lv_at hl 1 rfl) ?_
      refine n_icmp_gt X 26 dX6_boat_20 (by decide) (by omega) (by omega) (fun c20 => ?_) (fun c20 => ?_)
      · refine x_iload_n X dX6_boat_26 rfl (lv_at hl 3 rfl) ?_
        refine x_i2l (v := k.toInt64) X dX6_boat_27 rfl ?_
        refine x_ldc2 (v := (-1)) X (List.mem_of_getElem? (i := 1) rfl) dX6_boat_28 ?_
        refine x_ldc2 (v := (39)) X (List.mem_of_getElem? (i := 2) rfl) dX6_boat_31 ?_
        refine x_callSie X hW (As := [.long k.toInt64, .long (-1 : Int64), .long (39 : Int64)]) (rest := []) (c_X6_in l D cI cZ cO  _ k.toInt64 (-1 : Int64) (39 : Int64)) (va_cwS 3 X.2.2.2.2.2.1 gX6_boat_X6_in rfl rfl rfl (by decide +kernel) ⟨Nat.le_of_ble_eq_true rfl, Nat.le_of_ble_eq_true rfl⟩) rfl hl.1 rfl (Nat.le_of_ble_eq_true rfl) ⟨Nat.le_of_ble_eq_true rfl, Nat.le_of_ble_eq_true rfl⟩ dX6_boat_34 (fun r5 u6 H locs w34 hW => ?_)
        have hW : Wd D A s.heap H locs (wM cI cZ mq ma mg mh mF mE) := hW
        replace w34 : (r5 = nI 1 ∧ ((-1 : Int64).toInt ≤ k.toInt64.toInt ∧ k.toInt64.toInt ≤ (39 : Int64).toInt) ∨ r5 = nI 0 ∧ ¬ ((-1 : Int64).toInt ≤ k.toInt64.toInt ∧ k.toInt64.toInt ≤ (39 : Int64).toInt)) := w34
        rcases w34 with ⟨w34, h34⟩ | ⟨w34, h34⟩
        · subst w34
          have gk := (okK_iff (by decide) (by decide)).mp h34
          refine n_if_eq X 56 dX6_boat_37 (by decide) (by decide) (fun c37 => by exact absurd c37 (by decide)) (fun c37 => ?_)
          refine x_aload_n X dX6_boat_40 rfl (lv_at hl 0 rfl) ?_
          refine x_aload_n X dX6_boat_41 rfl (lv_at hl 0 rfl) ?_
          refine x_iload_n X dX6_boat_42 rfl (lv_at hl 1 rfl) ?_
          refine x_iload_n X dX6_boat_43 rfl (lv_at hl 2 rfl) ?_
          refine x_bipush (v := (-9 : Int32)) X dX6_boat_44 (by decide) ?_
          refine x_callVi0 X hW (As := [.int (nI i), .int (nI j), .int (-9 : Int32)]) (rest := [.ref mq]) (c_X6_fewest l D cI cZ cO mq ma mg mh mF mE _ i j (-9 : Int32) (show i < 4 from (by omega)) (show j < (mg 2) from (by omega)) (show ∀ z0, (mF 4) z0 ≤ 9 from (by first | assumption | omega)) (show 2 ≤ (mg 2) from (by omega)) (show (mg 2) ≤ 4 from (by first | assumption | omega)) (show ∀ z0, (mF 3) z0 ≤ 2 from (by first | assumption | omega)) (show ∀ z0, (mF 5) z0 ≤ 9 from (by first | assumption | omega)) (show ∀ z0, (mF 12) z0 ≤ 9 from (by first | assumption | omega)) (show (mg 1) ≤ 3 from (by first | assumption | omega))) (cwV 3 X.2.2.2.2.2.1 gX6_boat_X6_fewest rfl rfl rfl (by decide +kernel) ⟨Nat.le_of_ble_eq_true rfl, Nat.le_of_ble_eq_true rfl⟩) 0 5 rfl rfl rfl rfl hl.1 rfl (Nat.le_of_ble_eq_true rfl) ⟨Nat.le_of_ble_eq_true rfl, Nat.le_of_ble_eq_true rfl⟩ dX6_boat_46 (fun r14 u15 H locs w46 hW => ?_)
          obtain ⟨o1_7, o2_8, o3_9, o4_10, o5_11, o6_12, o7_13⟩ := u15
          have hW : Wd D A s.heap H locs (wM cI cZ mq ma (sF (sF (sF mg 17 o3_9) 18 o5_11) 20 o7_13) mh (sF (sF (sF mF 12 o4_10) 16 o2_8) 19 o6_12) (sF mE 15 o1_7)) := hW
          replace w46 : ((∃ z0 z1, Fnd (nxW ((mg 2)) ((mg 1)) (wnN ((mg 2)) ((mF 3)) ((mF 5)))) ((mg 2)) (wy ((mg 2)) i ((mF 4))) (GW j (-9 : Int32)) z0 z1 ∧ r14 = nI z0 ∧ ∀ z2, z2 < z0 → o6_12 z2 = acOf (nxW ((mg 2)) ((mg 1)) (wnN ((mg 2)) ((mF 3)) ((mF 5)))) ((mg 2)) (wy ((mg 2)) i ((mF 4))) z1 z2) ∨ (Non (nxW ((mg 2)) ((mg 1)) (wnN ((mg 2)) ((mF 3)) ((mF 5)))) ((mg 2)) (wy ((mg 2)) i ((mF 4))) (GW j (-9 : Int32)) ∧ r14 = (-9))) ∧ ∀ z0, o4_10 z0 ≤ 9 := w46
          rcases w46.1 with ⟨kk, ff, hf, he, hac⟩ | ⟨hnon, he⟩
          · refine x_iload_n X dX6_boat_49 rfl (lv_at hl 3 rfl) ?_
            refine x_callVi0 X hW (As := [.int r14, .int k]) (rest := []) (c_X6_actOf l D cI cZ cO mq ma (sF (sF (sF mg 17 o3_9) 18 o5_11) 20 o7_13) mh (sF (sF (sF mF 12 o4_10) 16 o2_8) 19 o6_12) (sF mE 15 o1_7) _ r14 k (acOf _ _ _ ff) (show (∃ z0, z0 ≤ 40 ∧ r14 = nI z0 ∧ ∀ z1, z1 < z0 → o6_12 z1 = (acOf _ _ _ ff) z1) ∨ r14 = (-9) from (Or.inl ⟨kk, hf.1, he, hac⟩)) (show okK k from gk)) (cwV 2 X.2.2.2.2.2.1 gX6_boat_X6_actOf rfl rfl rfl (by decide +kernel) ⟨Nat.le_of_ble_eq_true rfl, Nat.le_of_ble_eq_true rfl⟩) 0 5 rfl rfl rfl rfl hl.1 rfl (Nat.le_of_ble_eq_true rfl) ⟨Nat.le_of_ble_eq_true rfl, Nat.le_of_ble_eq_true rfl⟩ dX6_boat_50 (fun r16 u17 H locs w50 hW => ?_)
            have hW : Wd D A s.heap H locs (wM cI cZ mq ma (sF (sF (sF mg 17 o3_9) 18 o5_11) 20 o7_13) mh (sF (sF (sF mF 12 o4_10) 16 o2_8) 19 o6_12) (sF mE 15 o1_7)) := hW
            replace w50 : (∀ z0, z0 ≤ 40 → r14 = nI z0 → r16 = rowA z0 (acOf _ _ _ ff) k) ∧ (r14 = (-9) → r16 = (-9)) := w50
            refine x_goto X 58 dX6_boat_53 (by decide) ?_
            exact x_iret X hW rfl (o1_7, o2_8, o3_9, o4_10, o5_11, o6_12, o7_13) (⟨by unfold BoatAns; rw [onR_in hi (by omega)]; rw [onR_in hj (by omega)]; rw [if_neg (by omega)]; rw [if_pos gk]; exact Or.inl ⟨kk, ff, hf, w50.1 kk hf.1 he⟩, w46.2⟩) rfl dX6_boat_58
          · refine x_iload_n X dX6_boat_49 rfl (lv_at hl 3 rfl) ?_
            refine x_callVi0 X hW (As := [.int r14, .int k]) (rest := []) (c_X6_actOf l D cI cZ cO mq ma (sF (sF (sF mg 17 o3_9) 18 o5_11) 20 o7_13) mh (sF (sF (sF mF 12 o4_10) 16 o2_8) 19 o6_12) (sF mE 15 o1_7) _ r14 k (fun _ => 0) (show (∃ z0, z0 ≤ 40 ∧ r14 = nI z0 ∧ ∀ z1, z1 < z0 → o6_12 z1 = (fun _ => 0) z1) ∨ r14 = (-9) from (Or.inr he)) (show okK k from gk)) (cwV 2 X.2.2.2.2.2.1 gX6_boat_X6_actOf rfl rfl rfl (by decide +kernel) ⟨Nat.le_of_ble_eq_true rfl, Nat.le_of_ble_eq_true rfl⟩) 0 5 rfl rfl rfl rfl hl.1 rfl (Nat.le_of_ble_eq_true rfl) ⟨Nat.le_of_ble_eq_true rfl, Nat.le_of_ble_eq_true rfl⟩ dX6_boat_50 (fun r18 u19 H locs w50 hW => ?_)
            have hW : Wd D A s.heap H locs (wM cI cZ mq ma (sF (sF (sF mg 17 o3_9) 18 o5_11) 20 o7_13) mh (sF (sF (sF mF 12 o4_10) 16 o2_8) 19 o6_12) (sF mE 15 o1_7)) := hW
            replace w50 : (∀ z0, z0 ≤ 40 → r14 = nI z0 → r18 = rowA z0 (fun _ => 0) k) ∧ (r14 = (-9) → r18 = (-9)) := w50
            refine x_goto X 58 dX6_boat_53 (by decide) ?_
            exact x_iret X hW rfl (o1_7, o2_8, o3_9, o4_10, o5_11, o6_12, o7_13) (⟨by unfold BoatAns; rw [onR_in hi (by omega)]; rw [onR_in hj (by omega)]; rw [if_neg (by omega)]; rw [if_pos gk]; exact Or.inr ⟨hnon, w50.2 he⟩, w46.2⟩) rfl dX6_boat_58
        · subst w34
          have gk : ¬ okK k := fun q => h34 ((okK_iff (by decide) (by decide)).mpr q)
          refine n_if_eq X 56 dX6_boat_37 (by decide) (by decide) (fun c37 => ?_) (fun c37 => by exact absurd c37 (by decide))
          refine x_bipush (v := (-2 : Int32)) X dX6_boat_56 (by decide) ?_
          exact x_iret X hW rfl (mE 15, mF 16, mg 17, mF 12, mg 18, mF 19, mg 20) (⟨by unfold BoatAns; rw [onR_in hi (by omega)]; rw [onR_in hj (by omega)]; rw [if_neg (by omega)]; rw [if_neg gk], hw⟩) rfl dX6_boat_58
      · refine x_bipush (v := (-3 : Int32)) X dX6_boat_23 (by decide) ?_
        exact x_iret X hW rfl (mE 15, mF 16, mg 17, mF 12, mg 18, mF 19, mg 20) (⟨by unfold BoatAns; rw [onR_in hi (by omega)]; rw [onR_in hj (by omega)]; rw [if_pos (by omega)], hw⟩) rfl dX6_boat_25
set_option maxHeartbeats 4000000 in
set_option maxRecDepth 100000 in
theorem c_X6_raise (l : Launch) (D : va_G) (cI cZ cO : ClassId) (mq : Nat) (ma : Nat → Nat) (mg : Nat → Nat) (mh : Nat → Int32) (mF : Nat → Nat → Nat) (mE : Nat → Nat → Int32) (sz : Nat) (x : Int32) (v : Int32) (k : Int32)  (h02 : mg 2 = 0 ∨ 2 ≤ mg 2) (hlv : ∀ z0, mF 4 z0 ≤ 9) (hn : mg 2 ≤ 4) (hk : ∀ z0, mF 3 z0 ≤ 2) (hm : ∀ z0, mF 5 z0 ≤ 9) (hw : ∀ z0, mF 12 z0 ≤ 9) (hrn : mg 1 ≤ 3) : Met l yX6_raise wsX6_raise ({ frames := 5, cells := 0, slots := 0, locals := 115 }) (va_Pc [.ref mq, .int x, .int v, .int k] (st_W D (ty3 cI cZ cO) (wM cI cZ mq ma mg mh mF mE) sz)) (va_Qi (fun (rr : Int32) (u : (Nat → Int32) × (Nat → Nat) × (Nat) × (Nat → Nat) × (Nat) × (Nat → Nat) × (Nat)) => RaiseAns (mg 2) (mg 1) (mF 3) (mF 4) (mF 5) x v k rr ∧ ∀ z0, u.2.2.2.1 z0 ≤ 9) (fun u t => at_W D (ty3 cI cZ cO) (va_A (wM cI cZ mq ma mg mh mF mE) sz) (wM cI cZ mq ma (sF (sF (sF mg 17 u.2.2.1) 18 u.2.2.2.2.1) 20 u.2.2.2.2.2.2) mh (sF (sF (sF mF 12 u.2.2.2.1) 16 u.2.1) 19 u.2.2.2.2.2.1) (sF mE 15 u.1)) t) (va_A (wM cI cZ mq ma mg mh mF mE) sz)) 0 0 (va_A (wM cI cZ mq ma mg mh mF mE) sz) := by
  refine Met.goi (cc := cX6_raise) (maxL := 4) (ret := (some .int)) (by decide) rfl (Nat.le_of_ble_eq_true rfl) (fun p e s m below meth c A ls X hW hl => ?_)
  have hi6 : ∀ w ∈ wsX60, w ∈ wsX6_raise := fun w h => List.mem_cons_of_mem _ (List.mem_append_right _ h)
  have hl : lv_has ls 4 [(0, .ref mq), (1, .int x), (2, .int v), (3, .int k)] := hl
  refine x_aload_n X dX6_raise_0 rfl (lv_at hl 0 rfl) ?_
  refine x_iload_n X dX6_raise_1 rfl (lv_at hl 1 rfl) ?_
  refine x_callVi0 X hW (As := [.int x]) (rest := []) (c_X6_noReach l D cI cZ cO mq ma mg mh mF mE _ x (show (mg 2) ≤ 4 from (by first | assumption | omega))) (cwV 1 X.2.2.2.2.2.1 gX6_raise_X6_noReach rfl rfl rfl (by decide +kernel) ⟨Nat.le_of_ble_eq_true rfl, Nat.le_of_ble_eq_true rfl⟩) 0 5 rfl rfl rfl rfl hl.1 rfl (Nat.le_of_ble_eq_true rfl) ⟨Nat.le_of_ble_eq_true rfl, Nat.le_of_ble_eq_true rfl⟩ dX6_raise_2 (fun r1 u2 H locs w2 hW => ?_)
  have hW : Wd D A s.heap H locs (wM cI cZ mq ma mg mh mF mE) := hW
  replace w2 : (r1 = nI 1 ∧ (¬ inR x ((mg 2))) ∨ r1 = nI 0 ∧ ¬ (¬ inR x ((mg 2)))) := w2
  rcases w2 with ⟨w2, h2⟩ | ⟨w2, h2⟩
  · subst w2
    have gx := h2
    refine n_if_eq X 10 dX6_raise_5 (by decide) (by decide) (fun c5 => by exact absurd c5 (by decide)) (fun c5 => ?_)
    refine x_iconst (v := (-1 : Int32)) X dX6_raise_8 (by decide) ?_
    exact x_iret X hW rfl (mE 15, mF 16, mg 17, mF 12, mg 18, mF 19, mg 20) (⟨by unfold RaiseAns; rw [onR_out gx], hw⟩) rfl dX6_raise_9
  · subst w2
    obtain ⟨j, hj, rfl⟩ := inR_ex (Classical.not_not.mp h2) (by omega)
    refine n_if_eq X 10 dX6_raise_5 (by decide) (by decide) (fun c5 => ?_) (fun c5 => by exact absurd c5 (by decide))
    refine x_iload_n X dX6_raise_10 rfl (lv_at hl 2 rfl) ?_
    refine x_i2l (v := v.toInt64) X dX6_raise_11 rfl ?_
    refine x_lconst (v := 0) X dX6_raise_12 (by decide) ?_
    refine x_ldc2 (v := (9)) X (List.mem_of_getElem? (i := 1) rfl) dX6_raise_13 ?_
    refine x_callSie X hW (As := [.long v.toInt64, .long (0 : Int64), .long (9 : Int64)]) (rest := []) (c_X6_in l D cI cZ cO  _ v.toInt64 (0 : Int64) (9 : Int64)) (va_cwS 3 X.2.2.2.2.2.1 gX6_raise_X6_in rfl rfl rfl (by decide +kernel) ⟨Nat.le_of_ble_eq_true rfl, Nat.le_of_ble_eq_true rfl⟩) rfl hl.1 rfl (Nat.le_of_ble_eq_true rfl) ⟨Nat.le_of_ble_eq_true rfl, Nat.le_of_ble_eq_true rfl⟩ dX6_raise_16 (fun r3 u4 H locs w16 hW => ?_)
    have hW : Wd D A s.heap H locs (wM cI cZ mq ma mg mh mF mE) := hW
    replace w16 : (r3 = nI 1 ∧ ((0 : Int64).toInt ≤ v.toInt64.toInt ∧ v.toInt64.toInt ≤ (9 : Int64).toInt) ∨ r3 = nI 0 ∧ ¬ ((0 : Int64).toInt ≤ v.toInt64.toInt ∧ v.toInt64.toInt ≤ (9 : Int64).toInt)) := w16
    rcases w16 with ⟨w16, h16⟩ | ⟨w16, h16⟩
    · subst w16
      have gv := (in_iff (r := v) (n := 10) l_0 (by decide)).mp h16
      refine n_if_eq X 51 dX6_raise_19 (by decide) (by decide) (fun c19 => by exact absurd c19 (by decide)) (fun c19 => ?_)
      refine x_iload_n X dX6_raise_22 rfl (lv_at hl 3 rfl) ?_
      refine x_i2l (v := k.toInt64) X dX6_raise_23 rfl ?_
      refine x_ldc2 (v := (-1)) X (List.mem_of_getElem? (i := 2) rfl) dX6_raise_24 ?_
      refine x_ldc2 (v := (39)) X (List.mem_of_getElem? (i := 3) rfl) dX6_raise_27 ?_
      refine x_callSie X hW (As := [.long k.toInt64, .long (-1 : Int64), .long (39 : Int64)]) (rest := []) (c_X6_in l D cI cZ cO  _ k.toInt64 (-1 : Int64) (39 : Int64)) (va_cwS 3 X.2.2.2.2.2.1 gX6_raise_X6_in rfl rfl rfl (by decide +kernel) ⟨Nat.le_of_ble_eq_true rfl, Nat.le_of_ble_eq_true rfl⟩) rfl hl.1 rfl (Nat.le_of_ble_eq_true rfl) ⟨Nat.le_of_ble_eq_true rfl, Nat.le_of_ble_eq_true rfl⟩ dX6_raise_30 (fun r5 u6 H locs w30 hW => ?_)
      have hW : Wd D A s.heap H locs (wM cI cZ mq ma mg mh mF mE) := hW
      replace w30 : (r5 = nI 1 ∧ ((-1 : Int64).toInt ≤ k.toInt64.toInt ∧ k.toInt64.toInt ≤ (39 : Int64).toInt) ∨ r5 = nI 0 ∧ ¬ ((-1 : Int64).toInt ≤ k.toInt64.toInt ∧ k.toInt64.toInt ≤ (39 : Int64).toInt)) := w30
      rcases w30 with ⟨w30, h30⟩ | ⟨w30, h30⟩
      · subst w30
        have gk := (okK_iff (by decide) (by decide)).mp h30
        refine n_if_eq X 51 dX6_raise_33 (by decide) (by decide) (fun c33 => by exact absurd c33 (by decide)) (fun c33 => ?_)
        refine x_aload_n X dX6_raise_36 rfl (lv_at hl 0 rfl) ?_
        refine x_aload_n X dX6_raise_37 rfl (lv_at hl 0 rfl) ?_
        refine x_iconst (v := nI 3) X dX6_raise_38 (by decide) ?_
        refine x_iload_n X dX6_raise_39 rfl (lv_at hl 1 rfl) ?_
        refine x_iload_n X dX6_raise_40 rfl (lv_at hl 2 rfl) ?_
        refine x_callVi0 X hW (As := [.int (nI 3), .int (nI j), .int v]) (rest := [.ref mq]) (c_X6_fewest l D cI cZ cO mq ma mg mh mF mE _ 3 j v (show 3 < 4 from (by omega)) (show j < (mg 2) from (by omega)) (show ∀ z0, (mF 4) z0 ≤ 9 from (by first | assumption | omega)) (show 2 ≤ (mg 2) from (by omega)) (show (mg 2) ≤ 4 from (by first | assumption | omega)) (show ∀ z0, (mF 3) z0 ≤ 2 from (by first | assumption | omega)) (show ∀ z0, (mF 5) z0 ≤ 9 from (by first | assumption | omega)) (show ∀ z0, (mF 12) z0 ≤ 9 from (by first | assumption | omega)) (show (mg 1) ≤ 3 from (by first | assumption | omega))) (cwV 3 X.2.2.2.2.2.1 gX6_raise_X6_fewest rfl rfl rfl (by decide +kernel) ⟨Nat.le_of_ble_eq_true rfl, Nat.le_of_ble_eq_true rfl⟩) 0 5 rfl rfl rfl rfl hl.1 rfl (Nat.le_of_ble_eq_true rfl) ⟨Nat.le_of_ble_eq_true rfl, Nat.le_of_ble_eq_true rfl⟩ dX6_raise_41 (fun r14 u15 H locs w41 hW => ?_)
        obtain ⟨o1_7, o2_8, o3_9, o4_10, o5_11, o6_12, o7_13⟩ := u15
        have hW : Wd D A s.heap H locs (wM cI cZ mq ma (sF (sF (sF mg 17 o3_9) 18 o5_11) 20 o7_13) mh (sF (sF (sF mF 12 o4_10) 16 o2_8) 19 o6_12) (sF mE 15 o1_7)) := hW
        replace w41 : ((∃ z0 z1, Fnd (nxW ((mg 2)) ((mg 1)) (wnN ((mg 2)) ((mF 3)) ((mF 5)))) ((mg 2)) (wy ((mg 2)) 3 ((mF 4))) (GW j v) z0 z1 ∧ r14 = nI z0 ∧ ∀ z2, z2 < z0 → o6_12 z2 = acOf (nxW ((mg 2)) ((mg 1)) (wnN ((mg 2)) ((mF 3)) ((mF 5)))) ((mg 2)) (wy ((mg 2)) 3 ((mF 4))) z1 z2) ∨ (Non (nxW ((mg 2)) ((mg 1)) (wnN ((mg 2)) ((mF 3)) ((mF 5)))) ((mg 2)) (wy ((mg 2)) 3 ((mF 4))) (GW j v) ∧ r14 = (-9))) ∧ ∀ z0, o4_10 z0 ≤ 9 := w41
        rcases w41.1 with ⟨kk, ff, hf, he, hac⟩ | ⟨hnon, he⟩
        · refine x_iload_n X dX6_raise_44 rfl (lv_at hl 3 rfl) ?_
          refine x_callVi0 X hW (As := [.int r14, .int k]) (rest := []) (c_X6_actOf l D cI cZ cO mq ma (sF (sF (sF mg 17 o3_9) 18 o5_11) 20 o7_13) mh (sF (sF (sF mF 12 o4_10) 16 o2_8) 19 o6_12) (sF mE 15 o1_7) _ r14 k (acOf _ _ _ ff) (show (∃ z0, z0 ≤ 40 ∧ r14 = nI z0 ∧ ∀ z1, z1 < z0 → o6_12 z1 = (acOf _ _ _ ff) z1) ∨ r14 = (-9) from (Or.inl ⟨kk, hf.1, he, hac⟩)) (show okK k from gk)) (cwV 2 X.2.2.2.2.2.1 gX6_raise_X6_actOf rfl rfl rfl (by decide +kernel) ⟨Nat.le_of_ble_eq_true rfl, Nat.le_of_ble_eq_true rfl⟩) 0 5 rfl rfl rfl rfl hl.1 rfl (Nat.le_of_ble_eq_true rfl) ⟨Nat.le_of_ble_eq_true rfl, Nat.le_of_ble_eq_true rfl⟩ dX6_raise_45 (fun r16 u17 H locs w45 hW => ?_)
          have hW : Wd D A s.heap H locs (wM cI cZ mq ma (sF (sF (sF mg 17 o3_9) 18 o5_11) 20 o7_13) mh (sF (sF (sF mF 12 o4_10) 16 o2_8) 19 o6_12) (sF mE 15 o1_7)) := hW
          replace w45 : (∀ z0, z0 ≤ 40 → r14 = nI z0 → r16 = rowA z0 (acOf _ _ _ ff) k) ∧ (r14 = (-9) → r16 = (-9)) := w45
          refine x_goto X 53 dX6_raise_48 (by decide) ?_
          exact x_iret X hW rfl (o1_7, o2_8, o3_9, o4_10, o5_11, o6_12, o7_13) (⟨by unfold RaiseAns; rw [onR_in hj (by omega)]; rw [if_pos ⟨gv, gk⟩]; exact Or.inl ⟨kk, ff, hf, w45.1 kk hf.1 he⟩, w41.2⟩) rfl dX6_raise_53
        · refine x_iload_n X dX6_raise_44 rfl (lv_at hl 3 rfl) ?_
          refine x_callVi0 X hW (As := [.int r14, .int k]) (rest := []) (c_X6_actOf l D cI cZ cO mq ma (sF (sF (sF mg 17 o3_9) 18 o5_11) 20 o7_13) mh (sF (sF (sF mF 12 o4_10) 16 o2_8) 19 o6_12) (sF mE 15 o1_7) _ r14 k (fun _ => 0) (show (∃ z0, z0 ≤ 40 ∧ r14 = nI z0 ∧ ∀ z1, z1 < z0 → o6_12 z1 = (fun _ => 0) z1) ∨ r14 = (-9) from (Or.inr he)) (show okK k from gk)) (cwV 2 X.2.2.2.2.2.1 gX6_raise_X6_actOf rfl rfl rfl (by decide +kernel) ⟨Nat.le_of_ble_eq_true rfl, Nat.le_of_ble_eq_true rfl⟩) 0 5 rfl rfl rfl rfl hl.1 rfl (Nat.le_of_ble_eq_true rfl) ⟨Nat.le_of_ble_eq_true rfl, Nat.le_of_ble_eq_true rfl⟩ dX6_raise_45 (fun r18 u19 H locs w45 hW => ?_)
          have hW : Wd D A s.heap H locs (wM cI cZ mq ma (sF (sF (sF mg 17 o3_9) 18 o5_11) 20 o7_13) mh (sF (sF (sF mF 12 o4_10) 16 o2_8) 19 o6_12) (sF mE 15 o1_7)) := hW
          replace w45 : (∀ z0, z0 ≤ 40 → r14 = nI z0 → r18 = rowA z0 (fun _ => 0) k) ∧ (r14 = (-9) → r18 = (-9)) := w45
          refine x_goto X 53 dX6_raise_48 (by decide) ?_
          exact x_iret X hW rfl (o1_7, o2_8, o3_9, o4_10, o5_11, o6_12, o7_13) (⟨by unfold RaiseAns; rw [onR_in hj (by omega)]; rw [if_pos ⟨gv, gk⟩]; exact Or.inr ⟨hnon, w45.2 he⟩, w41.2⟩) rfl dX6_raise_53
      · subst w30
        have gk : ¬ okK k := fun q => h30 ((okK_iff (by decide) (by decide)).mpr q)
        refine n_if_eq X 51 dX6_raise_33 (by decide) (by decide) (fun c33 => ?_) (fun c33 => by exact absurd c33 (by decide))
        refine x_bipush (v := (-2 : Int32)) X dX6_raise_51 (by decide) ?_
        exact x_iret X hW rfl (mE 15, mF 16, mg 17, mF 12, mg 18, mF 19, mg 20) (⟨by unfold RaiseAns; rw [onR_in hj (by omega)]; rw [if_neg (fun q => gk q.2)], hw⟩) rfl dX6_raise_53
    · subst w16
      have gv : ¬ inR v 10 := fun q => h16 ((in_iff (r := v) (n := 10) l_0 (by decide)).mpr q)
      refine n_if_eq X 51 dX6_raise_19 (by decide) (by decide) (fun c19 => ?_) (fun c19 => by exact absurd c19 (by decide))
      refine x_bipush (v := (-2 : Int32)) X dX6_raise_51 (by decide) ?_
      exact x_iret X hW rfl (mE 15, mF 16, mg 17, mF 12, mg 18, mF 19, mg 20) (⟨by unfold RaiseAns; rw [onR_in hj (by omega)]; rw [if_neg (fun q => gv q.1)], hw⟩) rfl dX6_raise_53
