/-! odds -/
theorem lN_00 : lN 0 = 0 := by decide
theorem lN_11 : lN 1 = 1 := by decide
theorem lN_z {a : Nat} (h : a < 2 ^ 63) : lN a = 0 ↔ a = 0 := by rw [← lN_00]; exact pk_lEQ h (by decide)
theorem p2le : ∀ {N : Nat}, N < 9 → 2 ^ N ≤ 256 := by decide
theorem p2pos (N : Nat) : 1 ≤ 2 ^ N := Nat.one_le_two_pow
theorem shl1 : ∀ {N : Nat}, N < 9 → nI 1 <<< (nI N &&& 31) = nI (2 ^ N) := by decide
theorem shlL : ∀ {N : Nat}, N < 9 → (1 : Int64) <<< ((nI N).toInt64 &&& 63) = lN (2 ^ N) := by decide
theorem bit_all : ∀ s, s < 256 → ∀ x, x < 8 → (nI s >>> (nI x &&& 31)) &&& nI 1 = nI (s / 2 ^ x % 2) := by decide +kernel
theorem bit_sx {s x N : Nat} (hN : N < 9) (hs : s < 2 ^ N) (hx : x < N) : (nI s >>> (nI x &&& 31)) &&& nI 1 = nI (s / 2 ^ x % 2) := bit_all s (by have := p2le hN; omega) x (by omega)
def bcnt (s : Nat) : Nat → Nat
  | 0 => 0
  | x + 1 => bcnt s x + s / 2 ^ x % 2
def lvB (l0 rn s x : Nat) : Nat := min 9 (l0 + bcnt s x * rn)
theorem lvB_0 {l0 rn s : Nat} (h : l0 ≤ 9) : l0 = lvB l0 rn s 0 := by unfold lvB bcnt; omega
theorem lvB_le (l0 rn s x : Nat) : lvB l0 rn s x ≤ 9 := by unfold lvB; omega
theorem lvB_s {l0 rn s x : Nat} : min 9 (lvB l0 rn s x + s / 2 ^ x % 2 * rn) = lvB l0 rn s (x + 1) := by
  unfold lvB
  show _ = min 9 (l0 + (bcnt s x + s / 2 ^ x % 2) * rn)
  rw [Nat.add_mul]; omega
theorem mul3 {t r : Nat} (ht : t < 2) (hr : r ≤ 3) : t * r ≤ 3 := by
  rcases (show t = 0 ∨ t = 1 by omega) with rfl | rfl <;> omega
/-- in how many of the first s rows of nights the first reach stands at v at least -/
def oddN (l0 rn N v : Nat) : Nat → Nat
  | 0 => 0
  | s + 1 => oddN l0 rn N v s + if v ≤ lvB l0 rn s N then 1 else 0
theorem oddN_le (l0 rn N v : Nat) : ∀ s, oddN l0 rn N v s ≤ s
  | 0 => Nat.le_refl _
  | s + 1 => by
    have := oddN_le l0 rn N v s
    show oddN l0 rn N v s + (if v ≤ lvB l0 rn s N then 1 else 0) ≤ s + 1
    split <;> omega
theorem oddN_y {l0 rn N v s : Nat} (h : v ≤ lvB l0 rn s N) : oddN l0 rn N v (s + 1) = oddN l0 rn N v s + 1 := by
  show oddN l0 rn N v s + (if v ≤ lvB l0 rn s N then 1 else 0) = _
  rw [if_pos h]
theorem oddN_n {l0 rn N v s : Nat} (h : ¬ v ≤ lvB l0 rn s N) : oddN l0 rn N v (s + 1) = oddN l0 rn N v s := by
  show oddN l0 rn N v s + (if v ≤ lvB l0 rn s N then 1 else 0) = _
  rw [if_neg h]; rfl
def oddA (l0 rn N v w : Nat) : Int64 := lN ((if w = 0 then oddN l0 rn N v (2 ^ N) else 2 ^ N) / Nat.gcd (oddN l0 rn N v (2 ^ N)) (2 ^ N))
def aOdds (n rn l0 : Nat) (k v w : Int32) : Int64 := if n = 0 then -9223372036854775808 else onR k 9 (-9223372036854775808) (fun N => onR v 10 (-9223372036854775808) (fun V => onR w 2 (-9223372036854775808) (fun W => oddA l0 rn N V W)))
theorem gcd_st {x y : Nat} : Nat.gcd y (x % y) = Nat.gcd x y := by rw [Nat.gcd_comm, ← Nat.gcd_rec, Nat.gcd_comm]

set_option maxHeartbeats 4000000 in
set_option maxRecDepth 100000 in
theorem c_X6_share (l : Launch) (D : va_G) (cI cZ cO : ClassId)  (sz : Nat) (w : Nat) (a : Nat) (b : Nat) (ha : a ≤ 256) (hb : 1 ≤ b ∧ b ≤ 256) (hw : w ≤ 1) : Met l yX6_share wsX6_share ({ frames := 0, cells := 0, slots := 0, locals := 0 }) (va_Pc [.long (lN a), .long (lN b), .int (nI w)] (st_W D (ty3 cI cZ cO) ([] : va_W) sz)) (va_Ql (fun (rr : Int64) (u : Unit) => rr = lN ((if w = 0 then a else b) / Nat.gcd a b)) (fun u t => at_W D (ty3 cI cZ cO) (va_A ([] : va_W) sz) ([] : va_W) t) (va_A ([] : va_W) sz)) 0 0 (va_A ([] : va_W) sz) := by
  refine Met.gol (cc := cX6_share) (maxL := 11) (ret := (some .long)) (by decide) rfl (Nat.le_of_ble_eq_true rfl) (fun p e s m below meth c A ls X hW hl => ?_)
  have hl : lv_has ls 11 [(0, .long (lN a)), (2, .long (lN b)), (4, .int (nI w))] := hl
  refine x_lload_n X dX6_share_0 rfl (lv_at hl 0 rfl) ?_
  refine x_lstore X [(5, .long (lN a)), (0, .long (lN a)), (2, .long (lN b)), (4, .int (nI w))] dX6_share_1 hl (by decide) rfl (fun ls hl => ?_)
  refine x_lload_n X dX6_share_3 rfl (lv_at hl 2 rfl) ?_
  refine x_lstore X [(7, .long (lN b)), (5, .long (lN a)), (0, .long (lN a)), (2, .long (lN b)), (4, .int (nI w))] dX6_share_4 hl (by decide) rfl (fun ls hl => ?_)
  refine W.loop (σ := (Nat) × (Nat)) (fun u H locs ls => (Nat.gcd u.1 u.2 = Nat.gcd a b ∧ u.1 ≤ 256 ∧ u.2 ≤ 256 ∧ (1 ≤ u.1 ∨ 1 ≤ u.2)) ∧ Wd D A s.heap H locs ([] : va_W) ∧ lv_has ls 11 [(7, .long (lN u.2)), (5, .long (lN u.1)), (0, .long (lN a)), (2, .long (lN b)), (4, .int (nI w))]) (fun u => u.2) (fun u H locs ls hI ih => ?_) (a, b) ⟨(show Nat.gcd a b = Nat.gcd a b ∧ a ≤ 256 ∧ b ≤ 256 ∧ (1 ≤ a ∨ 1 ≤ b) from ⟨rfl, by omega, by omega, by omega⟩), hW, hl⟩
  obtain ⟨xa, ya⟩ := u
  obtain ⟨hv, hW, hl⟩ := hI
  have hv : Nat.gcd xa ya = Nat.gcd a b ∧ xa ≤ 256 ∧ ya ≤ 256 ∧ (1 ≤ xa ∨ 1 ≤ ya) := hv
  have hW : Wd D A s.heap H locs ([] : va_W) := hW
  have hl : lv_has ls 11 [(7, .long (lN ya)), (5, .long (lN xa)), (0, .long (lN a)), (2, .long (lN b)), (4, .int (nI w))] := hl
  have ih6 := ih
  refine x_lload X dX6_share_6 (lv_at hl 0 rfl) ?_
  refine x_lconst (v := 0) X dX6_share_8 (by decide) ?_
  refine x_lcmp X dX6_share_9 ?_
  refine x_if_eq X 31 dX6_share_10 (by decide) (fun c10 => ?_) (fun c10 => ?_)
  · have hya : ya = 0 := (lN_z (by omega)).mp (lcmp_eq.mp c10)
    have hxa : xa = Nat.gcd a b := by rw [← hv.1, hya, Nat.gcd_zero_right]
    refine x_iload X dX6_share_31 (lv_at hl 4 rfl) ?_
    refine n_if_ne X 40 dX6_share_33 (by decide) (by omega) (fun c33 => ?_) (fun c33 => ?_)
    · refine x_lload_n X dX6_share_40 rfl (lv_at hl 3 rfl) ?_
      refine x_lload X dX6_share_41 (lv_at hl 1 rfl) ?_
      refine x_ldiv (v := lN (b / xa)) X dX6_share_43 (fun q => by have := (lN_z (by omega)).mp q; omega) (pk_lDiv (by omega) (by omega) (by omega)) ?_
      exact x_lret X hW rfl () ((by rw [hxa]; first | rw [if_pos (show w = 0 by omega)] | rw [if_neg (show ¬ w = 0 by omega)])) rfl dX6_share_44
    · refine x_lload_n X dX6_share_36 rfl (lv_at hl 2 rfl) ?_
      refine x_goto X 41 dX6_share_37 (by decide) ?_
      refine x_lload X dX6_share_41 (lv_at hl 1 rfl) ?_
      refine x_ldiv (v := lN (a / xa)) X dX6_share_43 (fun q => by have := (lN_z (by omega)).mp q; omega) (pk_lDiv (by omega) (by omega) (by omega)) ?_
      exact x_lret X hW rfl () ((by rw [hxa]; first | rw [if_pos (show w = 0 by omega)] | rw [if_neg (show ¬ w = 0 by omega)])) rfl dX6_share_44
  · have hya : ya ≠ 0 := fun q => c10 (lcmp_eq.mpr (by rw [q]; exact lN_00))
    have hmod : xa % ya < ya := Nat.mod_lt _ (by omega)
    refine x_lload X dX6_share_13 (lv_at hl 1 rfl) ?_
    refine x_lload X dX6_share_15 (lv_at hl 0 rfl) ?_
    refine x_lrem (v := lN (xa % ya)) X dX6_share_17 (fun q => hya ((lN_z (by omega)).mp q)) (pk_lRem (by omega) (by omega) (by omega)) ?_
    refine x_lstore X [(9, .long (lN (xa % ya))), (7, .long (lN ya)), (5, .long (lN xa)), (0, .long (lN a)), (2, .long (lN b)), (4, .int (nI w))] dX6_share_18 hl (by decide) rfl (fun ls hl => ?_)
    refine x_lload X dX6_share_20 (lv_at hl 1 rfl) ?_
    refine x_lstore X [(5, .long (lN ya)), (9, .long (lN (xa % ya))), (7, .long (lN ya)), (0, .long (lN a)), (2, .long (lN b)), (4, .int (nI w))] dX6_share_22 hl (by decide) rfl (fun ls hl => ?_)
    refine x_lload X dX6_share_24 (lv_at hl 1 rfl) ?_
    refine x_lstore X [(7, .long (lN (xa % ya))), (5, .long (lN ya)), (9, .long (lN (xa % ya))), (0, .long (lN a)), (2, .long (lN b)), (4, .int (nI w))] dX6_share_26 hl (by decide) rfl (fun ls hl => ?_)
    refine x_goto X 6 dX6_share_28 (by decide) ?_
    exact ih6 (ya, (xa % ya)) _ _ _ ⟨(show Nat.gcd ya (xa % ya) = Nat.gcd a b ∧ ya ≤ 256 ∧ (xa % ya) ≤ 256 ∧ (1 ≤ ya ∨ 1 ≤ (xa % ya)) from ⟨by rw [gcd_st]; exact hv.1, hv.2.2.1, by omega, by omega⟩), hW, lv_sub hl [0, 1, 3, 4, 5] rfl⟩ hmod
set_option maxHeartbeats 4000000 in
set_option maxRecDepth 100000 in
theorem c_X6_odds (l : Launch) (D : va_G) (cI cZ cO : ClassId) (mq : Nat) (ma : Nat → Nat) (mg : Nat → Nat) (mh : Nat → Int32) (mF : Nat → Nat → Nat) (mE : Nat → Nat → Int32) (sz : Nat) (k0 : Int32) (v0 : Int32) (w0 : Int32)  (hn : mg 2 ≤ 4) (hlv : ∀ z0, mF 4 z0 ≤ 9) (hrn : mg 1 ≤ 3) : Met l yX6_odds wsX6_odds ({ frames := 1, cells := 0, slots := 0, locals := 30 }) (va_Pc [.ref mq, .int k0, .int v0, .int w0] (st_W D (ty3 cI cZ cO) (wM cI cZ mq ma mg mh mF mE) sz)) (va_Ql (fun (rr : Int64) (u : Unit) => rr = aOdds (mg 2) (mg 1) (mF 4 0) k0 v0 w0) (fun u t => at_W D (ty3 cI cZ cO) (va_A (wM cI cZ mq ma mg mh mF mE) sz) (wM cI cZ mq ma mg mh mF mE) t) (va_A (wM cI cZ mq ma mg mh mF mE) sz)) 0 0 (va_A (wM cI cZ mq ma mg mh mF mE) sz) := by
  refine Met.gol (cc := cX6_odds) (maxL := 9) (ret := (some .long)) (by decide) rfl (Nat.le_of_ble_eq_true rfl) (fun p e s m below meth c A ls X hW hl => ?_)
  have hi6 : ∀ w ∈ wsX60, w ∈ wsX6_odds := fun w h => List.mem_cons_of_mem _ (List.mem_append_right _ h)
  have hl : lv_has ls 9 [(0, .ref mq), (1, .int k0), (2, .int v0), (3, .int w0)] := hl
  refine x_aload_n X dX6_odds_0 rfl (lv_at hl 0 rfl) ?_
  refine x_get X hW (v := .int (nI (mg 2))) hi6 0 rfl rfl 2 (by decide) (List.mem_of_getElem? (i := 1) rfl) rfl rfl dX6_odds_1 ?_
  refine n_if_eq X 41 dX6_odds_4 (by decide) (by omega) (fun c4 => ?_) (fun c4 => ?_)
  · refine x_callSle X hW (As := []) (rest := []) (c_X6_lost l D cI cZ cO  _ ) (va_cwS 0 X.2.2.2.2.2.1 gX6_odds_X6_lost rfl rfl rfl (by decide +kernel) ⟨Nat.le_of_ble_eq_true rfl, Nat.le_of_ble_eq_true rfl⟩) rfl hl.1 rfl (Nat.le_of_ble_eq_true rfl) ⟨Nat.le_of_ble_eq_true rfl, Nat.le_of_ble_eq_true rfl⟩ dX6_odds_41 (fun r1 u2 H locs w41 hW => ?_)
    have hW : Wd D A s.heap H locs (wM cI cZ mq ma mg mh mF mE) := hW
    replace w41 : r1 = (-9223372036854775808) := w41
    subst w41
    exact x_lret X hW rfl () ((by unfold aOdds; (try rw [if_pos (show mg 2 = 0 by omega)]); (try rfl); (try (unfold oddA; rw [es])))) rfl dX6_odds_44
  · refine x_iload_n X dX6_odds_7 rfl (lv_at hl 1 rfl) ?_
    refine x_i2l (v := k0.toInt64) X dX6_odds_8 rfl ?_
    refine x_lconst (v := 0) X dX6_odds_9 (by decide) ?_
    refine x_ldc2 (v := (8)) X (List.mem_of_getElem? (i := 2) rfl) dX6_odds_10 ?_
    refine x_callSie X hW (As := [.long k0.toInt64, .long (0 : Int64), .long (8 : Int64)]) (rest := []) (c_X6_in l D cI cZ cO  _ k0.toInt64 (0 : Int64) (8 : Int64)) (va_cwS 3 X.2.2.2.2.2.1 gX6_odds_X6_in rfl rfl rfl (by decide +kernel) ⟨Nat.le_of_ble_eq_true rfl, Nat.le_of_ble_eq_true rfl⟩) rfl hl.1 rfl (Nat.le_of_ble_eq_true rfl) ⟨Nat.le_of_ble_eq_true rfl, Nat.le_of_ble_eq_true rfl⟩ dX6_odds_13 (fun r3 u4 H locs w13 hW => ?_)
    have hW : Wd D A s.heap H locs (wM cI cZ mq ma mg mh mF mE) := hW
    replace w13 : (r3 = nI 1 ∧ ((0 : Int64).toInt ≤ k0.toInt64.toInt ∧ k0.toInt64.toInt ≤ (8 : Int64).toInt) ∨ r3 = nI 0 ∧ ¬ ((0 : Int64).toInt ≤ k0.toInt64.toInt ∧ k0.toInt64.toInt ≤ (8 : Int64).toInt)) := w13
    rcases w13 with ⟨w13, h13⟩ | ⟨w13, h13⟩
    · subst w13
      obtain ⟨N, hN, rfl⟩ := inR_ex ((in_iff (r := k0) (n := 9) l_0 (by decide)).mp h13) (by omega)
      refine n_if_eq X 41 dX6_odds_16 (by decide) (by decide) (fun c16 => by exact absurd c16 (by decide)) (fun c16 => ?_)
      refine x_iload_n X dX6_odds_19 rfl (lv_at hl 2 rfl) ?_
      refine x_i2l (v := v0.toInt64) X dX6_odds_20 rfl ?_
      refine x_lconst (v := 0) X dX6_odds_21 (by decide) ?_
      refine x_ldc2 (v := (9)) X (List.mem_of_getElem? (i := 3) rfl) dX6_odds_22 ?_
      refine x_callSie X hW (As := [.long v0.toInt64, .long (0 : Int64), .long (9 : Int64)]) (rest := []) (c_X6_in l D cI cZ cO  _ v0.toInt64 (0 : Int64) (9 : Int64)) (va_cwS 3 X.2.2.2.2.2.1 gX6_odds_X6_in rfl rfl rfl (by decide +kernel) ⟨Nat.le_of_ble_eq_true rfl, Nat.le_of_ble_eq_true rfl⟩) rfl hl.1 rfl (Nat.le_of_ble_eq_true rfl) ⟨Nat.le_of_ble_eq_true rfl, Nat.le_of_ble_eq_true rfl⟩ dX6_odds_25 (fun r5 u6 H locs w25 hW => ?_)
      have hW : Wd D A s.heap H locs (wM cI cZ mq ma mg mh mF mE) := hW
      replace w25 : (r5 = nI 1 ∧ ((0 : Int64).toInt ≤ v0.toInt64.toInt ∧ v0.toInt64.toInt ≤ (9 : Int64).toInt) ∨ r5 = nI 0 ∧ ¬ ((0 : Int64).toInt ≤ v0.toInt64.toInt ∧ v0.toInt64.toInt ≤ (9 : Int64).toInt)) := w25
      rcases w25 with ⟨w25, h25⟩ | ⟨w25, h25⟩
      · subst w25
        obtain ⟨V, hV, rfl⟩ := inR_ex ((in_iff (r := v0) (n := 10) l_0 (by decide)).mp h25) (by omega)
        refine n_if_eq X 41 dX6_odds_28 (by decide) (by decide) (fun c28 => by exact absurd c28 (by decide)) (fun c28 => ?_)
        refine x_iload_n X dX6_odds_31 rfl (lv_at hl 3 rfl) ?_
        refine x_i2l (v := w0.toInt64) X dX6_odds_32 rfl ?_
        refine x_lconst (v := 0) X dX6_odds_33 (by decide) ?_
        refine x_lconst (v := 1) X dX6_odds_34 (by decide) ?_
        refine x_callSie X hW (As := [.long w0.toInt64, .long (0 : Int64), .long (1 : Int64)]) (rest := []) (c_X6_in l D cI cZ cO  _ w0.toInt64 (0 : Int64) (1 : Int64)) (va_cwS 3 X.2.2.2.2.2.1 gX6_odds_X6_in rfl rfl rfl (by decide +kernel) ⟨Nat.le_of_ble_eq_true rfl, Nat.le_of_ble_eq_true rfl⟩) rfl hl.1 rfl (Nat.le_of_ble_eq_true rfl) ⟨Nat.le_of_ble_eq_true rfl, Nat.le_of_ble_eq_true rfl⟩ dX6_odds_35 (fun r7 u8 H locs w35 hW => ?_)
        have hW : Wd D A s.heap H locs (wM cI cZ mq ma mg mh mF mE) := hW
        replace w35 : (r7 = nI 1 ∧ ((0 : Int64).toInt ≤ w0.toInt64.toInt ∧ w0.toInt64.toInt ≤ (1 : Int64).toInt) ∨ r7 = nI 0 ∧ ¬ ((0 : Int64).toInt ≤ w0.toInt64.toInt ∧ w0.toInt64.toInt ≤ (1 : Int64).toInt)) := w35
        rcases w35 with ⟨w35, h35⟩ | ⟨w35, h35⟩
        · subst w35
          obtain ⟨Wn, hWn, rfl⟩ := inR_ex ((in_iff (r := w0) (n := 2) l_0 (by decide)).mp h35) (by omega)
          refine n_if_ne X 45 dX6_odds_38 (by decide) (by decide) (fun c38 => ?_) (fun c38 => by exact absurd c38 (by decide))
          have hp := p2le hN
          have hp1 := p2pos N
          have hl0 := hlv 0
          refine x_lconst (v := 0) X dX6_odds_45 (by decide) ?_
          refine x_lstore X [(4, .long (0 : Int64)), (0, .ref mq), (1, .int (nI N)), (2, .int (nI V)), (3, .int (nI Wn))] dX6_odds_46 hl (by decide) rfl (fun ls hl => ?_)
          refine x_iconst (v := nI 0) X dX6_odds_48 (by decide) ?_
          refine x_istore X [(6, .int (nI 0)), (4, .long (0 : Int64)), (0, .ref mq), (1, .int (nI N)), (2, .int (nI V)), (3, .int (nI Wn))] dX6_odds_49 hl (by decide) rfl (fun ls hl => ?_)
          refine W.loop (σ := (Nat)) (fun u H locs ls => (u ≤ 2 ^ N) ∧ Wd D A s.heap H locs (wM cI cZ mq ma mg mh mF mE) ∧ lv_has ls 9 [(6, .int (nI u)), (4, .long (lN (oddN (mF 4 0) (mg 1) N V u))), (0, .ref mq), (1, .int (nI N)), (2, .int (nI V)), (3, .int (nI Wn))]) (fun u => 2 ^ N - u) (fun u H locs ls hI ih => ?_) 0 ⟨(show 0 ≤ 2 ^ N from (by omega)), hW, hl⟩
          obtain ⟨sx, sxe⟩ : ∃ z, z = u := ⟨_, rfl⟩
          subst sxe
          obtain ⟨hv, hW, hl⟩ := hI
          have hv : sx ≤ 2 ^ N := hv
          have hW : Wd D A s.heap H locs (wM cI cZ mq ma mg mh mF mE) := hW
          have hl : lv_has ls 9 [(6, .int (nI sx)), (4, .long (lN (oddN (mF 4 0) (mg 1) N V sx))), (0, .ref mq), (1, .int (nI N)), (2, .int (nI V)), (3, .int (nI Wn))] := hl
          have ih51 := ih
          refine x_iload X dX6_odds_51 (lv_at hl 0 rfl) ?_
          refine x_iconst (v := nI 1) X dX6_odds_53 (by decide) ?_
          refine x_iload_n X dX6_odds_54 rfl (lv_at hl 3 rfl) ?_
          refine x_ishl (v := nI (2 ^ N)) X dX6_odds_55 (shl1 hN) ?_
          refine n_icmp_ge X 137 dX6_odds_56 (by decide) (by omega) (by omega) (fun c56 => ?_) (fun c56 => ?_)
          · have es : sx = 2 ^ N := by omega
            have hod := oddN_le (mF 4 0) (mg 1) N V sx
            refine x_lload X dX6_odds_137 (lv_at hl 1 rfl) ?_
            refine x_lconst (v := 1) X dX6_odds_139 (by decide) ?_
            refine x_iload_n X dX6_odds_140 rfl (lv_at hl 3 rfl) ?_
            refine x_lshl (v := lN (2 ^ N)) X dX6_odds_141 (shlL hN) ?_
            refine x_iload_n X dX6_odds_142 rfl (lv_at hl 5 rfl) ?_
            refine x_callSle X hW (As := [.long (lN (oddN (mF 4 0) (mg 1) N V sx)), .long (lN (2 ^ N)), .int (nI Wn)]) (rest := []) (c_X6_share l D cI cZ cO  _ Wn (oddN (mF 4 0) (mg 1) N V sx) (2 ^ N) (show (oddN (mF 4 0) (mg 1) N V sx) ≤ 256 from (by first | assumption | omega)) (show 1 ≤ (2 ^ N) ∧ (2 ^ N) ≤ 256 from (by first | assumption | omega)) (show Wn ≤ 1 from (by omega))) (va_cwS 3 X.2.2.2.2.2.1 gX6_odds_X6_share rfl rfl rfl (by decide +kernel) ⟨Nat.le_of_ble_eq_true rfl, Nat.le_of_ble_eq_true rfl⟩) rfl hl.1 rfl (Nat.le_of_ble_eq_true rfl) ⟨Nat.le_of_ble_eq_true rfl, Nat.le_of_ble_eq_true rfl⟩ dX6_odds_143 (fun r9 u10 H locs w143 hW => ?_)
            have hW : Wd D A s.heap H locs (wM cI cZ mq ma mg mh mF mE) := hW
            replace w143 : r9 = lN ((if Wn = 0 then (oddN (mF 4 0) (mg 1) N V sx) else (2 ^ N)) / Nat.gcd (oddN (mF 4 0) (mg 1) N V sx) (2 ^ N)) := w143
            subst w143
            exact x_lret X hW rfl () ((by unfold aOdds; (try rw [if_neg (show ¬ mg 2 = 0 by omega)]); (try rw [onR_in hN (by omega)]); (try rw [onR_in hV (by omega)]); (try rw [onR_in hWn (by omega)]); (try rfl); (try (unfold oddA; rw [es])))) rfl dX6_odds_146
          · refine x_aload_n X dX6_odds_59 rfl (lv_at hl 2 rfl) ?_
            refine x_get X hW (v := .ref (ma 4)) hi6 0 rfl rfl 4 (by decide) (List.mem_of_getElem? (i := 4) rfl) rfl rfl dX6_odds_60 ?_
            refine x_iconst (v := nI 0) X dX6_odds_63 (by decide) ?_
            refine n_iald X hW (f := mF 4) 2 0 rfl rfl (by decide) (by decide) dX6_odds_64 ?_
            refine n_as0 (b := lvB (mF 4 0) (mg 1) sx 0) (lvB_0 hl0) ?_
            refine x_istore X [(7, .int (nI (lvB (mF 4 0) (mg 1) sx 0))), (6, .int (nI sx)), (4, .long (lN (oddN (mF 4 0) (mg 1) N V sx))), (0, .ref mq), (1, .int (nI N)), (2, .int (nI V)), (3, .int (nI Wn))] dX6_odds_65 hl (by decide) rfl (fun ls hl => ?_)
            refine x_iconst (v := nI 0) X dX6_odds_67 (by decide) ?_
            refine x_istore X [(8, .int (nI 0)), (7, .int (nI (lvB (mF 4 0) (mg 1) sx 0))), (6, .int (nI sx)), (4, .long (lN (oddN (mF 4 0) (mg 1) N V sx))), (0, .ref mq), (1, .int (nI N)), (2, .int (nI V)), (3, .int (nI Wn))] dX6_odds_68 hl (by decide) rfl (fun ls hl => ?_)
            refine W.loop (σ := (Nat)) (fun u H locs ls => (u ≤ N) ∧ Wd D A s.heap H locs (wM cI cZ mq ma mg mh mF mE) ∧ lv_has ls 9 [(8, .int (nI u)), (7, .int (nI (lvB (mF 4 0) (mg 1) sx u))), (6, .int (nI sx)), (4, .long (lN (oddN (mF 4 0) (mg 1) N V sx))), (0, .ref mq), (1, .int (nI N)), (2, .int (nI V)), (3, .int (nI Wn))]) (fun u => N - u) (fun u H locs ls hI ih => ?_) 0 ⟨(show 0 ≤ N from (by omega)), hW, hl⟩
            obtain ⟨x, xe⟩ : ∃ z, z = u := ⟨_, rfl⟩
            subst xe
            obtain ⟨hv2, hW, hl⟩ := hI
            have hv2 : x ≤ N := hv2
            have hW : Wd D A s.heap H locs (wM cI cZ mq ma mg mh mF mE) := hW
            have hl : lv_has ls 9 [(8, .int (nI x)), (7, .int (nI (lvB (mF 4 0) (mg 1) sx x))), (6, .int (nI sx)), (4, .long (lN (oddN (mF 4 0) (mg 1) N V sx))), (0, .ref mq), (1, .int (nI N)), (2, .int (nI V)), (3, .int (nI Wn))] := hl
            have ih70 := ih
            refine x_iload X dX6_odds_70 (lv_at hl 0 rfl) ?_
            refine x_iload_n X dX6_odds_72 rfl (lv_at hl 5 rfl) ?_
            refine n_icmp_ge X 115 dX6_odds_73 (by decide) (by omega) (by omega) (fun c73 => ?_) (fun c73 => ?_)
            · have ex : x = N := by omega
              have hlb := lvB_le (mF 4 0) (mg 1) sx x
              have hod := oddN_le (mF 4 0) (mg 1) N V sx
              refine x_lload X dX6_odds_115 (lv_at hl 3 rfl) ?_
              refine x_iload X dX6_odds_117 (lv_at hl 1 rfl) ?_
              refine x_iload_n X dX6_odds_119 rfl (lv_at hl 6 rfl) ?_
              refine n_icmp_lt X 127 dX6_odds_120 (by decide) (by omega) (by omega) (fun c120 => ?_) (fun c120 => ?_)
              · have hyn : ¬ V ≤ lvB (mF 4 0) (mg 1) sx N := by rw [← ex]; omega
                refine x_lconst (v := 0) X dX6_odds_127 (by decide) ?_
                refine x_ladd (v := lN (oddN (mF 4 0) (mg 1) N V (sx + 1))) X dX6_odds_128 (by first | (rw [oddN_y hyn]; exact lN_1 _) | (rw [oddN_n hyn]; exact Int64.add_zero _)) ?_
                refine x_lstore X [(4, .long (lN (oddN (mF 4 0) (mg 1) N V (sx + 1)))), (8, .int (nI x)), (7, .int (nI (lvB (mF 4 0) (mg 1) sx x))), (6, .int (nI sx)), (0, .ref mq), (1, .int (nI N)), (2, .int (nI V)), (3, .int (nI Wn))] dX6_odds_129 hl (by decide) rfl (fun ls hl => ?_)
                refine x_iinc X [(6, .int (nI (sx + 1))), (4, .long (lN (oddN (mF 4 0) (mg 1) N V (sx + 1)))), (8, .int (nI x)), (7, .int (nI (lvB (mF 4 0) (mg 1) sx x))), (0, .ref mq), (1, .int (nI N)), (2, .int (nI V)), (3, .int (nI Wn))] (k := 3) dX6_odds_131 hl rfl (nI_inc1 sx) (by decide) rfl (fun ls hl => ?_)
                refine x_goto X 51 dX6_odds_134 (by decide) ?_
                exact ih51 (sx + 1) _ _ _ ⟨(show (sx + 1) ≤ 2 ^ N from (by omega)), hW, lv_sub hl [0, 1, 4, 5, 6, 7] rfl⟩ (by omega)
              · have hyn : V ≤ lvB (mF 4 0) (mg 1) sx N := by rw [← ex]; omega
                refine x_lconst (v := 1) X dX6_odds_123 (by decide) ?_
                refine x_goto X 128 dX6_odds_124 (by decide) ?_
                refine x_ladd (v := lN (oddN (mF 4 0) (mg 1) N V (sx + 1))) X dX6_odds_128 (by first | (rw [oddN_y hyn]; exact lN_1 _) | (rw [oddN_n hyn]; exact Int64.add_zero _)) ?_
                refine x_lstore X [(4, .long (lN (oddN (mF 4 0) (mg 1) N V (sx + 1)))), (8, .int (nI x)), (7, .int (nI (lvB (mF 4 0) (mg 1) sx x))), (6, .int (nI sx)), (0, .ref mq), (1, .int (nI N)), (2, .int (nI V)), (3, .int (nI Wn))] dX6_odds_129 hl (by decide) rfl (fun ls hl => ?_)
                refine x_iinc X [(6, .int (nI (sx + 1))), (4, .long (lN (oddN (mF 4 0) (mg 1) N V (sx + 1)))), (8, .int (nI x)), (7, .int (nI (lvB (mF 4 0) (mg 1) sx x))), (0, .ref mq), (1, .int (nI N)), (2, .int (nI V)), (3, .int (nI Wn))] (k := 3) dX6_odds_131 hl rfl (nI_inc1 sx) (by decide) rfl (fun ls hl => ?_)
                refine x_goto X 51 dX6_odds_134 (by decide) ?_
                exact ih51 (sx + 1) _ _ _ ⟨(show (sx + 1) ≤ 2 ^ N from (by omega)), hW, lv_sub hl [0, 1, 4, 5, 6, 7] rfl⟩ (by omega)
            · refine x_iload X dX6_odds_76 (lv_at hl 1 rfl) ?_
              refine x_iload X dX6_odds_78 (lv_at hl 2 rfl) ?_
              refine x_iload X dX6_odds_80 (lv_at hl 0 rfl) ?_
              refine x_ishr (v := (nI sx) >>> ((nI x) &&& 31)) X dX6_odds_82 rfl ?_
              refine x_iconst (v := nI 1) X dX6_odds_83 (by decide) ?_
              refine x_iand (v := nI (sx / 2 ^ x % 2)) X dX6_odds_84 (bit_sx hN (by omega) (by omega)) ?_
              refine x_aload_n X dX6_odds_85 rfl (lv_at hl 4 rfl) ?_
              refine x_get X hW (v := .int (nI (mg 1))) hi6 0 rfl rfl 1 (by decide) (List.mem_of_getElem? (i := 5) rfl) rfl rfl dX6_odds_86 ?_
              refine n_imul X dX6_odds_89 ?_
              refine n_iadd X dX6_odds_90 ?_
              have hm3 : sx / 2 ^ x % 2 * mg 1 ≤ 3 := mul3 (Nat.mod_lt _ (by decide)) hrn
              have hlb := lvB_le (mF 4 0) (mg 1) sx x
              have hls := lvB_s (l0 := mF 4 0) (rn := mg 1) (s := sx) (x := x)
              refine x_istore X [(7, .int (nI ((lvB (mF 4 0) (mg 1) sx x) + ((sx / 2 ^ x % 2) * mg 1)))), (8, .int (nI x)), (6, .int (nI sx)), (4, .long (lN (oddN (mF 4 0) (mg 1) N V sx))), (0, .ref mq), (1, .int (nI N)), (2, .int (nI V)), (3, .int (nI Wn))] dX6_odds_91 hl (by decide) rfl (fun ls hl => ?_)
              refine x_iload X dX6_odds_93 (lv_at hl 0 rfl) ?_
              refine x_bipush (v := nI 9) X dX6_odds_95 (by decide) ?_
              refine n_icmp_le X 105 dX6_odds_97 (by decide) (by omega) (by decide) (fun c97 => ?_) (fun c97 => ?_)
              · refine x_iload X dX6_odds_105 (lv_at hl 0 rfl) ?_
                refine n_as0 (b := lvB (mF 4 0) (mg 1) sx (x + 1)) (by omega) ?_
                refine x_istore X [(7, .int (nI (lvB (mF 4 0) (mg 1) sx (x + 1)))), (8, .int (nI x)), (6, .int (nI sx)), (4, .long (lN (oddN (mF 4 0) (mg 1) N V sx))), (0, .ref mq), (1, .int (nI N)), (2, .int (nI V)), (3, .int (nI Wn))] dX6_odds_107 hl (by decide) rfl (fun ls hl => ?_)
                refine x_iinc X [(8, .int (nI (x + 1))), (7, .int (nI (lvB (mF 4 0) (mg 1) sx (x + 1)))), (6, .int (nI sx)), (4, .long (lN (oddN (mF 4 0) (mg 1) N V sx))), (0, .ref mq), (1, .int (nI N)), (2, .int (nI V)), (3, .int (nI Wn))] (k := 1) dX6_odds_109 hl rfl (nI_inc1 x) (by decide) rfl (fun ls hl => ?_)
                refine x_goto X 70 dX6_odds_112 (by decide) ?_
                exact ih70 (x + 1) _ _ _ ⟨(show (x + 1) ≤ N from (by omega)), hW, lv_sub hl [0, 1, 2, 3, 4, 5, 6, 7] rfl⟩ (by omega)
              · refine x_bipush (v := nI 9) X dX6_odds_100 (by decide) ?_
                refine x_goto X 107 dX6_odds_102 (by decide) ?_
                refine n_as0 (b := lvB (mF 4 0) (mg 1) sx (x + 1)) (by omega) ?_
                refine x_istore X [(7, .int (nI (lvB (mF 4 0) (mg 1) sx (x + 1)))), (8, .int (nI x)), (6, .int (nI sx)), (4, .long (lN (oddN (mF 4 0) (mg 1) N V sx))), (0, .ref mq), (1, .int (nI N)), (2, .int (nI V)), (3, .int (nI Wn))] dX6_odds_107 hl (by decide) rfl (fun ls hl => ?_)
                refine x_iinc X [(8, .int (nI (x + 1))), (7, .int (nI (lvB (mF 4 0) (mg 1) sx (x + 1)))), (6, .int (nI sx)), (4, .long (lN (oddN (mF 4 0) (mg 1) N V sx))), (0, .ref mq), (1, .int (nI N)), (2, .int (nI V)), (3, .int (nI Wn))] (k := 1) dX6_odds_109 hl rfl (nI_inc1 x) (by decide) rfl (fun ls hl => ?_)
                refine x_goto X 70 dX6_odds_112 (by decide) ?_
                exact ih70 (x + 1) _ _ _ ⟨(show (x + 1) ≤ N from (by omega)), hW, lv_sub hl [0, 1, 2, 3, 4, 5, 6, 7] rfl⟩ (by omega)
        · subst w35
          have gw0 := fun q => h35 ((in_iff (r := w0) (n := 2) l_0 (by decide)).mpr q)
          refine n_if_ne X 45 dX6_odds_38 (by decide) (by decide) (fun c38 => by exact absurd c38 (by decide)) (fun c38 => ?_)
          refine x_callSle X hW (As := []) (rest := []) (c_X6_lost l D cI cZ cO  _ ) (va_cwS 0 X.2.2.2.2.2.1 gX6_odds_X6_lost rfl rfl rfl (by decide +kernel) ⟨Nat.le_of_ble_eq_true rfl, Nat.le_of_ble_eq_true rfl⟩) rfl hl.1 rfl (Nat.le_of_ble_eq_true rfl) ⟨Nat.le_of_ble_eq_true rfl, Nat.le_of_ble_eq_true rfl⟩ dX6_odds_41 (fun r11 u12 H locs w41 hW => ?_)
          have hW : Wd D A s.heap H locs (wM cI cZ mq ma mg mh mF mE) := hW
          replace w41 : r11 = (-9223372036854775808) := w41
          subst w41
          exact x_lret X hW rfl () ((by unfold aOdds; (try rw [if_neg (show ¬ mg 2 = 0 by omega)]); (try rw [onR_in hN (by omega)]); (try rw [onR_in hV (by omega)]); (try rw [onR_out gw0]); (try rfl); (try (unfold oddA; rw [es])))) rfl dX6_odds_44
      · subst w25
        have gv0 := fun q => h25 ((in_iff (r := v0) (n := 10) l_0 (by decide)).mpr q)
        refine n_if_eq X 41 dX6_odds_28 (by decide) (by decide) (fun c28 => ?_) (fun c28 => by exact absurd c28 (by decide))
        refine x_callSle X hW (As := []) (rest := []) (c_X6_lost l D cI cZ cO  _ ) (va_cwS 0 X.2.2.2.2.2.1 gX6_odds_X6_lost rfl rfl rfl (by decide +kernel) ⟨Nat.le_of_ble_eq_true rfl, Nat.le_of_ble_eq_true rfl⟩) rfl hl.1 rfl (Nat.le_of_ble_eq_true rfl) ⟨Nat.le_of_ble_eq_true rfl, Nat.le_of_ble_eq_true rfl⟩ dX6_odds_41 (fun r13 u14 H locs w41 hW => ?_)
        have hW : Wd D A s.heap H locs (wM cI cZ mq ma mg mh mF mE) := hW
        replace w41 : r13 = (-9223372036854775808) := w41
        subst w41
        exact x_lret X hW rfl () ((by unfold aOdds; (try rw [if_neg (show ¬ mg 2 = 0 by omega)]); (try rw [onR_in hN (by omega)]); (try rw [onR_out gv0]); (try rfl); (try (unfold oddA; rw [es])))) rfl dX6_odds_44
    · subst w13
      have gk0 := fun q => h13 ((in_iff (r := k0) (n := 9) l_0 (by decide)).mpr q)
      refine n_if_eq X 41 dX6_odds_16 (by decide) (by decide) (fun c16 => ?_) (fun c16 => by exact absurd c16 (by decide))
      refine x_callSle X hW (As := []) (rest := []) (c_X6_lost l D cI cZ cO  _ ) (va_cwS 0 X.2.2.2.2.2.1 gX6_odds_X6_lost rfl rfl rfl (by decide +kernel) ⟨Nat.le_of_ble_eq_true rfl, Nat.le_of_ble_eq_true rfl⟩) rfl hl.1 rfl (Nat.le_of_ble_eq_true rfl) ⟨Nat.le_of_ble_eq_true rfl, Nat.le_of_ble_eq_true rfl⟩ dX6_odds_41 (fun r15 u16 H locs w41 hW => ?_)
      have hW : Wd D A s.heap H locs (wM cI cZ mq ma mg mh mF mE) := hW
      replace w41 : r15 = (-9223372036854775808) := w41
      subst w41
      exact x_lret X hW rfl () ((by unfold aOdds; (try rw [if_neg (show ¬ mg 2 = 0 by omega)]); (try rw [onR_out gk0]); (try rfl); (try (unfold oddA; rw [es])))) rfl dX6_odds_44
