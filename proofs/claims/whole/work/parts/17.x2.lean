/-! the search of the class, in numbers -/
def wt : Nat → Nat
  | 0 => 1000
  | 1 => 100
  | 2 => 10
  | _ => 1
theorem wt_le {w a : Nat} (h : 1 ≤ dig w a) : wt a ≤ w := by
  unfold wt; unfold dig at h; split at h <;> (simp only []; omega)
theorem wt_1000 (a : Nat) : wt a ≤ 1000 := by unfold wt; split <;> omega
theorem w_dig {w : Nat} : w = 10000 * (w / 10000) + 1000 * dig w 0 + 100 * dig w 1 + 10 * dig w 2 + dig w 3 := by
  show w = 10000 * (w / 10000) + 1000 * (w / 1000 % 10) + 100 * (w / 100 % 10) + 10 * (w / 10 % 10) + w % 10
  omega
theorem wy_2 (b : Nat) (f : Nat → Nat) : wy 2 b f = 10000 * b + 1000 * f 0 + 100 * f 1 := rfl
theorem wy_3 (b : Nat) (f : Nat → Nat) : wy 3 b f = 10000 * b + 1000 * f 0 + 100 * f 1 + 10 * f 2 := rfl
theorem wy_4 (b : Nat) (f : Nat → Nat) : wy 4 b f = 10000 * b + 1000 * f 0 + 100 * f 1 + 10 * f 2 + f 3 := rfl
theorem night_w {n rn w : Nat} (h : VS n w) (h2 : 2 ≤ n) (h4 : n ≤ 4) : wy n (w / 10000) (night n rn (dig w)) = w + (min 9 (dig w 0 + rn) - dig w 0) * 1000 - (if 0 < dig w (n - 1) then wt (n - 1) else 0) := by
  have e := w_dig (w := w)
  have b0 := dig_le w 0
  have z := h.2
  have e3 : n = 2 ∨ n = 3 ∨ n = 4 := by omega
  rcases e3 with rfl | rfl | rfl
  · have z2 := z 2 (by omega) (by omega)
    have z3 := z 3 (by omega) (by omega)
    rw [wy_2]
    show 10000 * (w / 10000) + 1000 * min 9 (dig w 0 + rn) + 100 * (dig w 1 - 1) = w + (min 9 (dig w 0 + rn) - dig w 0) * 1000 - (if 0 < dig w 1 then 100 else 0)
    split <;> omega
  · have z3 := z 3 (by omega) (by omega)
    rw [wy_3]
    show 10000 * (w / 10000) + 1000 * min 9 (dig w 0 + rn) + 100 * dig w 1 + 10 * (dig w 2 - 1) = w + (min 9 (dig w 0 + rn) - dig w 0) * 1000 - (if 0 < dig w 2 then 10 else 0)
    split <;> omega
  · rw [wy_4]
    show 10000 * (w / 10000) + 1000 * min 9 (dig w 0 + rn) + 100 * dig w 1 + 10 * dig w 2 + (dig w 3 - 1) = w + (min 9 (dig w 0 + rn) - dig w 0) * 1000 - (if 0 < dig w 3 then 1 else 0)
    split <;> omega
theorem thru_w {n w a b : Nat} (h : VS n w) (h2 : a + 1 < n) (h4 : n ≤ 4) (hl : 1 ≤ dig w a) : wy n (w / 10000 + b) (thru (dig w) a) = w - wt a + wt (a + 1) + 10000 * b := by
  have e := w_dig (w := w)
  have z := h.2
  have e3 : n = 2 ∨ n = 3 ∨ n = 4 := by omega
  have ea : a = 0 ∨ a = 1 ∨ a = 2 := by omega
  rcases e3 with rfl | rfl | rfl
  · have z2 := z 2 (by omega) (by omega)
    have z3 := z 3 (by omega) (by omega)
    rw [wy_2]
    rcases ea with rfl | rfl | rfl
    · show 10000 * (w / 10000 + b) + 1000 * (dig w 0 - 1) + 100 * (dig w 1 + 1) = w - 1000 + 100 + 10000 * b; omega
    · omega
    · omega
  · have z3 := z 3 (by omega) (by omega)
    rw [wy_3]
    rcases ea with rfl | rfl | rfl
    · show 10000 * (w / 10000 + b) + 1000 * (dig w 0 - 1) + 100 * (dig w 1 + 1) + 10 * dig w 2 = w - 1000 + 100 + 10000 * b; omega
    · show 10000 * (w / 10000 + b) + 1000 * dig w 0 + 100 * (dig w 1 - 1) + 10 * (dig w 2 + 1) = w - 100 + 10 + 10000 * b; omega
    · omega
  · rw [wy_4]
    rcases ea with rfl | rfl | rfl
    · show 10000 * (w / 10000 + b) + 1000 * (dig w 0 - 1) + 100 * (dig w 1 + 1) + 10 * dig w 2 + dig w 3 = w - 1000 + 100 + 10000 * b; omega
    · show 10000 * (w / 10000 + b) + 1000 * dig w 0 + 100 * (dig w 1 - 1) + 10 * (dig w 2 + 1) + dig w 3 = w - 100 + 10 + 10000 * b; omega
    · show 10000 * (w / 10000 + b) + 1000 * dig w 0 + 100 * dig w 1 + 10 * (dig w 2 - 1) + (dig w 3 + 1) = w - 10 + 1 + 10000 * b; omega
abbrev nightW (n rn w : Nat) : Nat := wy n (w / 10000) (night n rn (dig w))
abbrev openW (n w a : Nat) : Nat := wy n (w / 10000 + if a = w / 10000 then 1 else 0) (thru (dig w) a)
theorem nx_night {n rn wn w a : Nat} (h : a = n - 1) : nxW n rn wn w a = some (nightW n rn w) := if_pos h
theorem nx_open {n rn wn w a : Nat} (h : ¬ a = n - 1) (h2 : mayW wn (dig w) a) : nxW n rn wn w a = some (openW n w a) := by unfold nxW; rw [if_neg h, if_pos h2]
theorem nx_none {n rn wn w a : Nat} (h : ¬ a = n - 1) (h2 : ¬ mayW wn (dig w) a) : nxW n rn wn w a = none := by unfold nxW; rw [if_neg h, if_neg h2]
def AGZ (b : BB) (E F : Nat → Nat) (t : Nat) : Prop := (∀ w, w < 40000 → E w = b.2.2 w) ∧ (∀ i, i < b.2.1 → F i = b.1 i) ∧ t = b.2.1 ∧ ∀ w, b.2.2 w ≤ 200000
theorem AGZ_add {b : BB} {E F : Nat → Nat} {t fr a w : Nat} (h : AGZ b E F t) (h0 : E w = 0) (hw : w < 40000) (hfr : fr < 40000) (ha : a < 4) : AGZ (bAdd b fr a w) (sF E w (1 + fr * 4 + a)) (sF F t w) (t + 1) := by
  obtain ⟨h1, h2, h3, h4⟩ := h
  have z : b.2.2 w = 0 := by rw [← h1 w hw]; exact h0
  rw [bAdd_y z]
  subst h3
  refine ⟨fun v hv => ?_, fun i hi => ?_, rfl, fun v => ?_⟩
  · show sF E w (1 + fr * 4 + a) v = sF b.2.2 w (1 + 4 * fr + a) v
    by_cases e : v = w
    · rw [e, sF_ap, if_pos rfl, sF_ap, if_pos rfl]; omega
    · rw [sF_n _ _ e, sF_n _ _ e]; exact h1 v hv
  · show sF F b.2.1 w i = sF b.1 b.2.1 w i
    by_cases e : i = b.2.1
    · rw [e, sF_ap, if_pos rfl, sF_ap, if_pos rfl]
    · have hi : i < b.2.1 + 1 := hi
      rw [sF_n _ _ e, sF_n _ _ e]; exact h2 i (by omega)
  · show sF b.2.2 w (1 + 4 * fr + a) v ≤ 200000
    exact sF_le h4 (by omega) v
theorem AGZ_no {b : BB} {E F : Nat → Nat} {t fr a w : Nat} (h : AGZ b E F t) (h0 : ¬ E w = 0) (hw : w < 40000) : AGZ (bAdd b fr a w) E F t := by
  rw [bAdd_n (fun q => h0 (by rw [h.1 w hw, q]))]; exact h
def GZ (bb gr gl : Nat) (w : Nat) : Prop := ¬ bb = 0 ∧ w / 10000 = gr ∨ bb = 0 ∧ gl ≤ dig w gr
/-- the search's rows between two calls: each state that was come to stands in the queue -/
def SI (E F : Nat → Nat) (t : Nat) : Prop := t ≤ 40000 ∧ (∀ i, i < t → F i < 40000) ∧ ∀ w, w < 40000 → E w ≠ 0 → ∃ i, i < t ∧ F i = w
theorem SI_of {n : Nat} {b : BB} {E F : Nat → Nat} {t : Nat} (h : AGZ b E F t) (hb : IB n b) : SI E F t := by
  obtain ⟨h1, h2, h3, h4⟩ := h
  subst h3
  refine ⟨IB_le hb, fun i hi => by rw [h2 i hi]; exact (hb.2.1 i hi).1.1, fun w hw hz => ?_⟩
  obtain ⟨i, hi, hq⟩ := hb.2.2.1 w (by rw [← h1 w hw]; exact hz)
  exact ⟨i, hi, by rw [h2 i hi, hq]⟩
/-- what is left of the states that were come to, when x of the queue are forgotten -/
def FG (E F : Nat → Nat) (t x : Nat) : Prop := ∀ w, w < 40000 → E w ≠ 0 → ∃ i, x ≤ i ∧ i < t ∧ F i = w
theorem FG_s {E F : Nat → Nat} {t x : Nat} (h : FG E F t x) : FG (sF E (F x) 0) F t (x + 1) := by
  intro w hw hz
  by_cases e : w = F x
  · rw [e, sF_ap, if_pos rfl] at hz; exact absurd rfl hz
  · rw [sF_n _ _ e] at hz
    obtain ⟨i, h1, h2, h3⟩ := h w hw hz
    refine ⟨i, ?_, h2, h3⟩
    by_cases q : i = x
    · rw [q] at h3; exact absurd h3.symm e
    · omega
theorem AGZ_0 {E F : Nat → Nat} (h : ∀ w, w < 40000 → E w = 0) : AGZ (fun _ => 0, 0, fun _ => 0) E F 0 :=
  ⟨fun w hw => h w hw, fun i hi => absurd hi (Nat.not_lt_zero i), rfl, fun _ => Nat.zero_le _⟩
/-- the row that is kept -/
def RowSt (nx : Nat → Nat → Option Nat) (K s0 : Nat) (G : Nat → Prop) (h : Int32) (R : Nat → Nat) : Prop :=
  (∃ k f, Fnd nx K s0 G k f ∧ h = nI k ∧ ∀ i, i < k → R (k - 1 - i) = acOf nx K s0 f i) ∨ (Non nx K s0 G ∧ h = (-9))
/-- no goal among the entries from u to v -/
def NoG (G : Nat → Prop) (b : BB) (u : Nat) : Prop := ∀ i, u ≤ i → i < b.2.1 → ¬ G (b.1 i)
theorem NoG_z {G : Nat → Prop} {b : BB} : NoG G b b.2.1 := fun i h1 h2 => absurd h2 (by omega)
theorem NoG_old {G : Nat → Prop} {b : BB} {u fr a w : Nat} (h : NoG G b u) (h0 : ¬ b.2.2 w = 0) : NoG G (bAdd b fr a w) u := by rw [bAdd_n h0]; exact h
theorem NoG_new {G : Nat → Prop} {b : BB} {u fr a w : Nat} (h : NoG G b u) (h0 : b.2.2 w = 0) (hg : ¬ G w) : NoG G (bAdd b fr a w) u := by
  rw [bAdd_y h0]
  intro i h1 h2
  have h2 : i < b.2.1 + 1 := h2
  show ¬ G (sF b.1 b.2.1 w i)
  by_cases e : i = b.2.1
  · rw [e, sF_ap, if_pos rfl]; exact hg
  · rw [sF_n _ _ e]; exact h i h1 (by omega)
/-- the goal is the newest entry -/
def YesG (G : Nat → Prop) (b : BB) (u g : Nat) : Prop := u ≤ b.2.1 - 1 ∧ 1 ≤ b.2.1 ∧ b.1 (b.2.1 - 1) = g ∧ G g ∧ ∀ i, u ≤ i → i < b.2.1 - 1 → ¬ G (b.1 i)
theorem YesG_new {G : Nat → Prop} {b : BB} {u fr a w : Nat} (h : NoG G b u) (hu : u ≤ b.2.1) (h0 : b.2.2 w = 0) (hg : G w) : YesG G (bAdd b fr a w) u w := by
  rw [bAdd_y h0]
  refine ⟨hu, Nat.succ_le_succ (Nat.zero_le _), ?_, hg, fun i h1 h2 => ?_⟩
  · show sF b.1 b.2.1 w (b.2.1 + 1 - 1) = w
    rw [Nat.add_sub_cancel, sF_ap, if_pos rfl]
  · have h2 : i < b.2.1 := h2
    show ¬ G (sF b.1 b.2.1 w i)
    rw [sF_n _ _ (by omega)]; exact h i h1 h2

theorem keep_z {n K s0 : Nat} {nx : Nat → Nat → Option Nat} (hx : NX n K nx) (hs : VS n s0) (hK : K ≤ 4) {b : BB} {E : Nat → Nat} {k f : Nat} (h1 : bD nx K s0 k ≤ f) (h2 : f < bD nx K s0 (k + 1))
    (hE : ∀ w, w < 40000 → E w = b.2.2 w) (hb : Ext b (bF nx K s0)) (hib : IB n b) (hf : f < b.2.1) (hle : ∀ w, b.2.2 w ≤ 200000) :
    ∀ i, i < k → anc (bF nx K s0).2.2 i ((bF nx K s0).1 f) < 40000 ∧ (bF nx K s0).2.2 (anc (bF nx K s0).2.2 i ((bF nx K s0).1 f)) ≠ 0 ∧ (bF nx K s0).2.2 (anc (bF nx K s0).2.2 i ((bF nx K s0).1 f)) ≤ 200000 ∧ E (anc (bF nx K s0).2.2 i ((bF nx K s0).1 f)) = (bF nx K s0).2.2 (anc (bF nx K s0).2.2 i ((bF nx K s0).1 f)) := by
  intro i hi
  obtain ⟨g, g1, g2, g4, g3⟩ := anc_lv hx hs hK h1 h2 i (by omega)
  rw [g3]
  have gb : g < b.2.1 := by omega
  have eq := hb.2.1 g gb
  have nz := (hib.2.1 g gb)
  have ep := hb.2.2 _ nz.2
  refine ⟨?_, ?_, ?_, ?_⟩
  · rw [eq]; exact nz.1.1
  · rw [eq, ep]; exact nz.2
  · rw [eq, ep]; exact hle _
  · rw [eq, ep]; exact hE _ nz.1.1
theorem keep_s {R : Nat → Nat} {q : Nat → Nat} {k i x : Nat} (h : ∀ z, z < i → R (k - 1 - z) = q z) (hi : i < k) (hx : x = q i) : ∀ z, z < i + 1 → sF R (k - i - 1) x (k - 1 - z) = q z := by
  intro z hz
  by_cases e : z = i
  · subst e
    rw [show k - 1 - z = k - z - 1 by omega, sF_ap, if_pos rfl, hx]
  · rw [sF_n _ _ (by omega)]; exact h z (by omega)
theorem dec_sub (x : Int32) : x + Int32.ofInt (-1) = x - nI 1 := by rw [Int32.sub_eq_add_neg]; rfl
theorem Fnd_0 {n K s0 : Nat} {nx : Nat → Nat → Option Nat} {G : Nat → Prop} (hx : NX n K nx) (hs : VS n s0) (h : G s0) : Fnd nx K s0 G 0 0 := by
  refine ⟨by omega, Nat.le_refl 0, ?_, ?_, fun i hi => absurd hi (Nat.not_lt_zero i)⟩
  · have : bD nx K s0 (0 + 1) = 1 := bD_1
    omega
  · rw [(fin_Q hx hs (show 0 ≤ 40001 by omega) (show 0 < (bQ nx K s0 0).2.1 by rw [bQ_0]; exact Nat.zero_lt_one)).1, bQ_0]
    show G (sF (fun _ => 0) 0 s0 0)
    rw [sF_ap, if_pos rfl]; exact h
/-- the goal among the entries that a row of acts brings -/
theorem Fnd_row {n K s0 : Nat} {nx : Nat → Nat → Option Nat} {G : Nat → Prop} (hx : NX n K nx) (hs : VS n s0) {k d a g : Nat} (hk : k + 1 ≤ 40) (h1 : bD nx K s0 k ≤ d) (h2 : d < bD nx K s0 (k + 1)) (ha : a + 1 ≤ K)
    (hn : NoG G (bQ nx K s0 d) 0) (hy : YesG G (bRow nx ((bQ nx K s0 d).1 d) (a + 1) (bQ nx K s0 d)) (bQ nx K s0 d).2.1 g) :
    Fnd nx K s0 G (k + 1) ((bRow nx ((bQ nx K s0 d).1 d) (a + 1) (bQ nx K s0 d)).2.1 - 1) ∧ Ext (bRow nx ((bQ nx K s0 d).1 d) (a + 1) (bQ nx K s0 d)) (bF nx K s0) ∧ (bF nx K s0).1 ((bRow nx ((bQ nx K s0 d).1 d) (a + 1) (bQ nx K s0 d)).2.1 - 1) = g := by
  have hdt := lv_t h1 h2
  have h40 := bD_lt hx hs (k + 1)
  have e1 := bQ_y hdt
  have ex1 := Ext_rows nx ((bQ nx K s0 d).1 d) (bQ nx K s0 d) (a + 1) (K - (a + 1))
  rw [show a + 1 + (K - (a + 1)) = K by omega, ← e1] at ex1
  have ex0 := Ext_row nx ((bQ nx K s0 d).1 d) (bQ nx K s0 d) (a + 1)
  have ex2 := bF_Ext (nx := nx) (K := K) (s0 := s0) (show d + 1 ≤ 40001 by omega)
  have ex3 := Ext_Q (nx := nx) (K := K) (s0 := s0) (show d + 1 ≤ bD nx K s0 (k + 1) by omega)
  generalize bRow nx ((bQ nx K s0 d).1 d) (a + 1) (bQ nx K s0 d) = B at *
  have ex := Ext_tr ex1 ex2
  obtain ⟨y1, y2, y3, y4, y5⟩ := hy
  have ef : (bF nx K s0).1 (B.2.1 - 1) = g := by rw [ex.2.1 _ (by omega), y3]
  have t1 := (Ext_Q (nx := nx) (K := K) (s0 := s0) h1).1
  refine ⟨⟨hk, ?_, ?_, ?_, ?_⟩, ex, ef⟩
  · show (bQ nx K s0 (bD nx K s0 k)).2.1 ≤ B.2.1 - 1
    omega
  · show B.2.1 - 1 < (bQ nx K s0 (bD nx K s0 (k + 1))).2.1
    have := ex1.1
    have := ex3.1
    omega
  · rw [ef]; exact y4
  · intro i hi
    rw [ex.2.1 i (by omega)]
    by_cases q : i < (bQ nx K s0 d).2.1
    · rw [ex0.2.1 i q]; exact hn i (Nat.zero_le i) q
    · exact y5 i (by omega) hi
theorem NoG_row {K s0 : Nat} {nx : Nat → Nat → Option Nat} {G : Nat → Prop} {d : Nat} (hdt : d < (bQ nx K s0 d).2.1) (hn : NoG G (bQ nx K s0 d) 0) (hy : NoG G (bRow nx ((bQ nx K s0 d).1 d) K (bQ nx K s0 d)) (bQ nx K s0 d).2.1) : NoG G (bQ nx K s0 (d + 1)) 0 := by
  rw [bQ_y hdt]
  intro i _ hi
  by_cases q : i < (bQ nx K s0 d).2.1
  · rw [(Ext_row nx _ _ K).2.1 i q]; exact hn i (Nat.zero_le i) q
  · exact hy i (by omega) hi
theorem bD_suc {K s0 : Nat} {nx : Nat → Nat → Option Nat} (k : Nat) : bD nx K s0 (k + 1) = (bQ nx K s0 (bD nx K s0 k)).2.1 := rfl
theorem Non_end {n K s0 : Nat} {nx : Nat → Nat → Option Nat} {G : Nat → Prop} (hx : NX n K nx) (hs : VS n s0) {d : Nat} (hd : d ≤ 40000) (hn : NoG G (bQ nx K s0 d) 0) (h : (bQ nx K s0 (bD nx K s0 40)).2.1 ≤ (bQ nx K s0 d).2.1) : Non nx K s0 G := by
  intro i hi
  have e : bD nx K s0 (40 + 1) = (bQ nx K s0 (bD nx K s0 40)).2.1 := bD_suc 40
  have hi : i < bD nx K s0 (40 + 1) := hi
  rw [(fin_Q hx hs (show d ≤ 40001 by omega) (show i < (bQ nx K s0 d).2.1 by omega)).1]
  exact hn i (Nat.zero_le i) (by omega)
theorem NoG_0 {K s0 : Nat} {nx : Nat → Nat → Option Nat} {G : Nat → Prop} (h : ¬ G s0) : NoG G (bQ nx K s0 0) 0 := by
  rw [bQ_0]
  intro i _ hi
  have hi : i < 1 := hi
  show ¬ G (sF (fun _ => 0) 0 s0 i)
  rw [show i = 0 by omega, sF_ap, if_pos rfl]; exact h
def keyN (s wn rn n1 bb gr gl : Nat) : Nat := (((((s * 10000 + wn) * 4 + rn) * 4 + n1) * 2 + bb) * 4 + gr) * 10 + gl
theorem keyN_lt {s wn rn n1 bb gr gl : Nat} (h1 : s < 40000) (h2 : wn < 10000) (h3 : rn < 4) (h4 : n1 < 4) (h5 : bb < 2) (h6 : gr < 4) (h7 : gl < 10) : keyN s wn rn n1 bb gr gl < 2 ^ 62 := by unfold keyN; omega
theorem dvm {k q r q' r' : Nat} (hr : r < k) (hr' : r' < k) (h : q * k + r = q' * k + r') : q = q' ∧ r = r' := by
  have d : ∀ {x y : Nat}, y < k → (x * k + y) / k = x ∧ (x * k + y) % k = y := by
    intro x y hy
    rw [Nat.mul_comm]
    exact ⟨by rw [Nat.mul_add_div (by omega), Nat.div_eq_of_lt hy, Nat.add_zero], by rw [Nat.mul_add_mod, Nat.mod_eq_of_lt hy]⟩
  have a := d (x := q) hr
  have b := d (x := q') hr'
  exact ⟨by rw [← a.1, h, b.1], by rw [← a.2, h, b.2]⟩
theorem keyN_inj {s wn rn n1 bb gr gl s' wn' rn' n1' bb' gr' gl' : Nat} (h2 : wn < 10000) (h3 : rn < 4) (h4 : n1 < 4) (h5 : bb < 2) (h6 : gr < 4) (h7 : gl < 10) (k2 : wn' < 10000) (k3 : rn' < 4) (k4 : n1' < 4) (k5 : bb' < 2) (k6 : gr' < 4) (k7 : gl' < 10)
    (h : keyN s wn rn n1 bb gr gl = keyN s' wn' rn' n1' bb' gr' gl') : s = s' ∧ wn = wn' ∧ rn = rn' ∧ n1 = n1' ∧ bb = bb' ∧ gr = gr' ∧ gl = gl' := by
  obtain ⟨q5, e7⟩ := dvm h7 k7 h
  obtain ⟨q4, e6⟩ := dvm h6 k6 q5
  obtain ⟨q3, e5⟩ := dvm h5 k5 q4
  obtain ⟨q2, e4⟩ := dvm h4 k4 q3
  obtain ⟨q1, e3⟩ := dvm h3 k3 q2
  obtain ⟨e1, e2⟩ := dvm h2 k2 q1
  exact ⟨e1, e2, e3, e4, e5, e6, e7⟩
/-- the search between two calls: its rows, and what the kept row is of -/
def SK (E F : Nat → Nat) (t : Nat) (h : Int32) (kk : Int64) (R : Nat → Nat) : Prop := SI E F t ∧ (kk = (-1) ∨ ∃ s wn rn n1 bb gr gl, (s < 40000 ∧ wn < 10000 ∧ rn < 4 ∧ n1 < 4 ∧ bb < 2 ∧ gr < 4 ∧ gl < 10) ∧ kk = lN (keyN s wn rn n1 bb gr gl) ∧ RowSt (nxW (n1 + 1) rn wn) (n1 + 1) s (GZ bb gr gl) h R)
theorem lN_m1 {k : Nat} (h : k < 2 ^ 63) : lN k ≠ (-1) := by
  intro q
  have := congrArg Int64.toInt q
  rw [pk_lT h] at this
  have e : (-1 : Int64).toInt = -1 := by decide
  omega
theorem SK_hit {E F : Nat → Nat} {t : Nat} {h : Int32} {kk : Int64} {R : Nat → Nat} (hs : SK E F t h kk R) {s wn rn n1 bb gr gl : Nat} (h1 : s < 40000) (h2 : wn < 10000) (h3 : rn < 4) (h4 : n1 < 4) (h5 : bb < 2) (h6 : gr < 4) (h7 : gl < 10)
    (e : lN (keyN s wn rn n1 bb gr gl) = kk) : RowSt (nxW (n1 + 1) rn wn) (n1 + 1) s (GZ bb gr gl) h R := by
  have l1 := keyN_lt h1 h2 h3 h4 h5 h6 h7
  rcases hs.2 with q | ⟨s', wn', rn', n1', bb', gr', gl', ⟨k1, k2, k3, k4, k5, k6, k7⟩, q, r⟩
  · exact absurd (e.trans q) (lN_m1 (by omega))
  · have l2 := keyN_lt k1 k2 k3 k4 k5 k6 k7
    obtain ⟨rfl, rfl, rfl, rfl, rfl, rfl, rfl⟩ := keyN_inj h2 h3 h4 h5 h6 h7 k2 k3 k4 k5 k6 k7 ((pk_lEQ (by omega) (by omega)).mp (e.trans q))
    exact r
def swN (b : Nat) (f : Nat → Nat) : Nat → Nat
  | 0 => b
  | r + 1 => swN b f r + f r * wt r
theorem swN_wy {n b : Nat} {f : Nat → Nat} (h2 : 2 ≤ n) (h4 : n ≤ 4) : swN (b * 10000) f n = wy n b f := by
  have e3 : n = 2 ∨ n = 3 ∨ n = 4 := by omega
  rcases e3 with rfl | rfl | rfl
  · rw [wy_2]; show b * 10000 + f 0 * 1000 + f 1 * 100 = _; omega
  · rw [wy_3]; show b * 10000 + f 0 * 1000 + f 1 * 100 + f 2 * 10 = _; omega
  · rw [wy_4]; show b * 10000 + f 0 * 1000 + f 1 * 100 + f 2 * 10 + f 3 * 1 = _; omega
theorem swN_le {b : Nat} {f : Nat → Nat} (h : ∀ i, f i ≤ 9) : ∀ n, swN b f n ≤ b + 9000 * n
  | 0 => Nat.le_refl _
  | n + 1 => by
    have ih := swN_le (b := b) h n
    have := Nat.mul_le_mul (h n) (wt_1000 n)
    show swN b f n + f n * wt n ≤ _
    omega
theorem wn_lt {n : Nat} {kd lm : Nat → Nat} (hm : ∀ i, lm i ≤ 9) : wnN n kd lm < 10000 := by
  have c := cc_le (n := n) (lv := fun i => want (kd i) (lm i)) (fun i _ => Nat.le_trans (want_le _ _) (hm i))
  have := c 0
  have := c 1
  have := c 2
  have := c 3
  unfold wnN wy; omega
theorem RowSt_ans {nx : Nat → Nat → Option Nat} {K s0 : Nat} {G : Nat → Prop} {R : Nat → Nat} {k f : Nat} (h : Fnd nx K s0 G k f) (hR : ∀ i, i < k → R (k - 1 - i) = acOf nx K s0 f i) {j : Nat} (hj : j < k) : RowAns nx K s0 G (nI j) (nI (R j)) := by
  refine Or.inl ⟨k, f, h, ?_⟩
  rw [rowA_y h.1 hj, ← hR (k - 1 - j) (by omega), show k - 1 - (k - 1 - j) = j by omega]
theorem nI_n1 {k : Nat} (h : k < 2 ^ 31) : nI k ≠ (-1) := by
  intro q
  have := congrArg Int32.toInt q
  rw [nI_toInt h] at this
  have e : (-1 : Int32).toInt = -1 := by decide
  omega
theorem RowAns_cg {nx : Nat → Nat → Option Nat} {K s0 : Nat} {G G' : Nat → Prop} {j r : Int32} (h : ∀ w, G w ↔ G' w) (q : RowAns nx K s0 G j r) : RowAns nx K s0 G' j r := by
  have : G = G' := funext fun w => propext (h w)
  rw [← this]; exact q

set_option maxHeartbeats 4000000 in
set_option maxRecDepth 100000 in
theorem c_X2_digit (l : Launch) (D : va_G) (cI cZ cO : ClassId)  (sz : Nat) (w : Nat) (r : Nat)  (hr : r < 4) (hww : w < 100000) : Met l yX2_digit wsX2_digit ({ frames := 0, cells := 0, slots := 0, locals := 0 }) (va_Pc [.int (nI w), .int (nI r)] (st_W D (ty3 cI cZ cO) ([] : va_W) sz)) (va_Qi (fun (rr : Int32) (u : Unit) => rr = nI (dig w r)) (fun u t => at_W D (ty3 cI cZ cO) (va_A ([] : va_W) sz) ([] : va_W) t) (va_A ([] : va_W) sz)) 0 0 (va_A ([] : va_W) sz) := by
  refine Met.goi (cc := cX2_digit) (maxL := 2) (ret := (some .int)) (by decide) rfl (Nat.le_of_ble_eq_true rfl) (fun p e s m below meth c A ls X hW hl => ?_)
  have hl : lv_has ls 2 [(0, .int (nI w)), (1, .int (nI r))] := hl
  rcases (show r = 0 ∨ r = 1 ∨ r = 2 ∨ r = 3 by omega) with rfl | rfl | rfl | rfl
  · refine x_iload_n X dX2_digit_0 rfl (lv_at hl 1 rfl) ?_
    refine lv_tableIn (off := 27) (tgt := 28) X.1 X.2.1 dX2_digit_1 (by decide) (by decide) (by decide) (by decide) ?_
    refine x_iload_n X dX2_digit_28 rfl (lv_at hl 0 rfl) ?_
    refine x_sipush (v := nI 1000) X dX2_digit_29 (by decide) ?_
    refine n_idiv X dX2_digit_32 (by omega) (by omega) (by decide) ?_
    refine x_bipush (v := nI 10) X dX2_digit_33 (by decide) ?_
    refine n_irem X dX2_digit_35 (by omega) (by omega) (by decide) ?_
    exact x_iret X hW rfl () (rfl) rfl dX2_digit_36
  · refine x_iload_n X dX2_digit_0 rfl (lv_at hl 1 rfl) ?_
    refine lv_tableIn (off := 36) (tgt := 37) X.1 X.2.1 dX2_digit_1 (by decide) (by decide) (by decide) (by decide) ?_
    refine x_iload_n X dX2_digit_37 rfl (lv_at hl 0 rfl) ?_
    refine x_bipush (v := nI 100) X dX2_digit_38 (by decide) ?_
    refine n_idiv X dX2_digit_40 (by omega) (by omega) (by decide) ?_
    refine x_bipush (v := nI 10) X dX2_digit_41 (by decide) ?_
    refine n_irem X dX2_digit_43 (by omega) (by omega) (by decide) ?_
    exact x_iret X hW rfl () (rfl) rfl dX2_digit_44
  · refine x_iload_n X dX2_digit_0 rfl (lv_at hl 1 rfl) ?_
    refine lv_tableIn (off := 44) (tgt := 45) X.1 X.2.1 dX2_digit_1 (by decide) (by decide) (by decide) (by decide) ?_
    refine x_iload_n X dX2_digit_45 rfl (lv_at hl 0 rfl) ?_
    refine x_bipush (v := nI 10) X dX2_digit_46 (by decide) ?_
    refine n_idiv X dX2_digit_48 (by omega) (by omega) (by decide) ?_
    refine x_bipush (v := nI 10) X dX2_digit_49 (by decide) ?_
    refine n_irem X dX2_digit_51 (by omega) (by omega) (by decide) ?_
    exact x_iret X hW rfl () (rfl) rfl dX2_digit_52
  · refine x_iload_n X dX2_digit_0 rfl (lv_at hl 1 rfl) ?_
    refine lv_tableOut (tgt := 53) X.1 X.2.1 dX2_digit_1 (by decide) (by decide) ?_
    refine x_iload_n X dX2_digit_53 rfl (lv_at hl 0 rfl) ?_
    refine x_bipush (v := nI 10) X dX2_digit_54 (by decide) ?_
    refine n_irem X dX2_digit_56 (by omega) (by omega) (by decide) ?_
    exact x_iret X hW rfl () (rfl) rfl dX2_digit_57
set_option maxHeartbeats 4000000 in
set_option maxRecDepth 100000 in
theorem c_X2_weight (l : Launch) (D : va_G) (cI cZ cO : ClassId)  (sz : Nat) (r : Nat)  (hr : r < 4) : Met l yX2_weight wsX2_weight ({ frames := 0, cells := 0, slots := 0, locals := 0 }) (va_Pc [.int (nI r)] (st_W D (ty3 cI cZ cO) ([] : va_W) sz)) (va_Qi (fun (rr : Int32) (u : Unit) => rr = nI (wt r)) (fun u t => at_W D (ty3 cI cZ cO) (va_A ([] : va_W) sz) ([] : va_W) t) (va_A ([] : va_W) sz)) 0 0 (va_A ([] : va_W) sz) := by
  refine Met.goi (cc := cX2_weight) (maxL := 1) (ret := (some .int)) (by decide) rfl (Nat.le_of_ble_eq_true rfl) (fun p e s m below meth c A ls X hW hl => ?_)
  have hl : lv_has ls 1 [(0, .int (nI r))] := hl
  rcases (show r = 0 ∨ r = 1 ∨ r = 2 ∨ r = 3 by omega) with rfl | rfl | rfl | rfl
  · refine x_iload_n X dX2_weight_0 rfl (lv_at hl 0 rfl) ?_
    refine lv_tableIn (off := 27) (tgt := 28) X.1 X.2.1 dX2_weight_1 (by decide) (by decide) (by decide) (by decide) ?_
    refine x_sipush (v := nI 1000) X dX2_weight_28 (by decide) ?_
    exact x_iret X hW rfl () (rfl) rfl dX2_weight_31
  · refine x_iload_n X dX2_weight_0 rfl (lv_at hl 0 rfl) ?_
    refine lv_tableIn (off := 31) (tgt := 32) X.1 X.2.1 dX2_weight_1 (by decide) (by decide) (by decide) (by decide) ?_
    refine x_bipush (v := nI 100) X dX2_weight_32 (by decide) ?_
    exact x_iret X hW rfl () (rfl) rfl dX2_weight_34
  · refine x_iload_n X dX2_weight_0 rfl (lv_at hl 0 rfl) ?_
    refine lv_tableIn (off := 34) (tgt := 35) X.1 X.2.1 dX2_weight_1 (by decide) (by decide) (by decide) (by decide) ?_
    refine x_bipush (v := nI 10) X dX2_weight_35 (by decide) ?_
    exact x_iret X hW rfl () (rfl) rfl dX2_weight_37
  · refine x_iload_n X dX2_weight_0 rfl (lv_at hl 0 rfl) ?_
    refine lv_tableOut (tgt := 38) X.1 X.2.1 dX2_weight_1 (by decide) (by decide) ?_
    refine x_iconst (v := nI 1) X dX2_weight_38 (by decide) ?_
    exact x_iret X hW rfl () (rfl) rfl dX2_weight_39
set_option maxHeartbeats 4000000 in
set_option maxRecDepth 100000 in
theorem c_X2_isState (l : Launch) (D : va_G) (cI cZ cO : ClassId) (zq : Nat) (za : Nat → Nat) (zg : Nat → Nat) (zh : Nat → Int32) (zk : Int64) (zF : Nat → Nat → Nat) (sz : Nat) (w : Int32)   : Met l yX2_isState wsX2_isState ({ frames := 0, cells := 0, slots := 0, locals := 0 }) (va_Pc [.ref zq, .int w] (st_W D (ty3 cI cZ cO) (wS cI cZ zq za zg zh zk zF) sz)) (va_Qi (fun (rr : Int32) (u : Unit) => (rr = nI 1 ∧ (inR w 40000) ∨ rr = nI 0 ∧ ¬ (inR w 40000))) (fun u t => at_W D (ty3 cI cZ cO) (va_A (wS cI cZ zq za zg zh zk zF) sz) (wS cI cZ zq za zg zh zk zF) t) (va_A (wS cI cZ zq za zg zh zk zF) sz)) 0 0 (va_A (wS cI cZ zq za zg zh zk zF) sz) := by
  refine Met.goi (cc := cX2_isState) (maxL := 2) (ret := (some .boolean)) (by decide) rfl (Nat.le_of_ble_eq_true rfl) (fun p e s m below meth c A ls X hW hl => ?_)
  have hi2 : ∀ w ∈ wsX20, w ∈ wsX2_isState := fun w h => List.mem_cons_of_mem _ (List.mem_append_right _ h)
  have hl : lv_has ls 2 [(0, .ref zq), (1, .int w)] := hl
  refine x_iload_n X dX2_isState_0 rfl (lv_at hl 1 rfl) ?_
  refine x_if_lt X 17 dX2_isState_1 (by decide) (fun c1 => ?_) (fun c1 => ?_)
  · refine x_iconst (v := nI 0) X dX2_isState_17 (by decide) ?_
    exact x_zret X hW rfl (Or.inl (by decide)) () (Or.inr ⟨rfl, by first | exact inR_of c1 c10 (by decide) | exact inR_neg c1 | exact inR_big c10 (by decide)⟩) rfl dX2_isState_18
  · refine x_iload_n X dX2_isState_4 rfl (lv_at hl 1 rfl) ?_
    refine x_aload_n X dX2_isState_5 rfl (lv_at hl 0 rfl) ?_
    refine x_get X hW (v := .ref (za 0)) hi2 0 rfl rfl 0 (by decide) (List.mem_of_getElem? (i := 1) rfl) rfl rfl dX2_isState_6 ?_
    refine n_alen X hW (f := fun i => nI (zF 0 i)) 1 0 rfl rfl dX2_isState_9 ?_
    refine x_icmp_ge X 17 dX2_isState_10 (by decide) (fun c10 => ?_) (fun c10 => ?_)
    · refine x_iconst (v := nI 0) X dX2_isState_17 (by decide) ?_
      exact x_zret X hW rfl (Or.inl (by decide)) () (Or.inr ⟨rfl, by first | exact inR_of c1 c10 (by decide) | exact inR_neg c1 | exact inR_big c10 (by decide)⟩) rfl dX2_isState_18
    · refine x_iconst (v := nI 1) X dX2_isState_13 (by decide) ?_
      refine x_goto X 18 dX2_isState_14 (by decide) ?_
      exact x_zret X hW rfl (Or.inr (by decide)) () (Or.inl ⟨rfl, by first | exact inR_of c1 c10 (by decide) | exact inR_neg c1 | exact inR_big c10 (by decide)⟩) rfl dX2_isState_18
set_option maxHeartbeats 4000000 in
set_option maxRecDepth 100000 in
theorem c_X2_isGoal (l : Launch) (D : va_G) (cI cZ cO : ClassId) (zq : Nat) (za : Nat → Nat) (zg : Nat → Nat) (zh : Nat → Int32) (zk : Int64) (zF : Nat → Nat → Nat) (sz : Nat) (w : Nat)  (hww : w < 100000) (hby : zg 9 ≤ 1) (hgr : zg 10 < 4) (hgl : zg 11 ≤ 9) : Met l yX2_isGoal wsX2_isGoal ({ frames := 1, cells := 0, slots := 0, locals := 21 }) (va_Pc [.ref zq, .int (nI w)] (st_W D (ty3 cI cZ cO) (wS cI cZ zq za zg zh zk zF) sz)) (va_Qi (fun (rr : Int32) (u : Unit) => (rr = nI 1 ∧ (GZ (zg 9) (zg 10) (zg 11) w) ∨ rr = nI 0 ∧ ¬ (GZ (zg 9) (zg 10) (zg 11) w))) (fun u t => at_W D (ty3 cI cZ cO) (va_A (wS cI cZ zq za zg zh zk zF) sz) (wS cI cZ zq za zg zh zk zF) t) (va_A (wS cI cZ zq za zg zh zk zF) sz)) 0 0 (va_A (wS cI cZ zq za zg zh zk zF) sz) := by
  refine Met.goi (cc := cX2_isGoal) (maxL := 2) (ret := (some .boolean)) (by decide) rfl (Nat.le_of_ble_eq_true rfl) (fun p e s m below meth c A ls X hW hl => ?_)
  have hi2 : ∀ w ∈ wsX20, w ∈ wsX2_isGoal := fun w h => List.mem_cons_of_mem _ (List.mem_append_right _ h)
  have hl : lv_has ls 2 [(0, .ref zq), (1, .int (nI w))] := hl
  have hdl := dig_le w (zg 10)
  refine x_aload_n X dX2_isGoal_0 rfl (lv_at hl 0 rfl) ?_
  refine x_get X hW (v := .int (nI (zg 9))) hi2 0 rfl rfl 9 (by decide) (List.mem_of_getElem? (i := 1) rfl) rfl rfl dX2_isGoal_1 ?_
  refine n_if_eq X 27 dX2_isGoal_4 (by decide) (by omega) (fun c4 => ?_) (fun c4 => ?_)
  · refine x_iload_n X dX2_isGoal_27 rfl (lv_at hl 1 rfl) ?_
    refine x_aload_n X dX2_isGoal_28 rfl (lv_at hl 0 rfl) ?_
    refine x_get X hW (v := .int (nI (zg 10))) hi2 0 rfl rfl 10 (by decide) (List.mem_of_getElem? (i := 2) rfl) rfl rfl dX2_isGoal_29 ?_
    refine x_callSie X hW (As := [.int (nI w), .int (nI (zg 10))]) (rest := []) (c_X2_digit l D cI cZ cO  _ w (zg 10) (show (zg 10) < 4 from (by first | assumption | omega)) (show w < 100000 from (by first | assumption | omega))) (va_cwS 2 X.2.2.2.2.2.1 gX2_isGoal_X2_digit rfl rfl rfl (by decide +kernel) ⟨Nat.le_of_ble_eq_true rfl, Nat.le_of_ble_eq_true rfl⟩) rfl hl.1 rfl (Nat.le_of_ble_eq_true rfl) ⟨Nat.le_of_ble_eq_true rfl, Nat.le_of_ble_eq_true rfl⟩ dX2_isGoal_32 (fun r1 u2 H locs w32 hW => ?_)
    have hW : Wd D A s.heap H locs (wS cI cZ zq za zg zh zk zF) := hW
    replace w32 : r1 = nI (dig w (zg 10)) := w32
    subst w32
    refine x_aload_n X dX2_isGoal_35 rfl (lv_at hl 0 rfl) ?_
    refine x_get X hW (v := .int (nI (zg 11))) hi2 0 rfl rfl 11 (by decide) (List.mem_of_getElem? (i := 3) rfl) rfl rfl dX2_isGoal_36 ?_
    refine n_icmp_lt X 46 dX2_isGoal_39 (by decide) (by omega) (by omega) (fun c39 => ?_) (fun c39 => ?_)
    · refine x_iconst (v := nI 0) X dX2_isGoal_46 (by decide) ?_
      exact x_zret X hW rfl (Or.inl (by decide)) () (Or.inr ⟨rfl, by unfold GZ; omega⟩) rfl dX2_isGoal_47
    · refine x_iconst (v := nI 1) X dX2_isGoal_42 (by decide) ?_
      refine x_goto X 47 dX2_isGoal_43 (by decide) ?_
      exact x_zret X hW rfl (Or.inr (by decide)) () (Or.inl ⟨rfl, by unfold GZ; omega⟩) rfl dX2_isGoal_47
  · refine x_iload_n X dX2_isGoal_7 rfl (lv_at hl 1 rfl) ?_
    refine x_sipush (v := nI 10000) X dX2_isGoal_8 (by decide) ?_
    refine n_idiv X dX2_isGoal_11 (by omega) (by omega) (by decide) ?_
    refine x_aload_n X dX2_isGoal_12 rfl (lv_at hl 0 rfl) ?_
    refine x_get X hW (v := .int (nI (zg 10))) hi2 0 rfl rfl 10 (by decide) (List.mem_of_getElem? (i := 2) rfl) rfl rfl dX2_isGoal_13 ?_
    refine n_icmp_ne X 23 dX2_isGoal_16 (by decide) (by omega) (by omega) (fun c16 => ?_) (fun c16 => ?_)
    · refine x_iconst (v := nI 0) X dX2_isGoal_23 (by decide) ?_
      refine x_goto X 47 dX2_isGoal_24 (by decide) ?_
      exact x_zret X hW rfl (Or.inl (by decide)) () (Or.inr ⟨rfl, by unfold GZ; omega⟩) rfl dX2_isGoal_47
    · refine x_iconst (v := nI 1) X dX2_isGoal_19 (by decide) ?_
      refine x_goto X 47 dX2_isGoal_20 (by decide) ?_
      exact x_zret X hW rfl (Or.inr (by decide)) () (Or.inl ⟨rfl, by unfold GZ; omega⟩) rfl dX2_isGoal_47
set_option maxHeartbeats 4000000 in
set_option maxRecDepth 100000 in
theorem c_X2_behindNight (l : Launch) (D : va_G) (cI cZ cO : ClassId) (zq : Nat) (za : Nat → Nat) (zg : Nat → Nat) (zh : Nat → Int32) (zk : Int64) (zF : Nat → Nat → Nat) (sz : Nat) (w : Nat)  (hvs : VS (zg 6 + 1) w) (h1 : 1 ≤ zg 6) (hn : zg 6 ≤ 3) (hrn : zg 7 ≤ 3) : Met l yX2_behindNight wsX2_behindNight ({ frames := 1, cells := 0, slots := 0, locals := 21 }) (va_Pc [.ref zq, .int (nI w)] (st_W D (ty3 cI cZ cO) (wS cI cZ zq za zg zh zk zF) sz)) (va_Qi (fun (rr : Int32) (u : Unit) => rr = nI (nightW (zg 6 + 1) (zg 7) w)) (fun u t => at_W D (ty3 cI cZ cO) (va_A (wS cI cZ zq za zg zh zk zF) sz) (wS cI cZ zq za zg zh zk zF) t) (va_A (wS cI cZ zq za zg zh zk zF) sz)) 0 0 (va_A (wS cI cZ zq za zg zh zk zF) sz) := by
  refine Met.goi (cc := cX2_behindNight) (maxL := 4) (ret := (some .int)) (by decide) rfl (Nat.le_of_ble_eq_true rfl) (fun p e s m below meth c A ls X hW hl => ?_)
  have hi2 : ∀ w ∈ wsX20, w ∈ wsX2_behindNight := fun w h => List.mem_cons_of_mem _ (List.mem_append_right _ h)
  have hl : lv_has ls 4 [(0, .ref zq), (1, .int (nI w))] := hl
  have b0 := dig_le w 0
  have b6 := dig_le w (zg 6)
  have hvw := hvs.1
  have e := night_w (rn := zg 7) hvs (by omega) (by omega)
  rw [Nat.add_sub_cancel] at e
  refine x_iload_n X dX2_behindNight_0 rfl (lv_at hl 1 rfl) ?_
  refine x_iconst (v := nI 0) X dX2_behindNight_1 (by decide) ?_
  refine x_callSie X hW (As := [.int (nI w), .int (nI 0)]) (rest := []) (c_X2_digit l D cI cZ cO  _ w 0 (show 0 < 4 from (by first | assumption | omega)) (show w < 100000 from (by first | assumption | omega))) (va_cwS 2 X.2.2.2.2.2.1 gX2_behindNight_X2_digit rfl rfl rfl (by decide +kernel) ⟨Nat.le_of_ble_eq_true rfl, Nat.le_of_ble_eq_true rfl⟩) rfl hl.1 rfl (Nat.le_of_ble_eq_true rfl) ⟨Nat.le_of_ble_eq_true rfl, Nat.le_of_ble_eq_true rfl⟩ dX2_behindNight_2 (fun r1 u2 H locs w2 hW => ?_)
  have hW : Wd D A s.heap H locs (wS cI cZ zq za zg zh zk zF) := hW
  replace w2 : r1 = nI (dig w 0) := w2
  subst w2
  have q0 := b0
  refine x_istore_n X [(2, .int (nI (dig w 0))), (0, .ref zq), (1, .int (nI w))] dX2_behindNight_5 rfl hl (by decide) rfl (fun ls hl => ?_)
  refine x_iload_n X dX2_behindNight_6 rfl (lv_at hl 2 rfl) ?_
  refine x_bipush (v := nI 9) X dX2_behindNight_7 (by decide) ?_
  refine x_iload_n X dX2_behindNight_9 rfl (lv_at hl 0 rfl) ?_
  refine x_aload_n X dX2_behindNight_10 rfl (lv_at hl 1 rfl) ?_
  refine x_get X hW (v := .int (nI (zg 7))) hi2 0 rfl rfl 7 (by decide) (List.mem_of_getElem? (i := 1) rfl) rfl rfl dX2_behindNight_11 ?_
  refine n_iadd X dX2_behindNight_14 ?_
  refine x_mmin (v := nI (min 9 (dig w 0 + zg 7))) X hl.1 (List.mem_of_getElem? (i := 2) rfl) (List.mem_of_getElem? (i := 3) rfl) (List.mem_of_getElem? (i := 4) rfl) (List.mem_of_getElem? (i := 5) rfl) ⟨Nat.le_of_ble_eq_true rfl, Nat.le_of_ble_eq_true rfl⟩ ⟨Nat.le_of_ble_eq_true rfl, Nat.le_of_ble_eq_true rfl⟩ (ie_mn (by decide) (by omega)) dX2_behindNight_15 ?_
  refine x_iload_n X dX2_behindNight_18 rfl (lv_at hl 0 rfl) ?_
  refine n_isub X dX2_behindNight_19 (by omega) ?_
  refine x_iconst (v := nI 0) X dX2_behindNight_20 (by decide) ?_
  refine x_callSie X hW (As := [.int (nI 0)]) (rest := [.int (nI ((min 9 (dig w 0 + zg 7)) - dig w 0)), .int (nI w)]) (c_X2_weight l D cI cZ cO  _ 0 (show 0 < 4 from (by first | assumption | omega))) (va_cwS 1 X.2.2.2.2.2.1 gX2_behindNight_X2_weight rfl rfl rfl (by decide +kernel) ⟨Nat.le_of_ble_eq_true rfl, Nat.le_of_ble_eq_true rfl⟩) rfl hl.1 rfl (Nat.le_of_ble_eq_true rfl) ⟨Nat.le_of_ble_eq_true rfl, Nat.le_of_ble_eq_true rfl⟩ dX2_behindNight_21 (fun r3 u4 H locs w21 hW => ?_)
  have hW : Wd D A s.heap H locs (wS cI cZ zq za zg zh zk zF) := hW
  replace w21 : r3 = nI (wt 0) := w21
  subst w21
  refine n_imul X dX2_behindNight_24 ?_
  refine n_as0 (b := (min 9 (dig w 0 + zg 7) - dig w 0) * 1000) rfl ?_
  refine n_iadd X dX2_behindNight_25 ?_
  refine x_istore_n X [(3, .int (nI (w + ((min 9 (dig w 0 + zg 7) - dig w 0) * 1000)))), (2, .int (nI (dig w 0))), (0, .ref zq), (1, .int (nI w))] dX2_behindNight_26 rfl hl (by decide) rfl (fun ls hl => ?_)
  refine x_iload_n X dX2_behindNight_27 rfl (lv_at hl 3 rfl) ?_
  refine x_aload_n X dX2_behindNight_28 rfl (lv_at hl 2 rfl) ?_
  refine x_get X hW (v := .int (nI (zg 6))) hi2 0 rfl rfl 6 (by decide) (List.mem_of_getElem? (i := 6) rfl) rfl rfl dX2_behindNight_29 ?_
  refine x_callSie X hW (As := [.int (nI w), .int (nI (zg 6))]) (rest := []) (c_X2_digit l D cI cZ cO  _ w (zg 6) (show (zg 6) < 4 from (by first | assumption | omega)) (show w < 100000 from (by first | assumption | omega))) (va_cwS 2 X.2.2.2.2.2.1 gX2_behindNight_X2_digit rfl rfl rfl (by decide +kernel) ⟨Nat.le_of_ble_eq_true rfl, Nat.le_of_ble_eq_true rfl⟩) rfl hl.1 rfl (Nat.le_of_ble_eq_true rfl) ⟨Nat.le_of_ble_eq_true rfl, Nat.le_of_ble_eq_true rfl⟩ dX2_behindNight_32 (fun r5 u6 H locs w32 hW => ?_)
  have hW : Wd D A s.heap H locs (wS cI cZ zq za zg zh zk zF) := hW
  replace w32 : r5 = nI (dig w (zg 6)) := w32
  subst w32
  refine n_if_le X 50 dX2_behindNight_35 (by decide) (by omega) (fun c35 => ?_) (fun c35 => ?_)
  · refine x_iload_n X dX2_behindNight_50 rfl (lv_at hl 0 rfl) ?_
    have q := e
    exact x_iret X hW rfl () ((congrArg nI (show w + ((min 9 (dig w 0 + zg 7) - dig w 0) * 1000) = nightW (zg 6 + 1) (zg 7) w from by refine Eq.trans ?_ e.symm; split <;> omega))) rfl dX2_behindNight_51
  · refine x_iload_n X dX2_behindNight_38 rfl (lv_at hl 0 rfl) ?_
    refine x_aload_n X dX2_behindNight_39 rfl (lv_at hl 2 rfl) ?_
    refine x_get X hW (v := .int (nI (zg 6))) hi2 0 rfl rfl 6 (by decide) (List.mem_of_getElem? (i := 6) rfl) rfl rfl dX2_behindNight_40 ?_
    refine x_callSie X hW (As := [.int (nI (zg 6))]) (rest := [.int (nI (w + ((min 9 (dig w 0 + zg 7) - dig w 0) * 1000)))]) (c_X2_weight l D cI cZ cO  _ (zg 6) (show (zg 6) < 4 from (by first | assumption | omega))) (va_cwS 1 X.2.2.2.2.2.1 gX2_behindNight_X2_weight rfl rfl rfl (by decide +kernel) ⟨Nat.le_of_ble_eq_true rfl, Nat.le_of_ble_eq_true rfl⟩) rfl hl.1 rfl (Nat.le_of_ble_eq_true rfl) ⟨Nat.le_of_ble_eq_true rfl, Nat.le_of_ble_eq_true rfl⟩ dX2_behindNight_43 (fun r7 u8 H locs w43 hW => ?_)
    have hW : Wd D A s.heap H locs (wS cI cZ zq za zg zh zk zF) := hW
    replace w43 : r7 = nI (wt (zg 6)) := w43
    subst w43
    have hwl := wt_le (w := w) (a := zg 6) (by omega)
    refine n_isub X dX2_behindNight_46 (by omega) ?_
    refine x_goto X 51 dX2_behindNight_47 (by decide) ?_
    have q := e
    exact x_iret X hW rfl () ((congrArg nI (show (w + ((min 9 (dig w 0 + zg 7) - dig w 0) * 1000)) - (wt (zg 6)) = nightW (zg 6 + 1) (zg 7) w from by refine Eq.trans ?_ e.symm; split <;> omega))) rfl dX2_behindNight_51
set_option maxHeartbeats 4000000 in
set_option maxRecDepth 100000 in
theorem c_X2_behindOpening (l : Launch) (D : va_G) (cI cZ cO : ClassId) (zq : Nat) (za : Nat → Nat) (zg : Nat → Nat) (zh : Nat → Int32) (zk : Int64) (zF : Nat → Nat → Nat) (sz : Nat) (w : Nat) (a : Nat)  (hvs : VS (zg 6 + 1) w) (ha : a < zg 6) (hwn : zg 8 < 100000) (h1 : 1 ≤ zg 6) (hn : zg 6 ≤ 3) : Met l yX2_behindOpening wsX2_behindOpening ({ frames := 1, cells := 0, slots := 0, locals := 21 }) (va_Pc [.ref zq, .int (nI w), .int (nI a)] (st_W D (ty3 cI cZ cO) (wS cI cZ zq za zg zh zk zF) sz)) (va_Qi (fun (rr : Int32) (u : Unit) => (rr = nI (openW (zg 6 + 1) w a) ∧ (mayW (zg 8) (dig w) a) ∨ rr = (-9 : Int32) ∧ (¬ mayW (zg 8) (dig w) a))) (fun u t => at_W D (ty3 cI cZ cO) (va_A (wS cI cZ zq za zg zh zk zF) sz) (wS cI cZ zq za zg zh zk zF) t) (va_A (wS cI cZ zq za zg zh zk zF) sz)) 0 0 (va_A (wS cI cZ zq za zg zh zk zF) sz) := by
  refine Met.goi (cc := cX2_behindOpening) (maxL := 4) (ret := (some .int)) (by decide) rfl (Nat.le_of_ble_eq_true rfl) (fun p e s m below meth c A ls X hW hl => ?_)
  have hi2 : ∀ w ∈ wsX20, w ∈ wsX2_behindOpening := fun w h => List.mem_cons_of_mem _ (List.mem_append_right _ h)
  have hl : lv_has ls 4 [(0, .ref zq), (1, .int (nI w)), (2, .int (nI a))] := hl
  have b0 := dig_le w a
  have b1 := dig_le w (a + 1)
  have b2 := dig_le (zg 8) (a + 1)
  have hvw := hvs.1
  refine x_iload_n X dX2_behindOpening_0 rfl (lv_at hl 1 rfl) ?_
  refine x_iload_n X dX2_behindOpening_1 rfl (lv_at hl 2 rfl) ?_
  refine x_callSie X hW (As := [.int (nI w), .int (nI a)]) (rest := []) (c_X2_digit l D cI cZ cO  _ w a (show a < 4 from (by first | assumption | omega)) (show w < 100000 from (by first | assumption | omega))) (va_cwS 2 X.2.2.2.2.2.1 gX2_behindOpening_X2_digit rfl rfl rfl (by decide +kernel) ⟨Nat.le_of_ble_eq_true rfl, Nat.le_of_ble_eq_true rfl⟩) rfl hl.1 rfl (Nat.le_of_ble_eq_true rfl) ⟨Nat.le_of_ble_eq_true rfl, Nat.le_of_ble_eq_true rfl⟩ dX2_behindOpening_2 (fun r1 u2 H locs w2 hW => ?_)
  have hW : Wd D A s.heap H locs (wS cI cZ zq za zg zh zk zF) := hW
  replace w2 : r1 = nI (dig w a) := w2
  subst w2
  refine x_iconst (v := nI 1) X dX2_behindOpening_5 (by decide) ?_
  refine n_icmp_lt X 29 dX2_behindOpening_6 (by decide) (by omega) (by decide) (fun c6 => ?_) (fun c6 => ?_)
  · refine x_bipush (v := (-9 : Int32)) X dX2_behindOpening_29 (by decide) ?_
    exact x_iret X hW rfl () (Or.inr (⟨rfl, by first | exact hmay | (unfold mayW; omega)⟩)) rfl dX2_behindOpening_31
  · refine x_iload_n X dX2_behindOpening_9 rfl (lv_at hl 1 rfl) ?_
    refine x_iload_n X dX2_behindOpening_10 rfl (lv_at hl 2 rfl) ?_
    refine x_iconst (v := nI 1) X dX2_behindOpening_11 (by decide) ?_
    refine n_iadd X dX2_behindOpening_12 ?_
    refine x_callSie X hW (As := [.int (nI w), .int (nI (a + 1))]) (rest := []) (c_X2_digit l D cI cZ cO  _ w (a + 1) (show (a + 1) < 4 from (by first | assumption | omega)) (show w < 100000 from (by first | assumption | omega))) (va_cwS 2 X.2.2.2.2.2.1 gX2_behindOpening_X2_digit rfl rfl rfl (by decide +kernel) ⟨Nat.le_of_ble_eq_true rfl, Nat.le_of_ble_eq_true rfl⟩) rfl hl.1 rfl (Nat.le_of_ble_eq_true rfl) ⟨Nat.le_of_ble_eq_true rfl, Nat.le_of_ble_eq_true rfl⟩ dX2_behindOpening_13 (fun r3 u4 H locs w13 hW => ?_)
    have hW : Wd D A s.heap H locs (wS cI cZ zq za zg zh zk zF) := hW
    replace w13 : r3 = nI (dig w (a + 1)) := w13
    subst w13
    refine x_aload_n X dX2_behindOpening_16 rfl (lv_at hl 0 rfl) ?_
    refine x_get X hW (v := .int (nI (zg 8))) hi2 0 rfl rfl 8 (by decide) (List.mem_of_getElem? (i := 1) rfl) rfl rfl dX2_behindOpening_17 ?_
    refine x_iload_n X dX2_behindOpening_20 rfl (lv_at hl 2 rfl) ?_
    refine x_iconst (v := nI 1) X dX2_behindOpening_21 (by decide) ?_
    refine n_iadd X dX2_behindOpening_22 ?_
    refine x_callSie X hW (As := [.int (nI (zg 8)), .int (nI (a + 1))]) (rest := [.int (nI (dig w (a + 1)))]) (c_X2_digit l D cI cZ cO  _ (zg 8) (a + 1) (show (a + 1) < 4 from (by first | assumption | omega)) (show (zg 8) < 100000 from (by first | assumption | omega))) (va_cwS 2 X.2.2.2.2.2.1 gX2_behindOpening_X2_digit rfl rfl rfl (by decide +kernel) ⟨Nat.le_of_ble_eq_true rfl, Nat.le_of_ble_eq_true rfl⟩) rfl hl.1 rfl (Nat.le_of_ble_eq_true rfl) ⟨Nat.le_of_ble_eq_true rfl, Nat.le_of_ble_eq_true rfl⟩ dX2_behindOpening_23 (fun r5 u6 H locs w23 hW => ?_)
    have hW : Wd D A s.heap H locs (wS cI cZ zq za zg zh zk zF) := hW
    replace w23 : r5 = nI (dig (zg 8) (a + 1)) := w23
    subst w23
    refine n_icmp_lt X 32 dX2_behindOpening_26 (by decide) (by omega) (by omega) (fun c26 => ?_) (fun c26 => ?_)
    · have hmay : mayW (zg 8) (dig w) a := ⟨by omega, by omega⟩
      have hwl := wt_le hmay.1
      have hw1 := wt_1000 (a + 1)
      have e := thru_w (b := if a = w / 10000 then 1 else 0) hvs (by omega) (by omega) hmay.1
      refine x_iload_n X dX2_behindOpening_32 rfl (lv_at hl 1 rfl) ?_
      refine x_iload_n X dX2_behindOpening_33 rfl (lv_at hl 2 rfl) ?_
      refine x_callSie X hW (As := [.int (nI a)]) (rest := [.int (nI w)]) (c_X2_weight l D cI cZ cO  _ a (show a < 4 from (by first | assumption | omega))) (va_cwS 1 X.2.2.2.2.2.1 gX2_behindOpening_X2_weight rfl rfl rfl (by decide +kernel) ⟨Nat.le_of_ble_eq_true rfl, Nat.le_of_ble_eq_true rfl⟩) rfl hl.1 rfl (Nat.le_of_ble_eq_true rfl) ⟨Nat.le_of_ble_eq_true rfl, Nat.le_of_ble_eq_true rfl⟩ dX2_behindOpening_34 (fun r7 u8 H locs w34 hW => ?_)
      have hW : Wd D A s.heap H locs (wS cI cZ zq za zg zh zk zF) := hW
      replace w34 : r7 = nI (wt a) := w34
      subst w34
      refine n_isub X dX2_behindOpening_37 (by omega) ?_
      refine x_iload_n X dX2_behindOpening_38 rfl (lv_at hl 2 rfl) ?_
      refine x_iconst (v := nI 1) X dX2_behindOpening_39 (by decide) ?_
      refine n_iadd X dX2_behindOpening_40 ?_
      refine x_callSie X hW (As := [.int (nI (a + 1))]) (rest := [.int (nI (w - wt a))]) (c_X2_weight l D cI cZ cO  _ (a + 1) (show (a + 1) < 4 from (by first | assumption | omega))) (va_cwS 1 X.2.2.2.2.2.1 gX2_behindOpening_X2_weight rfl rfl rfl (by decide +kernel) ⟨Nat.le_of_ble_eq_true rfl, Nat.le_of_ble_eq_true rfl⟩) rfl hl.1 rfl (Nat.le_of_ble_eq_true rfl) ⟨Nat.le_of_ble_eq_true rfl, Nat.le_of_ble_eq_true rfl⟩ dX2_behindOpening_41 (fun r9 u10 H locs w41 hW => ?_)
      have hW : Wd D A s.heap H locs (wS cI cZ zq za zg zh zk zF) := hW
      replace w41 : r9 = nI (wt (a + 1)) := w41
      subst w41
      refine n_iadd X dX2_behindOpening_44 ?_
      refine x_istore_n X [(3, .int (nI ((w - wt a) + (wt (a + 1))))), (0, .ref zq), (1, .int (nI w)), (2, .int (nI a))] dX2_behindOpening_45 rfl hl (by decide) rfl (fun ls hl => ?_)
      refine x_iload_n X dX2_behindOpening_46 rfl (lv_at hl 2 rfl) ?_
      refine x_sipush (v := nI 10000) X dX2_behindOpening_47 (by decide) ?_
      refine n_idiv X dX2_behindOpening_50 (by omega) (by omega) (by decide) ?_
      refine x_iload_n X dX2_behindOpening_51 rfl (lv_at hl 3 rfl) ?_
      refine n_icmp_ne X 63 dX2_behindOpening_52 (by decide) (by omega) (by omega) (fun c52 => ?_) (fun c52 => ?_)
      · refine x_iload_n X dX2_behindOpening_63 rfl (lv_at hl 0 rfl) ?_
        refine n_as0 (b := openW (zg 6 + 1) w a) (by refine Eq.trans ?_ e.symm; split <;> omega) ?_
        exact x_iret X hW rfl () (Or.inl ⟨rfl, by first | exact hmay | (unfold mayW; omega)⟩) rfl dX2_behindOpening_64
      · refine x_iload_n X dX2_behindOpening_55 rfl (lv_at hl 0 rfl) ?_
        refine x_sipush (v := nI 10000) X dX2_behindOpening_56 (by decide) ?_
        refine n_iadd X dX2_behindOpening_59 ?_
        refine x_goto X 64 dX2_behindOpening_60 (by decide) ?_
        refine n_as0 (b := openW (zg 6 + 1) w a) (by refine Eq.trans ?_ e.symm; split <;> omega) ?_
        exact x_iret X hW rfl () (Or.inl ⟨rfl, by first | exact hmay | (unfold mayW; omega)⟩) rfl dX2_behindOpening_64
    · refine x_bipush (v := (-9 : Int32)) X dX2_behindOpening_29 (by decide) ?_
      exact x_iret X hW rfl () (Or.inr (⟨rfl, by first | exact hmay | (unfold mayW; omega)⟩)) rfl dX2_behindOpening_31
set_option maxHeartbeats 4000000 in
set_option maxRecDepth 100000 in
theorem c_X2_comeTo (l : Launch) (D : va_G) (cI cZ cO : ClassId) (zq : Nat) (za : Nat → Nat) (zg : Nat → Nat) (zh : Nat → Int32) (zk : Int64) (zF : Nat → Nat → Nat) (sz : Nat) (w : Nat) (fr : Nat) (a : Nat) (b : BB) (hww : w < 40000) (hfr : fr < 40000) (ha : a < 4) (hag : AGZ b (zF 0) (zF 1) (zg 2)) (hroom : b.2.2 w = 0 → b.2.1 < 40000) (hz9 : zF 0 w ≤ 200000) : Met l yX2_comeTo wsX2_comeTo ({ frames := 1, cells := 0, slots := 0, locals := 21 }) (va_Pc [.ref zq, .int (nI w), .int (nI fr), .int (nI a)] (st_W D (ty3 cI cZ cO) (wS cI cZ zq za zg zh zk zF) sz)) (va_Qi (fun (rr : Int32) (u : (Nat → Nat) × (Nat → Nat) × (Nat)) => ((rr = nI 1 ∧ (b.2.2 w = 0) ∨ rr = nI 0 ∧ ¬ (b.2.2 w = 0))) ∧ (AGZ (bAdd b fr a w) u.1 u.2.1 u.2.2)) (fun u t => at_W D (ty3 cI cZ cO) (va_A (wS cI cZ zq za zg zh zk zF) sz) (wS cI cZ zq za (sF zg 2 u.2.2) zh zk (sF (sF zF 0 u.1) 1 u.2.1)) t) (va_A (wS cI cZ zq za zg zh zk zF) sz)) 0 0 (va_A (wS cI cZ zq za zg zh zk zF) sz) := by
  refine Met.goi (cc := cX2_comeTo) (maxL := 4) (ret := (some .boolean)) (by decide) rfl (Nat.le_of_ble_eq_true rfl) (fun p e s m below meth c A ls X hW hl => ?_)
  have hi2 : ∀ w ∈ wsX20, w ∈ wsX2_comeTo := fun w h => List.mem_cons_of_mem _ (List.mem_append_right _ h)
  have hl : lv_has ls 4 [(0, .ref zq), (1, .int (nI w)), (2, .int (nI fr)), (3, .int (nI a))] := hl
  have hw0 := hag.1 w hww
  have hz2 : zF 0 w = 0 → zg 2 < 40000 := fun q => by rw [hag.2.2.1]; exact hroom (by omega)
  refine x_aload_n X dX2_comeTo_0 rfl (lv_at hl 0 rfl) ?_
  refine x_iload_n X dX2_comeTo_1 rfl (lv_at hl 1 rfl) ?_
  refine x_callVi0 X hW (As := [.int (nI w)]) (rest := []) (c_X2_isState l D cI cZ cO zq za zg zh zk zF _ (nI w)) (cwV 1 X.2.2.2.2.2.1 gX2_comeTo_X2_isState rfl rfl rfl (by decide +kernel) ⟨Nat.le_of_ble_eq_true rfl, Nat.le_of_ble_eq_true rfl⟩) 0 2 rfl rfl rfl rfl hl.1 rfl (Nat.le_of_ble_eq_true rfl) ⟨Nat.le_of_ble_eq_true rfl, Nat.le_of_ble_eq_true rfl⟩ dX2_comeTo_2 (fun r1 u2 H locs w2 hW => ?_)
  have hW : Wd D A s.heap H locs (wS cI cZ zq za zg zh zk zF) := hW
  replace w2 : (r1 = nI 1 ∧ (inR (nI w) 40000) ∨ r1 = nI 0 ∧ ¬ (inR (nI w) 40000)) := w2
  rcases w2 with ⟨w2, h2⟩ | ⟨w2, h2⟩
  · subst w2
    refine n_if_eq X 36 dX2_comeTo_5 (by decide) (by decide) (fun c5 => by exact absurd c5 (by decide)) (fun c5 => ?_)
    refine x_aload_n X dX2_comeTo_8 rfl (lv_at hl 0 rfl) ?_
    refine x_get X hW (v := .ref (za 0)) hi2 0 rfl rfl 0 (by decide) (List.mem_of_getElem? (i := 1) rfl) rfl rfl dX2_comeTo_9 ?_
    refine x_iload_n X dX2_comeTo_12 rfl (lv_at hl 1 rfl) ?_
    refine n_iald X hW (f := zF 0) 1 0 rfl rfl (by omega) (by decide) dX2_comeTo_13 ?_
    refine n_if_ne X 36 dX2_comeTo_14 (by decide) (by omega) (fun c14 => ?_) (fun c14 => ?_)
    · refine x_iconst (v := nI 0) X dX2_comeTo_36 (by decide) ?_
      exact x_zret X hW rfl (Or.inl (by decide)) (zF 0, zF 1, zg 2) (⟨Or.inr ⟨rfl, by first | omega | exact AGZ_add hag c14 hww hfr ha | exact AGZ_no hag c14 hww⟩, by first | omega | exact AGZ_add hag c14 hww hfr ha | exact AGZ_no hag c14 hww⟩) rfl dX2_comeTo_37
    · have hz3 := hz2 c14
      refine x_aload_n X dX2_comeTo_17 rfl (lv_at hl 0 rfl) ?_
      refine x_get X hW (v := .int (nI (zg 2))) hi2 0 rfl rfl 2 (by decide) (List.mem_of_getElem? (i := 2) rfl) rfl rfl dX2_comeTo_18 ?_
      refine n_if_lt X 36 dX2_comeTo_21 (by decide) (by omega) ?_
      refine x_aload_n X dX2_comeTo_24 rfl (lv_at hl 0 rfl) ?_
      refine x_get X hW (v := .int (nI (zg 2))) hi2 0 rfl rfl 2 (by decide) (List.mem_of_getElem? (i := 2) rfl) rfl rfl dX2_comeTo_25 ?_
      refine x_aload_n X dX2_comeTo_28 rfl (lv_at hl 0 rfl) ?_
      refine x_get X hW (v := .ref (za 1)) hi2 0 rfl rfl 1 (by decide) (List.mem_of_getElem? (i := 3) rfl) rfl rfl dX2_comeTo_29 ?_
      refine n_alen X hW (f := fun i => nI (zF 1 i)) 2 0 rfl rfl dX2_comeTo_32 ?_
      refine n_icmp_lt X 38 dX2_comeTo_33 (by decide) (by omega) (by decide) (fun c33 => ?_) (fun c33 => by omega)
      refine x_aload_n X dX2_comeTo_38 rfl (lv_at hl 0 rfl) ?_
      refine x_get X hW (v := .ref (za 0)) hi2 0 rfl rfl 0 (by decide) (List.mem_of_getElem? (i := 1) rfl) rfl rfl dX2_comeTo_39 ?_
      refine x_iload_n X dX2_comeTo_42 rfl (lv_at hl 1 rfl) ?_
      refine x_iconst (v := nI 1) X dX2_comeTo_43 (by decide) ?_
      refine x_iload_n X dX2_comeTo_44 rfl (lv_at hl 2 rfl) ?_
      refine x_iconst (v := nI 4) X dX2_comeTo_45 (by decide) ?_
      refine n_imul X dX2_comeTo_46 ?_
      refine n_iadd X dX2_comeTo_47 ?_
      refine x_iload_n X dX2_comeTo_48 rfl (lv_at hl 3 rfl) ?_
      refine n_iadd X dX2_comeTo_49 ?_
      refine n_iast X hW (f := zF 0) 1 0 rfl rfl (by omega) (by decide) dX2_comeTo_50 (wS cI cZ zq za zg zh zk (sF zF 0 (sF (zF 0) w ((1 + (fr * 4)) + a)))) rfl (fun H locs hW => ?_)
      refine x_aload_n X dX2_comeTo_51 rfl (lv_at hl 0 rfl) ?_
      refine x_get X hW (v := .ref (za 1)) hi2 0 rfl rfl 1 (by decide) (List.mem_of_getElem? (i := 3) rfl) rfl rfl dX2_comeTo_52 ?_
      refine x_aload_n X dX2_comeTo_55 rfl (lv_at hl 0 rfl) ?_
      refine x_get X hW (v := .int (nI (zg 2))) hi2 0 rfl rfl 2 (by decide) (List.mem_of_getElem? (i := 2) rfl) rfl rfl dX2_comeTo_56 ?_
      refine x_iload_n X dX2_comeTo_59 rfl (lv_at hl 1 rfl) ?_
      refine n_iast X hW (f := zF 1) 2 0 rfl rfl (by omega) (by decide) dX2_comeTo_60 (wS cI cZ zq za zg zh zk (sF (sF zF 0 (sF (zF 0) w ((1 + (fr * 4)) + a))) 1 (sF (zF 1) (zg 2) w))) rfl (fun H locs hW => ?_)
      refine x_aload_n X dX2_comeTo_61 rfl (lv_at hl 0 rfl) ?_
      refine x_dup X dX2_comeTo_62 rfl ?_
      refine x_get X hW (v := .int (nI (zg 2))) hi2 0 rfl rfl 2 (by decide) (List.mem_of_getElem? (i := 2) rfl) rfl rfl dX2_comeTo_63 ?_
      refine x_iconst (v := nI 1) X dX2_comeTo_66 (by decide) ?_
      refine n_iadd X dX2_comeTo_67 ?_
      refine x_put X hW (v := .int (nI (zg 2 + 1))) hi2 tyX2 tyX2_ok nmX2 0 rfl rfl 2 (by decide) (List.mem_of_getElem? (i := 2) rfl) rfl rfl rfl rfl (Nat.le_of_ble_eq_true rfl) dX2_comeTo_68 (wS cI cZ zq za (sF zg 2 (zg 2 + 1)) zh zk (sF (sF zF 0 (sF (zF 0) w ((1 + (fr * 4)) + a))) 1 (sF (zF 1) (zg 2) w))) rfl (fun H locs hW => ?_)
      refine x_iconst (v := nI 1) X dX2_comeTo_71 (by decide) ?_
      exact x_zret X hW rfl (Or.inr (by decide)) (sF (zF 0) w ((1 + (fr * 4)) + a), sF (zF 1) (zg 2) w, zg 2 + 1) (⟨Or.inl ⟨rfl, by first | omega | exact AGZ_add hag c14 hww hfr ha | exact AGZ_no hag c14 hww⟩, by first | omega | exact AGZ_add hag c14 hww hfr ha | exact AGZ_no hag c14 hww⟩) rfl dX2_comeTo_72
  · subst w2
    exact absurd ((inR_nI (by omega)).mpr (by omega)) h2
set_option maxHeartbeats 4000000 in
set_option maxRecDepth 100000 in
theorem c_X2_comeTo9 (l : Launch) (D : va_G) (cI cZ cO : ClassId) (zq : Nat) (za : Nat → Nat) (zg : Nat → Nat) (zh : Nat → Int32) (zk : Int64) (zF : Nat → Nat → Nat) (sz : Nat) (fr : Nat) (a : Nat)   : Met l yX2_comeTo wsX2_comeTo ({ frames := 1, cells := 0, slots := 0, locals := 21 }) (va_Pc [.ref zq, .int (-9 : Int32), .int (nI fr), .int (nI a)] (st_W D (ty3 cI cZ cO) (wS cI cZ zq za zg zh zk zF) sz)) (va_Qi (fun (rr : Int32) (u : Unit) => rr = nI (0)) (fun u t => at_W D (ty3 cI cZ cO) (va_A (wS cI cZ zq za zg zh zk zF) sz) (wS cI cZ zq za zg zh zk zF) t) (va_A (wS cI cZ zq za zg zh zk zF) sz)) 0 0 (va_A (wS cI cZ zq za zg zh zk zF) sz) := by
  refine Met.goi (cc := cX2_comeTo) (maxL := 4) (ret := (some .boolean)) (by decide) rfl (Nat.le_of_ble_eq_true rfl) (fun p e s m below meth c A ls X hW hl => ?_)
  have hi2 : ∀ w ∈ wsX20, w ∈ wsX2_comeTo := fun w h => List.mem_cons_of_mem _ (List.mem_append_right _ h)
  have hl : lv_has ls 4 [(0, .ref zq), (1, .int (-9 : Int32)), (2, .int (nI fr)), (3, .int (nI a))] := hl
  refine x_aload_n X dX2_comeTo_0 rfl (lv_at hl 0 rfl) ?_
  refine x_iload_n X dX2_comeTo_1 rfl (lv_at hl 1 rfl) ?_
  refine x_callVi0 X hW (As := [.int (-9 : Int32)]) (rest := []) (c_X2_isState l D cI cZ cO zq za zg zh zk zF _ (-9 : Int32)) (cwV 1 X.2.2.2.2.2.1 gX2_comeTo_X2_isState rfl rfl rfl (by decide +kernel) ⟨Nat.le_of_ble_eq_true rfl, Nat.le_of_ble_eq_true rfl⟩) 0 2 rfl rfl rfl rfl hl.1 rfl (Nat.le_of_ble_eq_true rfl) ⟨Nat.le_of_ble_eq_true rfl, Nat.le_of_ble_eq_true rfl⟩ dX2_comeTo_2 (fun r1 u2 H locs w2 hW => ?_)
  have hW : Wd D A s.heap H locs (wS cI cZ zq za zg zh zk zF) := hW
  replace w2 : (r1 = nI 1 ∧ (inR (-9 : Int32) 40000) ∨ r1 = nI 0 ∧ ¬ (inR (-9 : Int32) 40000)) := w2
  rcases w2 with ⟨w2, h2⟩ | ⟨w2, h2⟩
  · subst w2
    exact absurd h2 (by decide)
  · subst w2
    refine n_if_eq X 36 dX2_comeTo_5 (by decide) (by decide) (fun c5 => ?_) (fun c5 => by exact absurd c5 (by decide))
    refine x_iconst (v := nI 0) X dX2_comeTo_36 (by decide) ?_
    exact x_zret X hW rfl (Or.inl (by decide)) () (rfl) rfl dX2_comeTo_37
set_option maxHeartbeats 4000000 in
set_option maxRecDepth 100000 in
theorem c_X2_goOnFrom (l : Launch) (D : va_G) (cI cZ cO : ClassId) (zq : Nat) (za : Nat → Nat) (zg : Nat → Nat) (zh : Nat → Int32) (zk : Int64) (zF : Nat → Nat → Nat) (sz : Nat) (w : Nat) (b : BB) (hvs : VS (zg 6 + 1) w) (hb : IB (zg 6 + 1) b) (hag : AGZ b (zF 0) (zF 1) (zg 2)) (hwn : zg 8 < 100000) (h1 : 1 ≤ zg 6) (hn : zg 6 ≤ 3) (hrn : zg 7 ≤ 3) (hby : zg 9 ≤ 1) (hgr : zg 10 < 4) (hgl : zg 11 ≤ 9) : Met l yX2_goOnFrom wsX2_goOnFrom ({ frames := 2, cells := 0, slots := 0, locals := 44 }) (va_Pc [.ref zq, .int (nI w)] (st_W D (ty3 cI cZ cO) (wS cI cZ zq za zg zh zk zF) sz)) (va_Qi (fun (rr : Int32) (u : (Nat → Nat) × (Nat → Nat) × (Nat)) => ((∃ (z0 : Nat) (z1 : Nat), rr = nI z0 ∧ (z1 < (zg 6 + 1) ∧ AGZ (bRow (nxW (zg 6 + 1) (zg 7) (zg 8)) w (z1 + 1) b) u.1 u.2.1 u.2.2 ∧ YesG (GZ (zg 9) (zg 10) (zg 11)) (bRow (nxW (zg 6 + 1) (zg 7) (zg 8)) w (z1 + 1) b) b.2.1 z0)) ∨ rr = (-9 : Int32) ∧ (AGZ (bRow (nxW (zg 6 + 1) (zg 7) (zg 8)) w ((zg 6 + 1)) b) u.1 u.2.1 u.2.2 ∧ NoG (GZ (zg 9) (zg 10) (zg 11)) (bRow (nxW (zg 6 + 1) (zg 7) (zg 8)) w ((zg 6 + 1)) b) b.2.1))) (fun u t => at_W D (ty3 cI cZ cO) (va_A (wS cI cZ zq za zg zh zk zF) sz) (wS cI cZ zq za (sF zg 2 u.2.2) zh zk (sF (sF zF 0 u.1) 1 u.2.1)) t) (va_A (wS cI cZ zq za zg zh zk zF) sz)) 0 0 (va_A (wS cI cZ zq za zg zh zk zF) sz) := by
  refine Met.goi (cc := cX2_goOnFrom) (maxL := 4) (ret := (some .int)) (by decide) rfl (Nat.le_of_ble_eq_true rfl) (fun p e s m below meth c A ls X hW hl => ?_)
  have hi2 : ∀ w ∈ wsX20, w ∈ wsX2_goOnFrom := fun w h => List.mem_cons_of_mem _ (List.mem_append_right _ h)
  have hl : lv_has ls 4 [(0, .ref zq), (1, .int (nI w))] := hl
  refine x_iconst (v := nI 0) X dX2_goOnFrom_0 (by decide) ?_
  refine x_istore_n X [(2, .int (nI 0)), (0, .ref zq), (1, .int (nI w))] dX2_goOnFrom_1 rfl hl (by decide) rfl (fun ls hl => ?_)
  refine W.loop (σ := (Nat) × (Nat → Nat) × (Nat → Nat) × (Nat)) (fun u H locs ls => (u.1 ≤ (zg 6 + 1) ∧ AGZ (bRow (nxW (zg 6 + 1) (zg 7) (zg 8)) w u.1 b) u.2.1 u.2.2.1 u.2.2.2 ∧ NoG (GZ (zg 9) (zg 10) (zg 11)) (bRow (nxW (zg 6 + 1) (zg 7) (zg 8)) w u.1 b) b.2.1) ∧ Wd D A s.heap H locs (wS cI cZ zq za (sF zg 2 u.2.2.2) zh zk (sF (sF zF 0 u.2.1) 1 u.2.2.1)) ∧ lv_has ls 4 [(2, .int (nI u.1)), (0, .ref zq), (1, .int (nI w))]) (fun u => (zg 6 + 1) - u.1) (fun u H locs ls hI ih => ?_) (0, (zF 0), (zF 1), (zg 2)) ⟨(show 0 ≤ (zg 6 + 1) ∧ AGZ (bRow (nxW (zg 6 + 1) (zg 7) (zg 8)) w 0 b) (zF 0) (zF 1) (zg 2) ∧ NoG (GZ (zg 9) (zg 10) (zg 11)) (bRow (nxW (zg 6 + 1) (zg 7) (zg 8)) w 0 b) b.2.1 from ⟨Nat.zero_le _, hag, NoG_z⟩), hW, hl⟩
  obtain ⟨a, EE, FF, tt⟩ := u
  obtain ⟨hv, hW, hl⟩ := hI
  have hv : a ≤ (zg 6 + 1) ∧ AGZ (bRow (nxW (zg 6 + 1) (zg 7) (zg 8)) w a b) EE FF tt ∧ NoG (GZ (zg 9) (zg 10) (zg 11)) (bRow (nxW (zg 6 + 1) (zg 7) (zg 8)) w a b) b.2.1 := hv
  have hW : Wd D A s.heap H locs (wS cI cZ zq za (sF zg 2 tt) zh zk (sF (sF zF 0 EE) 1 FF)) := hW
  have hl : lv_has ls 4 [(2, .int (nI a)), (0, .ref zq), (1, .int (nI w))] := hl
  have ih2 := ih
  refine x_iload_n X dX2_goOnFrom_2 rfl (lv_at hl 0 rfl) ?_
  refine x_aload_n X dX2_goOnFrom_3 rfl (lv_at hl 1 rfl) ?_
  refine x_get X hW (v := .int (nI (zg 6))) hi2 0 rfl rfl 6 (by decide) (List.mem_of_getElem? (i := 1) rfl) rfl rfl dX2_goOnFrom_4 ?_
  refine n_icmp_gt X 59 dX2_goOnFrom_7 (by decide) (by omega) (by omega) (fun c7 => ?_) (fun c7 => ?_)
  · refine x_bipush (v := (-9 : Int32)) X dX2_goOnFrom_59 (by decide) ?_
    exact x_iret X hW rfl (EE, FF, tt) (Or.inr ⟨rfl, by have q := hv.2; rw [show a = (zg 6 + 1) by omega] at q; exact q⟩) rfl dX2_goOnFrom_61
  · refine x_iload_n X dX2_goOnFrom_10 rfl (lv_at hl 0 rfl) ?_
    refine x_aload_n X dX2_goOnFrom_11 rfl (lv_at hl 1 rfl) ?_
    refine x_get X hW (v := .int (nI (zg 6))) hi2 0 rfl rfl 6 (by decide) (List.mem_of_getElem? (i := 1) rfl) rfl rfl dX2_goOnFrom_12 ?_
    refine n_icmp_ne X 26 dX2_goOnFrom_15 (by decide) (by omega) (by omega) (fun c15 => ?_) (fun c15 => ?_)
    · refine x_aload_n X dX2_goOnFrom_26 rfl (lv_at hl 1 rfl) ?_
      refine x_iload_n X dX2_goOnFrom_27 rfl (lv_at hl 2 rfl) ?_
      refine x_iload_n X dX2_goOnFrom_28 rfl (lv_at hl 0 rfl) ?_
      refine x_callVi0 X hW (As := [.int (nI w), .int (nI a)]) (rest := []) (c_X2_behindOpening l D cI cZ cO zq za (sF zg 2 tt) zh zk (sF (sF zF 0 EE) 1 FF) _ w a (show VS ((zg 6) + 1) w from (by first | assumption | omega)) (show a < (zg 6) from (by omega)) (show (zg 8) < 100000 from (by first | assumption | omega)) (show 1 ≤ (zg 6) from (by first | assumption | omega)) (show (zg 6) ≤ 3 from (by first | assumption | omega))) (cwV 2 X.2.2.2.2.2.1 gX2_goOnFrom_X2_behindOpening rfl rfl rfl (by decide +kernel) ⟨Nat.le_of_ble_eq_true rfl, Nat.le_of_ble_eq_true rfl⟩) 0 2 rfl rfl rfl rfl hl.1 rfl (Nat.le_of_ble_eq_true rfl) ⟨Nat.le_of_ble_eq_true rfl, Nat.le_of_ble_eq_true rfl⟩ dX2_goOnFrom_29 (fun r1 u2 H locs w29 hW => ?_)
      have hW : Wd D A s.heap H locs (wS cI cZ zq za (sF zg 2 tt) zh zk (sF (sF zF 0 EE) 1 FF)) := hW
      replace w29 : (r1 = nI (openW ((zg 6) + 1) w a) ∧ (mayW ((zg 8)) (dig w) a) ∨ r1 = (-9 : Int32) ∧ (¬ mayW ((zg 8)) (dig w) a)) := w29
      rcases w29 with ⟨w29, h29⟩ | ⟨w29, h29⟩
      · subst w29
        refine x_istore_n X [(3, .int (nI (openW ((zg 6) + 1) w a))), (2, .int (nI a)), (0, .ref zq), (1, .int (nI w))] dX2_goOnFrom_32 rfl hl (by decide) rfl (fun ls hl => ?_)
        have hnx : (nxW (zg 6 + 1) (zg 7) (zg 8)) w a = some (openW ((zg 6) + 1) w a) := nx_open (by omega) h29
        have hnv : VS (zg 6 + 1) (openW ((zg 6) + 1) w a) := nxW_VS (by omega) (by omega) hvs.1 hnx
        have hn40 := hnv.1
        have hib := IB_row (NX_W (rn := zg 7) (wn := zg 8) (by omega)) hvs.1 hb a (by omega)
        refine x_aload_n X dX2_goOnFrom_33 rfl (lv_at hl 2 rfl) ?_
        refine x_iload_n X dX2_goOnFrom_34 rfl (lv_at hl 0 rfl) ?_
        refine x_iload_n X dX2_goOnFrom_35 rfl (lv_at hl 3 rfl) ?_
        refine x_iload_n X dX2_goOnFrom_36 rfl (lv_at hl 1 rfl) ?_
        refine x_callVi0 X hW (As := [.int (nI (openW ((zg 6) + 1) w a)), .int (nI w), .int (nI a)]) (rest := []) (c_X2_comeTo l D cI cZ cO zq za (sF zg 2 tt) zh zk (sF (sF zF 0 EE) 1 FF) _ (openW ((zg 6) + 1) w a) w a (bRow (nxW (zg 6 + 1) (zg 7) (zg 8)) w a b) (show (openW ((zg 6) + 1) w a) < 40000 from hn40) (show w < 40000 from hvs.1) (show a < 4 from (by omega)) (show AGZ (bRow (nxW (zg 6 + 1) (zg 7) (zg 8)) w a b) (EE) (FF) (tt) from hv.2.1) (show (bRow (nxW (zg 6 + 1) (zg 7) (zg 8)) w a b).2.2 (openW ((zg 6) + 1) w a) = 0 → (bRow (nxW (zg 6 + 1) (zg 7) (zg 8)) w a b).2.1 < 40000 from (fun q => IB_room hib q hn40)) (show EE (openW ((zg 6) + 1) w a) ≤ 200000 from (by rw [hv.2.1.1 _ hn40]; exact hv.2.1.2.2.2 _))) (cwV 3 X.2.2.2.2.2.1 gX2_goOnFrom_X2_comeTo rfl rfl rfl (by decide +kernel) ⟨Nat.le_of_ble_eq_true rfl, Nat.le_of_ble_eq_true rfl⟩) 0 2 rfl rfl rfl rfl hl.1 rfl (Nat.le_of_ble_eq_true rfl) ⟨Nat.le_of_ble_eq_true rfl, Nat.le_of_ble_eq_true rfl⟩ dX2_goOnFrom_37 (fun r6 u7 H locs w37 hW => ?_)
        obtain ⟨o1_3, o2_4, o3_5⟩ := u7
        have hW : Wd D A s.heap H locs (wS cI cZ zq za (sF zg 2 o3_5) zh zk (sF (sF zF 0 o1_3) 1 o2_4)) := hW
        replace w37 : ((r6 = nI 1 ∧ ((bRow (nxW (zg 6 + 1) (zg 7) (zg 8)) w a b).2.2 (openW ((zg 6) + 1) w a) = 0) ∨ r6 = nI 0 ∧ ¬ ((bRow (nxW (zg 6 + 1) (zg 7) (zg 8)) w a b).2.2 (openW ((zg 6) + 1) w a) = 0))) ∧ (AGZ (bAdd (bRow (nxW (zg 6 + 1) (zg 7) (zg 8)) w a b) w a (openW ((zg 6) + 1) w a)) o1_3 o2_4 o3_5) := w37
        obtain ⟨w37, w37r⟩ := w37
        rcases w37 with ⟨w37, h37⟩ | ⟨w37, h37⟩
        · subst w37
          refine n_if_eq X 53 dX2_goOnFrom_40 (by decide) (by decide) (fun c40 => by exact absurd c40 (by decide)) (fun c40 => ?_)
          refine x_aload_n X dX2_goOnFrom_43 rfl (lv_at hl 2 rfl) ?_
          refine x_iload_n X dX2_goOnFrom_44 rfl (lv_at hl 0 rfl) ?_
          refine x_callVi0 X hW (As := [.int (nI (openW ((zg 6) + 1) w a))]) (rest := []) (c_X2_isGoal l D cI cZ cO zq za (sF zg 2 o3_5) zh zk (sF (sF zF 0 o1_3) 1 o2_4) _ (openW ((zg 6) + 1) w a) (show (openW ((zg 6) + 1) w a) < 100000 from (by omega)) (show (zg 9) ≤ 1 from (by first | assumption | omega)) (show (zg 10) < 4 from (by first | assumption | omega)) (show (zg 11) ≤ 9 from (by first | assumption | omega))) (cwV 1 X.2.2.2.2.2.1 gX2_goOnFrom_X2_isGoal rfl rfl rfl (by decide +kernel) ⟨Nat.le_of_ble_eq_true rfl, Nat.le_of_ble_eq_true rfl⟩) 0 2 rfl rfl rfl rfl hl.1 rfl (Nat.le_of_ble_eq_true rfl) ⟨Nat.le_of_ble_eq_true rfl, Nat.le_of_ble_eq_true rfl⟩ dX2_goOnFrom_45 (fun r8 u9 H locs w45 hW => ?_)
          have hW : Wd D A s.heap H locs (wS cI cZ zq za (sF zg 2 o3_5) zh zk (sF (sF zF 0 o1_3) 1 o2_4)) := hW
          replace w45 : (r8 = nI 1 ∧ (GZ ((zg 9)) ((zg 10)) ((zg 11)) (openW ((zg 6) + 1) w a)) ∨ r8 = nI 0 ∧ ¬ (GZ ((zg 9)) ((zg 10)) ((zg 11)) (openW ((zg 6) + 1) w a))) := w45
          rcases w45 with ⟨w45, h45⟩ | ⟨w45, h45⟩
          · subst w45
            refine n_if_eq X 53 dX2_goOnFrom_48 (by decide) (by decide) (fun c48 => by exact absurd c48 (by decide)) (fun c48 => ?_)
            refine x_iload_n X dX2_goOnFrom_51 rfl (lv_at hl 0 rfl) ?_
            exact x_iret X hW rfl (o1_3, o2_4, o3_5) (Or.inl ⟨_, a, rfl, by omega, by rw [row_some hnx]; exact w37r, by rw [row_some hnx]; exact YesG_new hv.2.2 (Ext_row _ _ _ _).1 h37 h45⟩) rfl dX2_goOnFrom_52
          · subst w45
            refine n_if_eq X 53 dX2_goOnFrom_48 (by decide) (by decide) (fun c48 => ?_) (fun c48 => by exact absurd c48 (by decide))
            refine x_iinc X [(2, .int (nI (a + 1))), (3, .int (nI (openW ((zg 6) + 1) w a))), (0, .ref zq), (1, .int (nI w))] (k := 1) dX2_goOnFrom_53 hl rfl (nI_inc1 a) (by decide) rfl (fun ls hl => ?_)
            refine x_goto X 2 dX2_goOnFrom_56 (by decide) ?_
            exact ih2 ((a + 1), o1_3, o2_4, o3_5) _ _ _ ⟨(show (a + 1) ≤ (zg 6 + 1) ∧ AGZ (bRow (nxW (zg 6 + 1) (zg 7) (zg 8)) w (a + 1) b) o1_3 o2_4 o3_5 ∧ NoG (GZ (zg 9) (zg 10) (zg 11)) (bRow (nxW (zg 6 + 1) (zg 7) (zg 8)) w (a + 1) b) b.2.1 from ⟨by omega, by rw [row_some hnx]; exact w37r, by rw [row_some hnx]; exact NoG_new hv.2.2 h37 h45⟩), hW, lv_sub hl [0, 2, 3] rfl⟩ (by dsimp only; omega)
        · subst w37
          refine n_if_eq X 53 dX2_goOnFrom_40 (by decide) (by decide) (fun c40 => ?_) (fun c40 => by exact absurd c40 (by decide))
          refine x_iinc X [(2, .int (nI (a + 1))), (3, .int (nI (openW ((zg 6) + 1) w a))), (0, .ref zq), (1, .int (nI w))] (k := 1) dX2_goOnFrom_53 hl rfl (nI_inc1 a) (by decide) rfl (fun ls hl => ?_)
          refine x_goto X 2 dX2_goOnFrom_56 (by decide) ?_
          exact ih2 ((a + 1), o1_3, o2_4, o3_5) _ _ _ ⟨(show (a + 1) ≤ (zg 6 + 1) ∧ AGZ (bRow (nxW (zg 6 + 1) (zg 7) (zg 8)) w (a + 1) b) o1_3 o2_4 o3_5 ∧ NoG (GZ (zg 9) (zg 10) (zg 11)) (bRow (nxW (zg 6 + 1) (zg 7) (zg 8)) w (a + 1) b) b.2.1 from ⟨by omega, by rw [row_some hnx]; exact w37r, by rw [row_some hnx]; exact NoG_old hv.2.2 h37⟩), hW, lv_sub hl [0, 2, 3] rfl⟩ (by dsimp only; omega)
      · subst w29
        refine x_istore_n X [(3, .int (-9 : Int32)), (2, .int (nI a)), (0, .ref zq), (1, .int (nI w))] dX2_goOnFrom_32 rfl hl (by decide) rfl (fun ls hl => ?_)
        have hnx : (nxW (zg 6 + 1) (zg 7) (zg 8)) w a = none := nx_none (by omega) h29
        refine x_aload_n X dX2_goOnFrom_33 rfl (lv_at hl 2 rfl) ?_
        refine x_iload_n X dX2_goOnFrom_34 rfl (lv_at hl 0 rfl) ?_
        refine x_iload_n X dX2_goOnFrom_35 rfl (lv_at hl 3 rfl) ?_
        refine x_iload_n X dX2_goOnFrom_36 rfl (lv_at hl 1 rfl) ?_
        refine x_callVi0 X hW (As := [.int (-9 : Int32), .int (nI w), .int (nI a)]) (rest := []) (c_X2_comeTo9 l D cI cZ cO zq za (sF zg 2 tt) zh zk (sF (sF zF 0 EE) 1 FF) _ w a) (cwV 3 X.2.2.2.2.2.1 gX2_goOnFrom_X2_comeTo rfl rfl rfl (by decide +kernel) ⟨Nat.le_of_ble_eq_true rfl, Nat.le_of_ble_eq_true rfl⟩) 0 2 rfl rfl rfl rfl hl.1 rfl (Nat.le_of_ble_eq_true rfl) ⟨Nat.le_of_ble_eq_true rfl, Nat.le_of_ble_eq_true rfl⟩ dX2_goOnFrom_37 (fun r10 u11 H locs w37 hW => ?_)
        have hW : Wd D A s.heap H locs (wS cI cZ zq za (sF zg 2 tt) zh zk (sF (sF zF 0 EE) 1 FF)) := hW
        replace w37 : r10 = nI (0) := w37
        subst w37
        refine n_if_eq X 53 dX2_goOnFrom_40 (by decide) (by decide) (fun c40 => ?_) (fun c40 => by exact absurd c40 (by decide))
        refine x_iinc X [(2, .int (nI (a + 1))), (3, .int (-9 : Int32)), (0, .ref zq), (1, .int (nI w))] (k := 1) dX2_goOnFrom_53 hl rfl (nI_inc1 a) (by decide) rfl (fun ls hl => ?_)
        refine x_goto X 2 dX2_goOnFrom_56 (by decide) ?_
        exact ih2 ((a + 1), EE, FF, tt) _ _ _ ⟨(show (a + 1) ≤ (zg 6 + 1) ∧ AGZ (bRow (nxW (zg 6 + 1) (zg 7) (zg 8)) w (a + 1) b) EE FF tt ∧ NoG (GZ (zg 9) (zg 10) (zg 11)) (bRow (nxW (zg 6 + 1) (zg 7) (zg 8)) w (a + 1) b) b.2.1 from ⟨by omega, by rw [row_none hnx]; exact hv.2.1, by rw [row_none hnx]; exact hv.2.2⟩), hW, lv_sub hl [0, 2, 3] rfl⟩ (by dsimp only; omega)
    · refine x_aload_n X dX2_goOnFrom_18 rfl (lv_at hl 1 rfl) ?_
      refine x_iload_n X dX2_goOnFrom_19 rfl (lv_at hl 2 rfl) ?_
      refine x_callVi0 X hW (As := [.int (nI w)]) (rest := []) (c_X2_behindNight l D cI cZ cO zq za (sF zg 2 tt) zh zk (sF (sF zF 0 EE) 1 FF) _ w (show VS ((zg 6) + 1) w from (by first | assumption | omega)) (show 1 ≤ (zg 6) from (by first | assumption | omega)) (show (zg 6) ≤ 3 from (by first | assumption | omega)) (show (zg 7) ≤ 3 from (by first | assumption | omega))) (cwV 1 X.2.2.2.2.2.1 gX2_goOnFrom_X2_behindNight rfl rfl rfl (by decide +kernel) ⟨Nat.le_of_ble_eq_true rfl, Nat.le_of_ble_eq_true rfl⟩) 0 2 rfl rfl rfl rfl hl.1 rfl (Nat.le_of_ble_eq_true rfl) ⟨Nat.le_of_ble_eq_true rfl, Nat.le_of_ble_eq_true rfl⟩ dX2_goOnFrom_20 (fun r12 u13 H locs w20 hW => ?_)
      have hW : Wd D A s.heap H locs (wS cI cZ zq za (sF zg 2 tt) zh zk (sF (sF zF 0 EE) 1 FF)) := hW
      replace w20 : r12 = nI (nightW ((zg 6) + 1) ((zg 7)) w) := w20
      subst w20
      refine x_goto X 32 dX2_goOnFrom_23 (by decide) ?_
      refine x_istore_n X [(3, .int (nI (nightW ((zg 6) + 1) ((zg 7)) w))), (2, .int (nI a)), (0, .ref zq), (1, .int (nI w))] dX2_goOnFrom_32 rfl hl (by decide) rfl (fun ls hl => ?_)
      have hnx : (nxW (zg 6 + 1) (zg 7) (zg 8)) w a = some (nightW ((zg 6) + 1) ((zg 7)) w) := nx_night (by omega)
      have hnv : VS (zg 6 + 1) (nightW ((zg 6) + 1) ((zg 7)) w) := nxW_VS (by omega) (by omega) hvs.1 hnx
      have hn40 := hnv.1
      have hib := IB_row (NX_W (rn := zg 7) (wn := zg 8) (by omega)) hvs.1 hb a (by omega)
      refine x_aload_n X dX2_goOnFrom_33 rfl (lv_at hl 2 rfl) ?_
      refine x_iload_n X dX2_goOnFrom_34 rfl (lv_at hl 0 rfl) ?_
      refine x_iload_n X dX2_goOnFrom_35 rfl (lv_at hl 3 rfl) ?_
      refine x_iload_n X dX2_goOnFrom_36 rfl (lv_at hl 1 rfl) ?_
      refine x_callVi0 X hW (As := [.int (nI (nightW ((zg 6) + 1) ((zg 7)) w)), .int (nI w), .int (nI a)]) (rest := []) (c_X2_comeTo l D cI cZ cO zq za (sF zg 2 tt) zh zk (sF (sF zF 0 EE) 1 FF) _ (nightW ((zg 6) + 1) ((zg 7)) w) w a (bRow (nxW (zg 6 + 1) (zg 7) (zg 8)) w a b) (show (nightW ((zg 6) + 1) ((zg 7)) w) < 40000 from hn40) (show w < 40000 from hvs.1) (show a < 4 from (by omega)) (show AGZ (bRow (nxW (zg 6 + 1) (zg 7) (zg 8)) w a b) (EE) (FF) (tt) from hv.2.1) (show (bRow (nxW (zg 6 + 1) (zg 7) (zg 8)) w a b).2.2 (nightW ((zg 6) + 1) ((zg 7)) w) = 0 → (bRow (nxW (zg 6 + 1) (zg 7) (zg 8)) w a b).2.1 < 40000 from (fun q => IB_room hib q hn40)) (show EE (nightW ((zg 6) + 1) ((zg 7)) w) ≤ 200000 from (by rw [hv.2.1.1 _ hn40]; exact hv.2.1.2.2.2 _))) (cwV 3 X.2.2.2.2.2.1 gX2_goOnFrom_X2_comeTo rfl rfl rfl (by decide +kernel) ⟨Nat.le_of_ble_eq_true rfl, Nat.le_of_ble_eq_true rfl⟩) 0 2 rfl rfl rfl rfl hl.1 rfl (Nat.le_of_ble_eq_true rfl) ⟨Nat.le_of_ble_eq_true rfl, Nat.le_of_ble_eq_true rfl⟩ dX2_goOnFrom_37 (fun r17 u18 H locs w37 hW => ?_)
      obtain ⟨o1_14, o2_15, o3_16⟩ := u18
      have hW : Wd D A s.heap H locs (wS cI cZ zq za (sF zg 2 o3_16) zh zk (sF (sF zF 0 o1_14) 1 o2_15)) := hW
      replace w37 : ((r17 = nI 1 ∧ ((bRow (nxW (zg 6 + 1) (zg 7) (zg 8)) w a b).2.2 (nightW ((zg 6) + 1) ((zg 7)) w) = 0) ∨ r17 = nI 0 ∧ ¬ ((bRow (nxW (zg 6 + 1) (zg 7) (zg 8)) w a b).2.2 (nightW ((zg 6) + 1) ((zg 7)) w) = 0))) ∧ (AGZ (bAdd (bRow (nxW (zg 6 + 1) (zg 7) (zg 8)) w a b) w a (nightW ((zg 6) + 1) ((zg 7)) w)) o1_14 o2_15 o3_16) := w37
      obtain ⟨w37, w37r⟩ := w37
      rcases w37 with ⟨w37, h37⟩ | ⟨w37, h37⟩
      · subst w37
        refine n_if_eq X 53 dX2_goOnFrom_40 (by decide) (by decide) (fun c40 => by exact absurd c40 (by decide)) (fun c40 => ?_)
        refine x_aload_n X dX2_goOnFrom_43 rfl (lv_at hl 2 rfl) ?_
        refine x_iload_n X dX2_goOnFrom_44 rfl (lv_at hl 0 rfl) ?_
        refine x_callVi0 X hW (As := [.int (nI (nightW ((zg 6) + 1) ((zg 7)) w))]) (rest := []) (c_X2_isGoal l D cI cZ cO zq za (sF zg 2 o3_16) zh zk (sF (sF zF 0 o1_14) 1 o2_15) _ (nightW ((zg 6) + 1) ((zg 7)) w) (show (nightW ((zg 6) + 1) ((zg 7)) w) < 100000 from (by omega)) (show (zg 9) ≤ 1 from (by first | assumption | omega)) (show (zg 10) < 4 from (by first | assumption | omega)) (show (zg 11) ≤ 9 from (by first | assumption | omega))) (cwV 1 X.2.2.2.2.2.1 gX2_goOnFrom_X2_isGoal rfl rfl rfl (by decide +kernel) ⟨Nat.le_of_ble_eq_true rfl, Nat.le_of_ble_eq_true rfl⟩) 0 2 rfl rfl rfl rfl hl.1 rfl (Nat.le_of_ble_eq_true rfl) ⟨Nat.le_of_ble_eq_true rfl, Nat.le_of_ble_eq_true rfl⟩ dX2_goOnFrom_45 (fun r19 u20 H locs w45 hW => ?_)
        have hW : Wd D A s.heap H locs (wS cI cZ zq za (sF zg 2 o3_16) zh zk (sF (sF zF 0 o1_14) 1 o2_15)) := hW
        replace w45 : (r19 = nI 1 ∧ (GZ ((zg 9)) ((zg 10)) ((zg 11)) (nightW ((zg 6) + 1) ((zg 7)) w)) ∨ r19 = nI 0 ∧ ¬ (GZ ((zg 9)) ((zg 10)) ((zg 11)) (nightW ((zg 6) + 1) ((zg 7)) w))) := w45
        rcases w45 with ⟨w45, h45⟩ | ⟨w45, h45⟩
        · subst w45
          refine n_if_eq X 53 dX2_goOnFrom_48 (by decide) (by decide) (fun c48 => by exact absurd c48 (by decide)) (fun c48 => ?_)
          refine x_iload_n X dX2_goOnFrom_51 rfl (lv_at hl 0 rfl) ?_
          exact x_iret X hW rfl (o1_14, o2_15, o3_16) (Or.inl ⟨_, a, rfl, by omega, by rw [row_some hnx]; exact w37r, by rw [row_some hnx]; exact YesG_new hv.2.2 (Ext_row _ _ _ _).1 h37 h45⟩) rfl dX2_goOnFrom_52
        · subst w45
          refine n_if_eq X 53 dX2_goOnFrom_48 (by decide) (by decide) (fun c48 => ?_) (fun c48 => by exact absurd c48 (by decide))
          refine x_iinc X [(2, .int (nI (a + 1))), (3, .int (nI (nightW ((zg 6) + 1) ((zg 7)) w))), (0, .ref zq), (1, .int (nI w))] (k := 1) dX2_goOnFrom_53 hl rfl (nI_inc1 a) (by decide) rfl (fun ls hl => ?_)
          refine x_goto X 2 dX2_goOnFrom_56 (by decide) ?_
          exact ih2 ((a + 1), o1_14, o2_15, o3_16) _ _ _ ⟨(show (a + 1) ≤ (zg 6 + 1) ∧ AGZ (bRow (nxW (zg 6 + 1) (zg 7) (zg 8)) w (a + 1) b) o1_14 o2_15 o3_16 ∧ NoG (GZ (zg 9) (zg 10) (zg 11)) (bRow (nxW (zg 6 + 1) (zg 7) (zg 8)) w (a + 1) b) b.2.1 from ⟨by omega, by rw [row_some hnx]; exact w37r, by rw [row_some hnx]; exact NoG_new hv.2.2 h37 h45⟩), hW, lv_sub hl [0, 2, 3] rfl⟩ (by dsimp only; omega)
      · subst w37
        refine n_if_eq X 53 dX2_goOnFrom_40 (by decide) (by decide) (fun c40 => ?_) (fun c40 => by exact absurd c40 (by decide))
        refine x_iinc X [(2, .int (nI (a + 1))), (3, .int (nI (nightW ((zg 6) + 1) ((zg 7)) w))), (0, .ref zq), (1, .int (nI w))] (k := 1) dX2_goOnFrom_53 hl rfl (nI_inc1 a) (by decide) rfl (fun ls hl => ?_)
        refine x_goto X 2 dX2_goOnFrom_56 (by decide) ?_
        exact ih2 ((a + 1), o1_14, o2_15, o3_16) _ _ _ ⟨(show (a + 1) ≤ (zg 6 + 1) ∧ AGZ (bRow (nxW (zg 6 + 1) (zg 7) (zg 8)) w (a + 1) b) o1_14 o2_15 o3_16 ∧ NoG (GZ (zg 9) (zg 10) (zg 11)) (bRow (nxW (zg 6 + 1) (zg 7) (zg 8)) w (a + 1) b) b.2.1 from ⟨by omega, by rw [row_some hnx]; exact w37r, by rw [row_some hnx]; exact NoG_old hv.2.2 h37⟩), hW, lv_sub hl [0, 2, 3] rfl⟩ (by dsimp only; omega)
set_option maxHeartbeats 4000000 in
set_option maxRecDepth 100000 in
theorem c_X2_forgetStates (l : Launch) (D : va_G) (cI cZ cO : ClassId) (zq : Nat) (za : Nat → Nat) (zg : Nat → Nat) (zh : Nat → Int32) (zk : Int64) (zF : Nat → Nat → Nat) (sz : Nat)   (hsi : SI (zF 0) (zF 1) (zg 2)) : Met l yX2_forgetStates wsX2_forgetStates ({ frames := 1, cells := 0, slots := 0, locals := 21 }) (va_Pc [.ref zq] (st_W D (ty3 cI cZ cO) (wS cI cZ zq za zg zh zk zF) sz)) (va_Qv (fun (u : (Nat → Nat)) => ∀ z0, z0 < 40000 → u z0 = 0) (fun u t => at_W D (ty3 cI cZ cO) (va_A (wS cI cZ zq za zg zh zk zF) sz) (wS cI cZ zq za (sF zg 2 0) zh zk (sF zF 0 u)) t) (va_A (wS cI cZ zq za zg zh zk zF) sz)) 0 0 (va_A (wS cI cZ zq za zg zh zk zF) sz) := by
  refine Met.gov (cc := cX2_forgetStates) (maxL := 3) (ret := none) (by decide) rfl (Nat.le_of_ble_eq_true rfl) (fun p e s m below meth c A ls X hW hl => ?_)
  have hi2 : ∀ w ∈ wsX20, w ∈ wsX2_forgetStates := fun w h => List.mem_cons_of_mem _ (List.mem_append_right _ h)
  have hl : lv_has ls 3 [(0, .ref zq)] := hl
  have ht40 := hsi.1
  refine x_iconst (v := nI 0) X dX2_forgetStates_0 (by decide) ?_
  refine x_istore_n X [(1, .int (nI 0)), (0, .ref zq)] dX2_forgetStates_1 rfl hl (by decide) rfl (fun ls hl => ?_)
  refine W.loop (σ := (Nat) × (Nat → Nat)) (fun u H locs ls => (u.1 ≤ zg 2 ∧ FG u.2 (zF 1) (zg 2) u.1) ∧ Wd D A s.heap H locs (wS cI cZ zq za zg zh zk (sF zF 0 u.2)) ∧ lv_has ls 3 [(1, .int (nI u.1)), (0, .ref zq)]) (fun u => zg 2 - u.1) (fun u H locs ls hI ih => ?_) (0, (zF 0)) ⟨(show 0 ≤ zg 2 ∧ FG (zF 0) (zF 1) (zg 2) 0 from ⟨Nat.zero_le _, fun w hw hz => by obtain ⟨i, hi, q⟩ := hsi.2.2 w hw hz; exact ⟨i, Nat.zero_le _, hi, q⟩⟩), hW, hl⟩
  obtain ⟨x, EE⟩ := u
  obtain ⟨hv, hW, hl⟩ := hI
  have hv : x ≤ zg 2 ∧ FG EE (zF 1) (zg 2) x := hv
  have hW : Wd D A s.heap H locs (wS cI cZ zq za zg zh zk (sF zF 0 EE)) := hW
  have hl : lv_has ls 3 [(1, .int (nI x)), (0, .ref zq)] := hl
  have ih2 := ih
  refine x_iload_n X dX2_forgetStates_2 rfl (lv_at hl 0 rfl) ?_
  refine x_aload_n X dX2_forgetStates_3 rfl (lv_at hl 1 rfl) ?_
  refine x_get X hW (v := .int (nI (zg 2))) hi2 0 rfl rfl 2 (by decide) (List.mem_of_getElem? (i := 1) rfl) rfl rfl dX2_forgetStates_4 ?_
  refine n_icmp_ge X 47 dX2_forgetStates_7 (by decide) (by omega) (by omega) (fun c7 => ?_) (fun c7 => ?_)
  · have ex : x = zg 2 := by omega
    refine x_aload_n X dX2_forgetStates_47 rfl (lv_at hl 1 rfl) ?_
    refine x_iconst (v := nI 0) X dX2_forgetStates_48 (by decide) ?_
    refine x_put X hW (v := .int (nI 0)) hi2 tyX2 tyX2_ok nmX2 0 rfl rfl 2 (by decide) (List.mem_of_getElem? (i := 1) rfl) rfl rfl rfl rfl (Nat.le_of_ble_eq_true rfl) dX2_forgetStates_49 (wS cI cZ zq za (sF zg 2 0) zh zk (sF zF 0 EE)) rfl (fun H locs hW => ?_)
    exact x_vret X hW rfl EE ((fun w hw => Classical.byContradiction fun q => by obtain ⟨i, h1, h2, _⟩ := hv.2 w hw q; omega)) rfl dX2_forgetStates_52
  · refine x_iload_n X dX2_forgetStates_10 rfl (lv_at hl 0 rfl) ?_
    refine x_aload_n X dX2_forgetStates_11 rfl (lv_at hl 1 rfl) ?_
    refine x_get X hW (v := .ref (za 1)) hi2 0 rfl rfl 1 (by decide) (List.mem_of_getElem? (i := 2) rfl) rfl rfl dX2_forgetStates_12 ?_
    refine n_alen X hW (f := fun i => nI (zF 1 i)) 2 0 rfl rfl dX2_forgetStates_15 ?_
    refine n_icmp_ge X 47 dX2_forgetStates_16 (by decide) (by omega) (by decide) (fun c16 => by omega) (fun c16 => ?_)
    refine x_aload_n X dX2_forgetStates_19 rfl (lv_at hl 1 rfl) ?_
    refine x_get X hW (v := .ref (za 1)) hi2 0 rfl rfl 1 (by decide) (List.mem_of_getElem? (i := 2) rfl) rfl rfl dX2_forgetStates_20 ?_
    refine x_iload_n X dX2_forgetStates_23 rfl (lv_at hl 0 rfl) ?_
    refine n_iald X hW (f := zF 1) 2 0 rfl rfl (by omega) (by decide) dX2_forgetStates_24 ?_
    have hFx := hsi.2.1 x (by omega)
    refine x_istore_n X [(2, .int (nI (zF 1 x))), (1, .int (nI x)), (0, .ref zq)] dX2_forgetStates_25 rfl hl (by decide) rfl (fun ls hl => ?_)
    refine x_aload_n X dX2_forgetStates_26 rfl (lv_at hl 2 rfl) ?_
    refine x_iload_n X dX2_forgetStates_27 rfl (lv_at hl 0 rfl) ?_
    refine x_callVi0 X hW (As := [.int (nI (zF 1 x))]) (rest := []) (c_X2_isState l D cI cZ cO zq za zg zh zk (sF zF 0 EE) _ (nI (zF 1 x))) (cwV 1 X.2.2.2.2.2.1 gX2_forgetStates_X2_isState rfl rfl rfl (by decide +kernel) ⟨Nat.le_of_ble_eq_true rfl, Nat.le_of_ble_eq_true rfl⟩) 0 2 rfl rfl rfl rfl hl.1 rfl (Nat.le_of_ble_eq_true rfl) ⟨Nat.le_of_ble_eq_true rfl, Nat.le_of_ble_eq_true rfl⟩ dX2_forgetStates_28 (fun r1 u2 H locs w28 hW => ?_)
    have hW : Wd D A s.heap H locs (wS cI cZ zq za zg zh zk (sF zF 0 EE)) := hW
    replace w28 : (r1 = nI 1 ∧ (inR (nI (zF 1 x)) 40000) ∨ r1 = nI 0 ∧ ¬ (inR (nI (zF 1 x)) 40000)) := w28
    rcases w28 with ⟨w28, h28⟩ | ⟨w28, h28⟩
    · subst w28
      refine n_if_eq X 41 dX2_forgetStates_31 (by decide) (by decide) (fun c31 => by exact absurd c31 (by decide)) (fun c31 => ?_)
      refine x_aload_n X dX2_forgetStates_34 rfl (lv_at hl 2 rfl) ?_
      refine x_get X hW (v := .ref (za 0)) hi2 0 rfl rfl 0 (by decide) (List.mem_of_getElem? (i := 3) rfl) rfl rfl dX2_forgetStates_35 ?_
      refine x_iload_n X dX2_forgetStates_38 rfl (lv_at hl 0 rfl) ?_
      refine x_iconst (v := nI 0) X dX2_forgetStates_39 (by decide) ?_
      refine n_iast X hW (f := EE) 1 0 rfl rfl (by omega) (by decide) dX2_forgetStates_40 (wS cI cZ zq za zg zh zk (sF zF 0 (sF EE (zF 1 x) 0))) rfl (fun H locs hW => ?_)
      refine x_iinc X [(1, .int (nI (x + 1))), (2, .int (nI (zF 1 x))), (0, .ref zq)] (k := 1) dX2_forgetStates_41 hl rfl (nI_inc1 x) (by decide) rfl (fun ls hl => ?_)
      refine x_goto X 2 dX2_forgetStates_44 (by decide) ?_
      exact ih2 ((x + 1), (sF EE (zF 1 x) 0)) _ _ _ ⟨(show (x + 1) ≤ zg 2 ∧ FG (sF EE (zF 1 x) 0) (zF 1) (zg 2) (x + 1) from ⟨by omega, FG_s hv.2⟩), hW, lv_sub hl [0, 2] rfl⟩ (by dsimp only; omega)
    · subst w28
      exact absurd ((inR_nI (by omega)).mpr (by omega)) h28
set_option maxHeartbeats 4000000 in
set_option maxRecDepth 100000 in
theorem c_X2_keepRowTo (l : Launch) (D : va_G) (cI cZ cO : ClassId) (zq : Nat) (za : Nat → Nat) (zg : Nat → Nat) (zh : Nat → Int32) (zk : Int64) (zF : Nat → Nat → Nat) (sz : Nat) (g : Nat) (P : Nat → Nat) (k : Nat) (hk : k ≤ 40) (hk1 : 1 ≤ k) (hlen : zh 4 = nI k) (hP : ∀ z0, z0 < k → anc P z0 g < 40000 ∧ P (anc P z0 g) ≠ 0 ∧ P (anc P z0 g) ≤ 200000 ∧ zF 0 (anc P z0 g) = P (anc P z0 g)) : Met l yX2_keepRowTo wsX2_keepRowTo ({ frames := 1, cells := 0, slots := 0, locals := 21 }) (va_Pc [.ref zq, .int (nI g)] (st_W D (ty3 cI cZ cO) (wS cI cZ zq za zg zh zk zF) sz)) (va_Qv (fun (u : (Nat → Nat)) => ∀ z0, z0 < k → u (k - 1 - z0) = (P (anc P z0 g) - 1) % 4) (fun u t => at_W D (ty3 cI cZ cO) (va_A (wS cI cZ zq za zg zh zk zF) sz) (wS cI cZ zq za zg zh zk (sF zF 3 u)) t) (va_A (wS cI cZ zq za zg zh zk zF) sz)) 0 0 (va_A (wS cI cZ zq za zg zh zk zF) sz) := by
  refine Met.gov (cc := cX2_keepRowTo) (maxL := 5) (ret := none) (by decide) rfl (Nat.le_of_ble_eq_true rfl) (fun p e s m below meth c A ls X hW hl => ?_)
  have hi2 : ∀ w ∈ wsX20, w ∈ wsX2_keepRowTo := fun w h => List.mem_cons_of_mem _ (List.mem_append_right _ h)
  have hl : lv_has ls 5 [(0, .ref zq), (1, .int (nI g))] := hl
  refine x_iload_n X dX2_keepRowTo_0 rfl (lv_at hl 1 rfl) ?_
  refine x_istore_n X [(2, .int (nI g)), (0, .ref zq), (1, .int (nI g))] dX2_keepRowTo_1 rfl hl (by decide) rfl (fun ls hl => ?_)
  refine x_aload_n X dX2_keepRowTo_2 rfl (lv_at hl 1 rfl) ?_
  refine x_get X hW (v := .int (zh 4)) hi2 0 rfl rfl 4 (by decide) (List.mem_of_getElem? (i := 1) rfl) rfl rfl dX2_keepRowTo_3 ?_
  refine i_as0 (b := nI k) hlen ?_
  refine x_aload_n X dX2_keepRowTo_6 rfl (lv_at hl 1 rfl) ?_
  refine x_get X hW (v := .ref (za 3)) hi2 0 rfl rfl 3 (by decide) (List.mem_of_getElem? (i := 2) rfl) rfl rfl dX2_keepRowTo_7 ?_
  refine n_alen X hW (f := fun i => nI (zF 3 i)) 3 0 rfl rfl dX2_keepRowTo_10 ?_
  refine x_mmin (v := nI (min k 40)) X hl.1 (List.mem_of_getElem? (i := 3) rfl) (List.mem_of_getElem? (i := 4) rfl) (List.mem_of_getElem? (i := 5) rfl) (List.mem_of_getElem? (i := 6) rfl) ⟨Nat.le_of_ble_eq_true rfl, Nat.le_of_ble_eq_true rfl⟩ ⟨Nat.le_of_ble_eq_true rfl, Nat.le_of_ble_eq_true rfl⟩ (ie_mn (by omega) (by decide)) dX2_keepRowTo_11 ?_
  refine n_as0 (b := k) (by omega) ?_
  refine x_iconst (v := nI 1) X dX2_keepRowTo_14 (by decide) ?_
  refine x_isub (v := (nI k) - (nI 1)) X dX2_keepRowTo_15 rfl ?_
  refine x_istore_n X [(3, .int ((nI k) - (nI 1))), (2, .int (nI g)), (0, .ref zq), (1, .int (nI g))] dX2_keepRowTo_16 rfl hl (by decide) rfl (fun ls hl => ?_)
  refine W.loop (σ := (Nat) × (Nat → Nat)) (fun u H locs ls => (u.1 ≤ k ∧ ∀ z0, z0 < u.1 → u.2 (k - 1 - z0) = (P (anc P z0 g) - 1) % 4) ∧ Wd D A s.heap H locs (wS cI cZ zq za zg zh zk (sF zF 3 u.2)) ∧ lv_has ls 5 [(3, .int ((nI (k - u.1)) - (nI 1))), (2, .int (nI (anc P u.1 g))), (0, .ref zq)]) (fun u => k - u.1) (fun u H locs ls hI ih => ?_) (0, (zF 3)) ⟨(show 0 ≤ k ∧ ∀ z0, z0 < 0 → (zF 3) (k - 1 - z0) = (P (anc P z0 g) - 1) % 4 from ⟨Nat.zero_le _, fun z0 h => absurd h (Nat.not_lt_zero z0)⟩), hW, (lv_sub hl [0, 1, 2] rfl)⟩
  obtain ⟨i, R⟩ := u
  obtain ⟨hv, hW, hl⟩ := hI
  have hv : i ≤ k ∧ ∀ z0, z0 < i → R (k - 1 - z0) = (P (anc P z0 g) - 1) % 4 := hv
  have hW : Wd D A s.heap H locs (wS cI cZ zq za zg zh zk (sF zF 3 R)) := hW
  have hl : lv_has ls 5 [(3, .int ((nI (k - i)) - (nI 1))), (2, .int (nI (anc P i g))), (0, .ref zq)] := hl
  have ih17 := ih
  refine x_iload_n X dX2_keepRowTo_17 rfl (lv_at hl 0 rfl) ?_
  rcases Nat.lt_or_ge i k with hik | hik
  · have hpk : nI (k - i) - nI 1 = nI (k - i - 1) := pk_sub (by omega)
    have hl : lv_has ls 5 [(3, .int (nI (k - i - 1))), (2, .int (nI (anc P i g))), (0, .ref zq)] := by rw [← hpk]; exact hl
    refine i_as0 (b := nI (k - i - 1)) hpk ?_
    obtain ⟨p1, p2, p3, p4⟩ := hP i hik
    refine n_if_lt X 60 dX2_keepRowTo_18 (by decide) (by omega) ?_
    refine x_aload_n X dX2_keepRowTo_21 rfl (lv_at hl 2 rfl) ?_
    refine x_iload_n X dX2_keepRowTo_22 rfl (lv_at hl 1 rfl) ?_
    refine x_callVi0 X hW (As := [.int (nI (anc P i g))]) (rest := []) (c_X2_isState l D cI cZ cO zq za zg zh zk (sF zF 3 R) _ (nI (anc P i g))) (cwV 1 X.2.2.2.2.2.1 gX2_keepRowTo_X2_isState rfl rfl rfl (by decide +kernel) ⟨Nat.le_of_ble_eq_true rfl, Nat.le_of_ble_eq_true rfl⟩) 0 2 rfl rfl rfl rfl hl.1 rfl (Nat.le_of_ble_eq_true rfl) ⟨Nat.le_of_ble_eq_true rfl, Nat.le_of_ble_eq_true rfl⟩ dX2_keepRowTo_23 (fun r1 u2 H locs w23 hW => ?_)
    have hW : Wd D A s.heap H locs (wS cI cZ zq za zg zh zk (sF zF 3 R)) := hW
    replace w23 : (r1 = nI 1 ∧ (inR (nI (anc P i g)) 40000) ∨ r1 = nI 0 ∧ ¬ (inR (nI (anc P i g)) 40000)) := w23
    rcases w23 with ⟨w23, h23⟩ | ⟨w23, h23⟩
    · subst w23
      refine n_if_eq X 60 dX2_keepRowTo_26 (by decide) (by decide) (fun c26 => by exact absurd c26 (by decide)) (fun c26 => ?_)
      refine x_aload_n X dX2_keepRowTo_29 rfl (lv_at hl 2 rfl) ?_
      refine x_get X hW (v := .ref (za 0)) hi2 0 rfl rfl 0 (by decide) (List.mem_of_getElem? (i := 7) rfl) rfl rfl dX2_keepRowTo_30 ?_
      refine x_iload_n X dX2_keepRowTo_33 rfl (lv_at hl 1 rfl) ?_
      refine n_iald X hW (f := zF 0) 1 0 rfl rfl (by omega) (by decide) dX2_keepRowTo_34 ?_
      refine n_as0 (b := P (anc P i g)) p4 ?_
      refine x_iconst (v := nI 1) X dX2_keepRowTo_35 (by decide) ?_
      refine n_isub X dX2_keepRowTo_36 (by omega) ?_
      refine x_istore X [(4, .int (nI ((P (anc P i g)) - 1))), (3, .int (nI (k - i - 1))), (2, .int (nI (anc P i g))), (0, .ref zq)] dX2_keepRowTo_37 hl (by decide) rfl (fun ls hl => ?_)
      refine x_aload_n X dX2_keepRowTo_39 rfl (lv_at hl 3 rfl) ?_
      refine x_get X hW (v := .ref (za 3)) hi2 0 rfl rfl 3 (by decide) (List.mem_of_getElem? (i := 2) rfl) rfl rfl dX2_keepRowTo_40 ?_
      refine x_iload_n X dX2_keepRowTo_43 rfl (lv_at hl 1 rfl) ?_
      refine x_iload X dX2_keepRowTo_44 (lv_at hl 0 rfl) ?_
      refine x_iconst (v := nI 4) X dX2_keepRowTo_46 (by decide) ?_
      refine n_irem X dX2_keepRowTo_47 (by omega) (by omega) (by decide) ?_
      refine n_iast X hW (f := R) 3 0 rfl rfl (by omega) (by decide) dX2_keepRowTo_48 (wS cI cZ zq za zg zh zk (sF zF 3 (sF R (k - i - 1) (((P (anc P i g)) - 1) % 4)))) rfl (fun H locs hW => ?_)
      refine x_iload X dX2_keepRowTo_49 (lv_at hl 0 rfl) ?_
      refine x_iconst (v := nI 4) X dX2_keepRowTo_51 (by decide) ?_
      refine n_idiv X dX2_keepRowTo_52 (by omega) (by omega) (by decide) ?_
      refine n_as0 (b := anc P (i + 1) g) rfl ?_
      refine x_istore_n X [(2, .int (nI (anc P (i + 1) g))), (4, .int (nI ((P (anc P i g)) - 1))), (3, .int (nI (k - i - 1))), (0, .ref zq)] dX2_keepRowTo_53 rfl hl (by decide) rfl (fun ls hl => ?_)
      refine x_iinc X [(3, .int (nI (k - i - 1) + Int32.ofInt (-1))), (2, .int (nI (anc P (i + 1) g))), (4, .int (nI ((P (anc P i g)) - 1))), (0, .ref zq)] (k := 2) dX2_keepRowTo_54 hl rfl rfl (by decide) rfl (fun ls hl => ?_)
      have hl : lv_has ls 5 [(3, .int ((nI (k - i - 1)) - (nI 1))), (2, .int (nI (anc P (i + 1) g))), (4, .int (nI ((P (anc P i g)) - 1))), (0, .ref zq)] := by rw [← dec_sub]; exact hl
      refine x_goto X 17 dX2_keepRowTo_57 (by decide) ?_
      exact ih17 ((i + 1), (sF R (k - i - 1) (((P (anc P i g)) - 1) % 4))) _ _ _ ⟨(show (i + 1) ≤ k ∧ ∀ z0, z0 < (i + 1) → (sF R (k - i - 1) (((P (anc P i g)) - 1) % 4)) (k - 1 - z0) = (P (anc P z0 g) - 1) % 4 from ⟨by omega, keep_s hv.2 hik rfl⟩), hW, lv_sub hl [0, 1, 3] rfl⟩ (by dsimp only; omega)
    · subst w23
      exact absurd ((inR_nI (by omega)).mpr (by omega)) h23
  · have ei : i = k := by omega
    have hpk : nI (k - i) - nI 1 = (-1) := by rw [ei, Nat.sub_self]; decide
    have hl : lv_has ls 5 [(3, .int (-1 : Int32)), (2, .int (nI (anc P i g))), (0, .ref zq)] := by rw [← hpk]; exact hl
    refine i_as0 (b := (-1 : Int32)) hpk ?_
    refine x_if_lt X 60 dX2_keepRowTo_18 (by decide) (fun c18 => ?_) (fun c18 => by first | exact absurd c18 (by decide) | exact absurd (by decide) c18)
    exact x_vret X hW rfl R ((by intro z0 hz; exact hv.2 z0 (by omega))) rfl dX2_keepRowTo_60
set_option maxHeartbeats 4000000 in
set_option maxRecDepth 100000 in
theorem c_X2_find (l : Launch) (D : va_G) (cI cZ cO : ClassId) (zq : Nat) (za : Nat → Nat) (zg : Nat → Nat) (zh : Nat → Int32) (zk : Int64) (zF : Nat → Nat → Nat) (sz : Nat) (s0 : Nat)  (hs0 : VS (zg 6 + 1) s0) (hsi : SI (zF 0) (zF 1) (zg 2)) (hwn : zg 8 < 100000) (h1 : 1 ≤ zg 6) (hn : zg 6 ≤ 3) (hrn : zg 7 ≤ 3) (hby : zg 9 ≤ 1) (hgr : zg 10 < 4) (hgl : zg 11 ≤ 9) : Met l yX2_find wsX2_find ({ frames := 3, cells := 0, slots := 0, locals := 67 }) (va_Pc [.ref zq, .int (nI s0)] (st_W D (ty3 cI cZ cO) (wS cI cZ zq za zg zh zk zF) sz)) (va_Qv (fun (u : (Nat → Nat) × (Nat → Nat) × (Nat) × (Nat → Nat) × (Int32)) => SI u.1 u.2.1 u.2.2.1 ∧ RowSt (nxW (zg 6 + 1) (zg 7) (zg 8)) (zg 6 + 1) s0 (GZ (zg 9) (zg 10) (zg 11)) u.2.2.2.2 u.2.2.2.1) (fun u t => at_W D (ty3 cI cZ cO) (va_A (wS cI cZ zq za zg zh zk zF) sz) (wS cI cZ zq za (sF zg 2 u.2.2.1) (sF zh 4 u.2.2.2.2) zk (sF (sF (sF zF 0 u.1) 1 u.2.1) 3 u.2.2.2.1)) t) (va_A (wS cI cZ zq za zg zh zk zF) sz)) 0 0 (va_A (wS cI cZ zq za zg zh zk zF) sz) := by
  refine Met.gov (cc := cX2_find) (maxL := 6) (ret := none) (by decide) rfl (Nat.le_of_ble_eq_true rfl) (fun p e s m below meth c A ls X hW hl => ?_)
  have hi2 : ∀ w ∈ wsX20, w ∈ wsX2_find := fun w h => List.mem_cons_of_mem _ (List.mem_append_right _ h)
  have hl : lv_has ls 6 [(0, .ref zq), (1, .int (nI s0))] := hl
  refine x_aload_n X dX2_find_0 rfl (lv_at hl 0 rfl) ?_
  refine x_callVv0 X hW (As := []) (rest := []) (c_X2_forgetStates l D cI cZ cO zq za zg zh zk zF _ (show SI ((zF 0)) ((zF 1)) ((zg 2)) from (by first | assumption | omega))) (cwV 0 X.2.2.2.2.2.1 gX2_find_X2_forgetStates rfl rfl rfl (by decide +kernel) ⟨Nat.le_of_ble_eq_true rfl, Nat.le_of_ble_eq_true rfl⟩) 0 2 rfl rfl rfl rfl hl.1 rfl (Nat.le_of_ble_eq_true rfl) ⟨Nat.le_of_ble_eq_true rfl, Nat.le_of_ble_eq_true rfl⟩ dX2_find_1 (fun u3 H locs w1 hW => ?_)
  obtain ⟨o1_1, o1_1e⟩ : ∃ z, z = u3 := ⟨_, rfl⟩
  subst o1_1e
  have hW : Wd D A s.heap H locs (wS cI cZ zq za (sF zg 2 0) zh zk (sF zF 0 o1_1)) := hW
  replace w1 : ∀ z0, z0 < 40000 → o1_1 z0 = 0 := w1
  refine x_aload_n X dX2_find_4 rfl (lv_at hl 0 rfl) ?_
  refine x_bipush (v := (-9 : Int32)) X dX2_find_5 (by decide) ?_
  refine x_put X hW (v := .int (-9 : Int32)) hi2 tyX2 tyX2_ok nmX2 0 rfl rfl 4 (by decide) (List.mem_of_getElem? (i := 1) rfl) rfl rfl rfl rfl (Nat.le_of_ble_eq_true rfl) dX2_find_7 (wS cI cZ zq za (sF zg 2 0) (sF zh 4 (-9 : Int32)) zk (sF zF 0 o1_1)) rfl (fun H locs hW => ?_)
  refine x_aload_n X dX2_find_10 rfl (lv_at hl 0 rfl) ?_
  refine x_iload_n X dX2_find_11 rfl (lv_at hl 1 rfl) ?_
  have hnx : NX (zg 6 + 1) (zg 6 + 1) (nxW (zg 6 + 1) (zg 7) (zg 8)) := NX_W (by omega)
  have hag0 := AGZ_0 (F := zF 1) w1
  refine x_callVi0 X hW (As := [.int (nI s0)]) (rest := []) (c_X2_isGoal l D cI cZ cO zq za (sF zg 2 0) (sF zh 4 (-9 : Int32)) zk (sF zF 0 o1_1) _ s0 (show s0 < 100000 from (by have := hs0.1; omega)) (show (zg 9) ≤ 1 from (by first | assumption | omega)) (show (zg 10) < 4 from (by first | assumption | omega)) (show (zg 11) ≤ 9 from (by first | assumption | omega))) (cwV 1 X.2.2.2.2.2.1 gX2_find_X2_isGoal rfl rfl rfl (by decide +kernel) ⟨Nat.le_of_ble_eq_true rfl, Nat.le_of_ble_eq_true rfl⟩) 0 2 rfl rfl rfl rfl hl.1 rfl (Nat.le_of_ble_eq_true rfl) ⟨Nat.le_of_ble_eq_true rfl, Nat.le_of_ble_eq_true rfl⟩ dX2_find_12 (fun r4 u5 H locs w12 hW => ?_)
  have hW : Wd D A s.heap H locs (wS cI cZ zq za (sF zg 2 0) (sF zh 4 (-9 : Int32)) zk (sF zF 0 o1_1)) := hW
  replace w12 : (r4 = nI 1 ∧ (GZ ((zg 9)) ((zg 10)) ((zg 11)) s0) ∨ r4 = nI 0 ∧ ¬ (GZ ((zg 9)) ((zg 10)) ((zg 11)) s0)) := w12
  rcases w12 with ⟨w12, h12⟩ | ⟨w12, h12⟩
  · subst w12
    refine n_if_eq X 24 dX2_find_15 (by decide) (by decide) (fun c15 => by exact absurd c15 (by decide)) (fun c15 => ?_)
    refine x_aload_n X dX2_find_18 rfl (lv_at hl 0 rfl) ?_
    refine x_iconst (v := nI 0) X dX2_find_19 (by decide) ?_
    refine x_put X hW (v := .int (nI 0)) hi2 tyX2 tyX2_ok nmX2 0 rfl rfl 4 (by decide) (List.mem_of_getElem? (i := 1) rfl) rfl rfl rfl rfl (Nat.le_of_ble_eq_true rfl) dX2_find_20 (wS cI cZ zq za (sF zg 2 0) (sF zh 4 (nI 0)) zk (sF zF 0 o1_1)) rfl (fun H locs hW => ?_)
    exact x_vret X hW rfl (o1_1, zF 1, 0, zF 3, nI 0) (⟨SI_of hag0 (IB_00 (n := (zg 6 + 1))), Or.inl ⟨0, 0, Fnd_0 hnx hs0 h12, rfl, fun i hi => absurd hi (Nat.not_lt_zero i)⟩⟩) rfl dX2_find_23
  · subst w12
    have hng := NoG_0 (K := (zg 6 + 1)) (nx := (nxW (zg 6 + 1) (zg 7) (zg 8))) h12
    refine n_if_eq X 24 dX2_find_15 (by decide) (by decide) (fun c15 => ?_) (fun c15 => by exact absurd c15 (by decide))
    refine x_aload_n X dX2_find_24 rfl (lv_at hl 0 rfl) ?_
    refine x_iload_n X dX2_find_25 rfl (lv_at hl 1 rfl) ?_
    refine x_iload_n X dX2_find_26 rfl (lv_at hl 1 rfl) ?_
    refine x_iconst (v := nI 0) X dX2_find_27 (by decide) ?_
    refine x_callVi0 X hW (As := [.int (nI s0), .int (nI s0), .int (nI 0)]) (rest := []) (c_X2_comeTo l D cI cZ cO zq za (sF zg 2 0) (sF zh 4 (-9 : Int32)) zk (sF zF 0 o1_1) _ s0 s0 0 (fun _ => 0, 0, fun _ => 0) (show s0 < 40000 from hs0.1) (show s0 < 40000 from hs0.1) (show 0 < 4 from (by decide)) (show AGZ (fun _ => 0, 0, fun _ => 0) (o1_1) ((zF 1)) (0) from hag0) (show (fun _ => 0, 0, fun _ => 0).2.2 s0 = 0 → (fun _ => 0, 0, fun _ => 0).2.1 < 40000 from (fun _ => (by decide : (0 : Nat) < 40000))) (show o1_1 s0 ≤ 200000 from (by rw [w1 _ hs0.1]; decide))) (cwV 3 X.2.2.2.2.2.1 gX2_find_X2_comeTo rfl rfl rfl (by decide +kernel) ⟨Nat.le_of_ble_eq_true rfl, Nat.le_of_ble_eq_true rfl⟩) 0 2 rfl rfl rfl rfl hl.1 rfl (Nat.le_of_ble_eq_true rfl) ⟨Nat.le_of_ble_eq_true rfl, Nat.le_of_ble_eq_true rfl⟩ dX2_find_28 (fun r9 u10 H locs w28 hW => ?_)
    obtain ⟨o1_6, o2_7, o3_8⟩ := u10
    have hW : Wd D A s.heap H locs (wS cI cZ zq za (sF zg 2 o3_8) (sF zh 4 (-9 : Int32)) zk (sF (sF zF 0 o1_6) 1 o2_7)) := hW
    replace w28 : ((r9 = nI 1 ∧ ((fun _ => 0, 0, fun _ => 0).2.2 s0 = 0) ∨ r9 = nI 0 ∧ ¬ ((fun _ => 0, 0, fun _ => 0).2.2 s0 = 0))) ∧ (AGZ (bAdd (fun _ => 0, 0, fun _ => 0) s0 0 s0) o1_6 o2_7 o3_8) := w28
    obtain ⟨w28, w28r⟩ := w28
    rcases w28 with ⟨w28, h28⟩ | ⟨w28, h28⟩
    · subst w28
      refine x_pop X dX2_find_31 rfl ?_
      refine x_iconst (v := nI 0) X dX2_find_32 (by decide) ?_
      refine x_istore_n X [(2, .int (nI 0)), (0, .ref zq), (1, .int (nI s0))] dX2_find_33 rfl hl (by decide) rfl (fun ls hl => ?_)
      refine x_iconst (v := nI 1) X dX2_find_34 (by decide) ?_
      refine x_istore_n X [(3, .int (nI 1)), (2, .int (nI 0)), (0, .ref zq), (1, .int (nI s0))] dX2_find_35 rfl hl (by decide) rfl (fun ls hl => ?_)
      refine W.loop (σ := (Nat) × (Nat) × (Nat → Nat) × (Nat → Nat) × (Nat)) (fun u H locs ls => (1 ≤ u.1 ∧ u.1 ≤ 41 ∧ u.2.1 = bD (nxW (zg 6 + 1) (zg 7) (zg 8)) (zg 6 + 1) s0 (u.1 - 1) ∧ AGZ (bQ (nxW (zg 6 + 1) (zg 7) (zg 8)) (zg 6 + 1) s0 (u.2.1)) u.2.2.1 u.2.2.2.1 u.2.2.2.2 ∧ NoG (GZ (zg 9) (zg 10) (zg 11)) (bQ (nxW (zg 6 + 1) (zg 7) (zg 8)) (zg 6 + 1) s0 (u.2.1)) 0) ∧ Wd D A s.heap H locs (wS cI cZ zq za (sF zg 2 u.2.2.2.2) (sF zh 4 (-9 : Int32)) zk (sF (sF zF 0 u.2.2.1) 1 u.2.2.2.1)) ∧ lv_has ls 6 [(3, .int (nI u.1)), (2, .int (nI u.2.1)), (0, .ref zq), (1, .int (nI s0))]) (fun u => 41 - u.1) (fun u H locs ls hI ih => ?_) (1, 0, o1_6, o2_7, o3_8) ⟨(show 1 ≤ 1 ∧ 1 ≤ 41 ∧ 0 = bD (nxW (zg 6 + 1) (zg 7) (zg 8)) (zg 6 + 1) s0 (1 - 1) ∧ AGZ (bQ (nxW (zg 6 + 1) (zg 7) (zg 8)) (zg 6 + 1) s0 (0)) o1_6 o2_7 o3_8 ∧ NoG (GZ (zg 9) (zg 10) (zg 11)) (bQ (nxW (zg 6 + 1) (zg 7) (zg 8)) (zg 6 + 1) s0 (0)) 0 from ⟨by omega, by omega, rfl, w28r, hng⟩), hW, hl⟩
      obtain ⟨dep, hd, EE, FF, tt⟩ := u
      obtain ⟨hv, hW, hl⟩ := hI
      have hv : 1 ≤ dep ∧ dep ≤ 41 ∧ hd = bD (nxW (zg 6 + 1) (zg 7) (zg 8)) (zg 6 + 1) s0 (dep - 1) ∧ AGZ (bQ (nxW (zg 6 + 1) (zg 7) (zg 8)) (zg 6 + 1) s0 (hd)) EE FF tt ∧ NoG (GZ (zg 9) (zg 10) (zg 11)) (bQ (nxW (zg 6 + 1) (zg 7) (zg 8)) (zg 6 + 1) s0 (hd)) 0 := hv
      have hW : Wd D A s.heap H locs (wS cI cZ zq za (sF zg 2 tt) (sF zh 4 (-9 : Int32)) zk (sF (sF zF 0 EE) 1 FF)) := hW
      have hl : lv_has ls 6 [(3, .int (nI dep)), (2, .int (nI hd)), (0, .ref zq), (1, .int (nI s0))] := hl
      have ih36 := ih
      refine x_iload_n X dX2_find_36 rfl (lv_at hl 0 rfl) ?_
      refine x_bipush (v := nI 40) X dX2_find_37 (by decide) ?_
      obtain ⟨v1, v2, v3, v4, v5⟩ := hv
      have hd40 : hd ≤ 40000 := by rw [v3]; exact bD_lt hnx hs0 _
      have hib0 := IB_Q hnx hs0 hd
      have tt40 : tt ≤ 40000 := by rw [v4.2.2.1]; exact IB_le hib0
      refine n_icmp_gt X 114 dX2_find_39 (by decide) (by omega) (by decide) (fun c39 => ?_) (fun c39 => ?_)
      · exact x_vret X hW rfl (EE, FF, tt, zF 3, (-9 : Int32)) (⟨SI_of v4 hib0, Or.inr ⟨Non_end hnx hs0 hd40 v5 (by first | (rw [v3, show dep - 1 = 40 by omega]; exact Nat.le_refl _) | exact tQ_max (by rw [← v4.2.2.1]; omega) _), rfl⟩⟩) rfl dX2_find_114
      · refine x_iload_n X dX2_find_42 rfl (lv_at hl 1 rfl) ?_
        refine x_aload_n X dX2_find_43 rfl (lv_at hl 2 rfl) ?_
        refine x_get X hW (v := .int (nI tt)) hi2 0 rfl rfl 2 (by decide) (List.mem_of_getElem? (i := 2) rfl) rfl rfl dX2_find_44 ?_
        refine n_icmp_ge X 114 dX2_find_47 (by decide) (by omega) (by omega) (fun c47 => ?_) (fun c47 => ?_)
        · exact x_vret X hW rfl (EE, FF, tt, zF 3, (-9 : Int32)) (⟨SI_of v4 hib0, Or.inr ⟨Non_end hnx hs0 hd40 v5 (by first | (rw [v3, show dep - 1 = 40 by omega]; exact Nat.le_refl _) | exact tQ_max (by rw [← v4.2.2.1]; omega) _), rfl⟩⟩) rfl dX2_find_114
        · refine x_aload_n X dX2_find_50 rfl (lv_at hl 2 rfl) ?_
          refine x_get X hW (v := .int (nI tt)) hi2 0 rfl rfl 2 (by decide) (List.mem_of_getElem? (i := 2) rfl) rfl rfl dX2_find_51 ?_
          have htt : tt = bD (nxW (zg 6 + 1) (zg 7) (zg 8)) (zg 6 + 1) s0 (dep) := by rw [v4.2.2.1, v3, show dep = dep - 1 + 1 by omega]; rfl
          have ht40 := bD_lt hnx hs0 dep
          refine x_istore X [(4, .int (nI tt)), (3, .int (nI dep)), (2, .int (nI hd)), (0, .ref zq), (1, .int (nI s0))] dX2_find_54 hl (by decide) rfl (fun ls hl => ?_)
          refine W.loop (σ := (Nat) × (Nat → Nat) × (Nat → Nat) × (Nat)) (fun u H locs ls => (bD (nxW (zg 6 + 1) (zg 7) (zg 8)) (zg 6 + 1) s0 (dep - 1) ≤ u.1 ∧ u.1 ≤ tt ∧ AGZ (bQ (nxW (zg 6 + 1) (zg 7) (zg 8)) (zg 6 + 1) s0 (u.1)) u.2.1 u.2.2.1 u.2.2.2 ∧ NoG (GZ (zg 9) (zg 10) (zg 11)) (bQ (nxW (zg 6 + 1) (zg 7) (zg 8)) (zg 6 + 1) s0 (u.1)) 0) ∧ Wd D A s.heap H locs (wS cI cZ zq za (sF zg 2 u.2.2.2) (sF zh 4 (-9 : Int32)) zk (sF (sF zF 0 u.2.1) 1 u.2.2.1)) ∧ lv_has ls 6 [(4, .int (nI tt)), (3, .int (nI dep)), (2, .int (nI u.1)), (0, .ref zq), (1, .int (nI s0))]) (fun u => tt - u.1) (fun u H locs ls hI ih => ?_) (hd, EE, FF, tt) ⟨(show bD (nxW (zg 6 + 1) (zg 7) (zg 8)) (zg 6 + 1) s0 (dep - 1) ≤ hd ∧ hd ≤ tt ∧ AGZ (bQ (nxW (zg 6 + 1) (zg 7) (zg 8)) (zg 6 + 1) s0 (hd)) EE FF tt ∧ NoG (GZ (zg 9) (zg 10) (zg 11)) (bQ (nxW (zg 6 + 1) (zg 7) (zg 8)) (zg 6 + 1) s0 (hd)) 0 from ⟨by omega, by omega, v4, v5⟩), hW, hl⟩
          obtain ⟨h1, E1, F1, t1⟩ := u
          obtain ⟨hv, hW, hl⟩ := hI
          have hv : bD (nxW (zg 6 + 1) (zg 7) (zg 8)) (zg 6 + 1) s0 (dep - 1) ≤ h1 ∧ h1 ≤ tt ∧ AGZ (bQ (nxW (zg 6 + 1) (zg 7) (zg 8)) (zg 6 + 1) s0 (h1)) E1 F1 t1 ∧ NoG (GZ (zg 9) (zg 10) (zg 11)) (bQ (nxW (zg 6 + 1) (zg 7) (zg 8)) (zg 6 + 1) s0 (h1)) 0 := hv
          have hW : Wd D A s.heap H locs (wS cI cZ zq za (sF zg 2 t1) (sF zh 4 (-9 : Int32)) zk (sF (sF zF 0 E1) 1 F1)) := hW
          have hl : lv_has ls 6 [(4, .int (nI tt)), (3, .int (nI dep)), (2, .int (nI h1)), (0, .ref zq), (1, .int (nI s0))] := hl
          have ih56 := ih
          refine x_iload_n X dX2_find_56 rfl (lv_at hl 2 rfl) ?_
          refine x_iload X dX2_find_57 (lv_at hl 0 rfl) ?_
          refine n_icmp_ge X 108 dX2_find_59 (by decide) (by omega) (by omega) (fun c59 => ?_) (fun c59 => ?_)
          · obtain ⟨i1, i2, i3, i4⟩ := hv
            have eh : h1 = tt := by omega
            refine x_iinc X [(3, .int (nI (dep + 1))), (4, .int (nI tt)), (2, .int (nI h1)), (0, .ref zq), (1, .int (nI s0))] (k := 1) dX2_find_108 hl rfl (nI_inc1 dep) (by decide) rfl (fun ls hl => ?_)
            refine x_goto X 36 dX2_find_111 (by decide) ?_
            exact ih36 ((dep + 1), h1, E1, F1, t1) _ _ _ ⟨(show 1 ≤ (dep + 1) ∧ (dep + 1) ≤ 41 ∧ h1 = bD (nxW (zg 6 + 1) (zg 7) (zg 8)) (zg 6 + 1) s0 ((dep + 1) - 1) ∧ AGZ (bQ (nxW (zg 6 + 1) (zg 7) (zg 8)) (zg 6 + 1) s0 (h1)) E1 F1 t1 ∧ NoG (GZ (zg 9) (zg 10) (zg 11)) (bQ (nxW (zg 6 + 1) (zg 7) (zg 8)) (zg 6 + 1) s0 (h1)) 0 from ⟨by omega, by omega, by rw [eh, htt, Nat.add_sub_cancel], i3, i4⟩), hW, lv_sub hl [0, 2, 3, 4] rfl⟩ (by dsimp only; omega)
          · refine x_iload_n X dX2_find_62 rfl (lv_at hl 2 rfl) ?_
            refine x_aload_n X dX2_find_63 rfl (lv_at hl 3 rfl) ?_
            refine x_get X hW (v := .ref (za 1)) hi2 0 rfl rfl 1 (by decide) (List.mem_of_getElem? (i := 3) rfl) rfl rfl dX2_find_64 ?_
            refine n_alen X hW (f := fun i => nI (F1 i)) 2 0 rfl rfl dX2_find_67 ?_
            refine n_icmp_ge X 108 dX2_find_68 (by decide) (by omega) (by decide) (fun c68 => by omega) (fun c68 => ?_)
            obtain ⟨i1, i2, i3, i4⟩ := hv
            have hdt : h1 < (bQ (nxW (zg 6 + 1) (zg 7) (zg 8)) (zg 6 + 1) s0 (h1)).2.1 := lv_t i1 (by rw [show dep - 1 + 1 = dep by omega, ← htt]; omega)
            have hib := IB_Q hnx hs0 h1
            have hvs := (hib.2.1 h1 hdt).1
            refine x_aload_n X dX2_find_71 rfl (lv_at hl 3 rfl) ?_
            refine x_aload_n X dX2_find_72 rfl (lv_at hl 3 rfl) ?_
            refine x_get X hW (v := .ref (za 1)) hi2 0 rfl rfl 1 (by decide) (List.mem_of_getElem? (i := 3) rfl) rfl rfl dX2_find_73 ?_
            refine x_iload_n X dX2_find_76 rfl (lv_at hl 2 rfl) ?_
            refine n_iald X hW (f := F1) 2 0 rfl rfl (by omega) (by decide) dX2_find_77 ?_
            refine n_as0 (b := (bQ (nxW (zg 6 + 1) (zg 7) (zg 8)) (zg 6 + 1) s0 (h1)).1 h1) (i3.2.1 h1 hdt) ?_
            refine x_callVi0 X hW (As := [.int (nI ((bQ (nxW (zg 6 + 1) (zg 7) (zg 8)) (zg 6 + 1) s0 (h1)).1 h1))]) (rest := []) (c_X2_goOnFrom l D cI cZ cO zq za (sF zg 2 t1) (sF zh 4 (-9 : Int32)) zk (sF (sF zF 0 E1) 1 F1) _ ((bQ (nxW (zg 6 + 1) (zg 7) (zg 8)) (zg 6 + 1) s0 (h1)).1 h1) (bQ (nxW (zg 6 + 1) (zg 7) (zg 8)) (zg 6 + 1) s0 (h1)) (show VS ((zg 6) + 1) ((bQ (nxW (zg 6 + 1) (zg 7) (zg 8)) (zg 6 + 1) s0 (h1)).1 h1) from hvs) (show IB ((zg 6) + 1) (bQ (nxW (zg 6 + 1) (zg 7) (zg 8)) (zg 6 + 1) s0 (h1)) from hib) (show AGZ (bQ (nxW (zg 6 + 1) (zg 7) (zg 8)) (zg 6 + 1) s0 (h1)) (E1) (F1) (t1) from i3) (show (zg 8) < 100000 from (by first | assumption | omega)) (show 1 ≤ (zg 6) from (by first | assumption | omega)) (show (zg 6) ≤ 3 from (by first | assumption | omega)) (show (zg 7) ≤ 3 from (by first | assumption | omega)) (show (zg 9) ≤ 1 from (by first | assumption | omega)) (show (zg 10) < 4 from (by first | assumption | omega)) (show (zg 11) ≤ 9 from (by first | assumption | omega))) (cwV 1 X.2.2.2.2.2.1 gX2_find_X2_goOnFrom rfl rfl rfl (by decide +kernel) ⟨Nat.le_of_ble_eq_true rfl, Nat.le_of_ble_eq_true rfl⟩) 0 2 rfl rfl rfl rfl hl.1 rfl (Nat.le_of_ble_eq_true rfl) ⟨Nat.le_of_ble_eq_true rfl, Nat.le_of_ble_eq_true rfl⟩ dX2_find_78 (fun r14 u15 H locs w78 hW => ?_)
            obtain ⟨o1_11, o2_12, o3_13⟩ := u15
            have hW : Wd D A s.heap H locs (wS cI cZ zq za (sF zg 2 o3_13) (sF zh 4 (-9 : Int32)) zk (sF (sF zF 0 o1_11) 1 o2_12)) := hW
            replace w78 : ((∃ (z0 : Nat) (z1 : Nat), r14 = nI z0 ∧ (z1 < ((zg 6) + 1) ∧ AGZ (bRow (nxW ((zg 6) + 1) ((zg 7)) ((zg 8))) ((bQ (nxW (zg 6 + 1) (zg 7) (zg 8)) (zg 6 + 1) s0 (h1)).1 h1) (z1 + 1) (bQ (nxW (zg 6 + 1) (zg 7) (zg 8)) (zg 6 + 1) s0 (h1))) o1_11 o2_12 o3_13 ∧ YesG (GZ ((zg 9)) ((zg 10)) ((zg 11))) (bRow (nxW ((zg 6) + 1) ((zg 7)) ((zg 8))) ((bQ (nxW (zg 6 + 1) (zg 7) (zg 8)) (zg 6 + 1) s0 (h1)).1 h1) (z1 + 1) (bQ (nxW (zg 6 + 1) (zg 7) (zg 8)) (zg 6 + 1) s0 (h1))) (bQ (nxW (zg 6 + 1) (zg 7) (zg 8)) (zg 6 + 1) s0 (h1)).2.1 z0)) ∨ r14 = (-9 : Int32) ∧ (AGZ (bRow (nxW ((zg 6) + 1) ((zg 7)) ((zg 8))) ((bQ (nxW (zg 6 + 1) (zg 7) (zg 8)) (zg 6 + 1) s0 (h1)).1 h1) (((zg 6) + 1)) (bQ (nxW (zg 6 + 1) (zg 7) (zg 8)) (zg 6 + 1) s0 (h1))) o1_11 o2_12 o3_13 ∧ NoG (GZ ((zg 9)) ((zg 10)) ((zg 11))) (bRow (nxW ((zg 6) + 1) ((zg 7)) ((zg 8))) ((bQ (nxW (zg 6 + 1) (zg 7) (zg 8)) (zg 6 + 1) s0 (h1)).1 h1) (((zg 6) + 1)) (bQ (nxW (zg 6 + 1) (zg 7) (zg 8)) (zg 6 + 1) s0 (h1))) (bQ (nxW (zg 6 + 1) (zg 7) (zg 8)) (zg 6 + 1) s0 (h1)).2.1)) := w78
            rcases w78 with ⟨z0_16, z1_17, w78, h78⟩ | ⟨w78, h78⟩
            · subst w78
              obtain ⟨g1, g2, g3⟩ := h78
              have hF := Fnd_row (k := dep - 1) hnx hs0 (by omega) i1 (by rw [show dep - 1 + 1 = dep by omega, ← htt]; omega) (by omega) i4 g3
              rw [show dep - 1 + 1 = dep by omega] at hF
              have hib2 := IB_row hnx hvs.1 hib _ (show _ + 1 ≤ _ from g1)
              have hkp := keep_z hnx hs0 (by omega) hF.1.2.1 hF.1.2.2.1 g2.1 hF.2.1 hib2 (by have := g3.2.1; omega) g2.2.2.2
              rw [hF.2.2] at hkp
              have hgl4 : z0_16 < 40000 := by rw [← g3.2.2.1]; exact (hib2.2.1 _ (by have := g3.2.1; omega)).1.1
              refine x_istore X [(5, .int (nI z0_16)), (4, .int (nI tt)), (3, .int (nI dep)), (2, .int (nI h1)), (0, .ref zq), (1, .int (nI s0))] dX2_find_81 hl (by decide) rfl (fun ls hl => ?_)
              refine x_iload X dX2_find_83 (lv_at hl 0 rfl) ?_
              refine x_bipush (v := (-9 : Int32)) X dX2_find_85 (by decide) ?_
              refine x_icmp_eq X 102 dX2_find_87 (by decide) (fun c87 => by exact absurd c87 (nI_n9 (by have := hgl4; omega))) (fun c87 => ?_)
              refine x_aload_n X dX2_find_90 rfl (lv_at hl 4 rfl) ?_
              refine x_iload_n X dX2_find_91 rfl (lv_at hl 2 rfl) ?_
              refine x_put X hW (v := .int (nI dep)) hi2 tyX2 tyX2_ok nmX2 0 rfl rfl 4 (by decide) (List.mem_of_getElem? (i := 1) rfl) rfl rfl rfl rfl (Nat.le_of_ble_eq_true rfl) dX2_find_92 (wS cI cZ zq za (sF zg 2 o3_13) (sF zh 4 (nI dep)) zk (sF (sF zF 0 o1_11) 1 o2_12)) rfl (fun H locs hW => ?_)
              refine x_aload_n X dX2_find_95 rfl (lv_at hl 4 rfl) ?_
              refine x_iload X dX2_find_96 (lv_at hl 0 rfl) ?_
              refine x_callVv0 X hW (As := [.int (nI z0_16)]) (rest := []) (c_X2_keepRowTo l D cI cZ cO zq za (sF zg 2 o3_13) (sF zh 4 (nI dep)) zk (sF (sF zF 0 o1_11) 1 o2_12) _ z0_16 ((bF (nxW (zg 6 + 1) (zg 7) (zg 8)) (zg 6 + 1) s0).2.2) dep (show dep ≤ 40 from (by omega)) (show 1 ≤ dep from (by omega)) (show (nI dep) = nI dep from rfl) (show ∀ z0, z0 < dep → anc ((bF (nxW (zg 6 + 1) (zg 7) (zg 8)) (zg 6 + 1) s0).2.2) z0 z0_16 < 40000 ∧ ((bF (nxW (zg 6 + 1) (zg 7) (zg 8)) (zg 6 + 1) s0).2.2) (anc ((bF (nxW (zg 6 + 1) (zg 7) (zg 8)) (zg 6 + 1) s0).2.2) z0 z0_16) ≠ 0 ∧ ((bF (nxW (zg 6 + 1) (zg 7) (zg 8)) (zg 6 + 1) s0).2.2) (anc ((bF (nxW (zg 6 + 1) (zg 7) (zg 8)) (zg 6 + 1) s0).2.2) z0 z0_16) ≤ 200000 ∧ o1_11 (anc ((bF (nxW (zg 6 + 1) (zg 7) (zg 8)) (zg 6 + 1) s0).2.2) z0 z0_16) = ((bF (nxW (zg 6 + 1) (zg 7) (zg 8)) (zg 6 + 1) s0).2.2) (anc ((bF (nxW (zg 6 + 1) (zg 7) (zg 8)) (zg 6 + 1) s0).2.2) z0 z0_16) from hkp)) (cwV 1 X.2.2.2.2.2.1 gX2_find_X2_keepRowTo rfl rfl rfl (by decide +kernel) ⟨Nat.le_of_ble_eq_true rfl, Nat.le_of_ble_eq_true rfl⟩) 0 2 rfl rfl rfl rfl hl.1 rfl (Nat.le_of_ble_eq_true rfl) ⟨Nat.le_of_ble_eq_true rfl, Nat.le_of_ble_eq_true rfl⟩ dX2_find_98 (fun u20 H locs w98 hW => ?_)
              obtain ⟨o1_18, o1_18e⟩ : ∃ z, z = u20 := ⟨_, rfl⟩
              subst o1_18e
              have hW : Wd D A s.heap H locs (wS cI cZ zq za (sF zg 2 o3_13) (sF zh 4 (nI dep)) zk (sF (sF (sF zF 0 o1_11) 1 o2_12) 3 o1_18)) := hW
              replace w98 : ∀ z0, z0 < dep → o1_18 (dep - 1 - z0) = (((bF (nxW (zg 6 + 1) (zg 7) (zg 8)) (zg 6 + 1) s0).2.2) (anc ((bF (nxW (zg 6 + 1) (zg 7) (zg 8)) (zg 6 + 1) s0).2.2) z0 z0_16) - 1) % 4 := w98
              exact x_vret X hW rfl (o1_11, o2_12, o3_13, o1_18, nI dep) (⟨SI_of g2 hib2, Or.inl ⟨dep, _, hF.1, rfl, by unfold acOf; rw [hF.2.2]; exact w98⟩⟩) rfl dX2_find_101
            · subst w78
              obtain ⟨g2, g3⟩ := h78
              refine x_istore X [(5, .int (-9 : Int32)), (4, .int (nI tt)), (3, .int (nI dep)), (2, .int (nI h1)), (0, .ref zq), (1, .int (nI s0))] dX2_find_81 hl (by decide) rfl (fun ls hl => ?_)
              refine x_iload X dX2_find_83 (lv_at hl 0 rfl) ?_
              refine x_bipush (v := (-9 : Int32)) X dX2_find_85 (by decide) ?_
              refine x_icmp_eq X 102 dX2_find_87 (by decide) (fun c87 => ?_) (fun c87 => by first | exact absurd c87 (by decide) | exact absurd (by decide) c87)
              refine x_iinc X [(2, .int (nI (h1 + 1))), (5, .int (-9 : Int32)), (4, .int (nI tt)), (3, .int (nI dep)), (0, .ref zq), (1, .int (nI s0))] (k := 3) dX2_find_102 hl rfl (nI_inc1 h1) (by decide) rfl (fun ls hl => ?_)
              refine x_goto X 56 dX2_find_105 (by decide) ?_
              exact ih56 ((h1 + 1), o1_11, o2_12, o3_13) _ _ _ ⟨(show bD (nxW (zg 6 + 1) (zg 7) (zg 8)) (zg 6 + 1) s0 (dep - 1) ≤ (h1 + 1) ∧ (h1 + 1) ≤ tt ∧ AGZ (bQ (nxW (zg 6 + 1) (zg 7) (zg 8)) (zg 6 + 1) s0 ((h1 + 1))) o1_11 o2_12 o3_13 ∧ NoG (GZ (zg 9) (zg 10) (zg 11)) (bQ (nxW (zg 6 + 1) (zg 7) (zg 8)) (zg 6 + 1) s0 ((h1 + 1))) 0 from ⟨by omega, by omega, by rw [bQ_y hdt]; exact g2, NoG_row hdt i4 g3⟩), hW, lv_sub hl [2, 3, 0, 4, 5] rfl⟩ (by dsimp only; omega)
    · subst w28
      exact absurd rfl h28
set_option maxHeartbeats 4000000 in
set_option maxRecDepth 100000 in
theorem c_X2_keyOf (l : Launch) (D : va_G) (cI cZ cO : ClassId) (zq : Nat) (za : Nat → Nat) (zg : Nat → Nat) (zh : Nat → Int32) (zk : Int64) (zF : Nat → Nat → Nat) (sz : Nat) (sx : Nat)  (hs : sx < 40000) (hwn : zg 8 < 10000) (h1 : 1 ≤ zg 6) (hn : zg 6 ≤ 3) (hrn : zg 7 ≤ 3) (hby : zg 9 ≤ 1) (hgr : zg 10 < 4) (hgl : zg 11 ≤ 9) : Met l yX2_keyOf wsX2_keyOf ({ frames := 0, cells := 0, slots := 0, locals := 0 }) (va_Pc [.ref zq, .int (nI sx)] (st_W D (ty3 cI cZ cO) (wS cI cZ zq za zg zh zk zF) sz)) (va_Ql (fun (rr : Int64) (u : Unit) => rr = lN (keyN sx (zg 8) (zg 7) (zg 6) (zg 9) (zg 10) (zg 11))) (fun u t => at_W D (ty3 cI cZ cO) (va_A (wS cI cZ zq za zg zh zk zF) sz) (wS cI cZ zq za zg zh zk zF) t) (va_A (wS cI cZ zq za zg zh zk zF) sz)) 0 0 (va_A (wS cI cZ zq za zg zh zk zF) sz) := by
  refine Met.gol (cc := cX2_keyOf) (maxL := 4) (ret := (some .long)) (by decide) rfl (Nat.le_of_ble_eq_true rfl) (fun p e s m below meth c A ls X hW hl => ?_)
  have hi2 : ∀ w ∈ wsX20, w ∈ wsX2_keyOf := fun w h => List.mem_cons_of_mem _ (List.mem_append_right _ h)
  have hl : lv_has ls 4 [(0, .ref zq), (1, .int (nI sx))] := hl
  refine x_iload_n X dX2_keyOf_0 rfl (lv_at hl 1 rfl) ?_
  refine x_i2l (v := lN (sx)) X dX2_keyOf_1 (nI_l (by omega)) ?_
  refine x_ldc2 (v := (10000)) X (List.mem_of_getElem? (i := 1) rfl) dX2_keyOf_2 ?_
  refine x_lmul (v := lN (sx * 10000)) X dX2_keyOf_5 (lN_mul _ _) ?_
  refine x_aload_n X dX2_keyOf_6 rfl (lv_at hl 0 rfl) ?_
  refine x_get X hW (v := .int (nI (zg 8))) hi2 0 rfl rfl 8 (by decide) (List.mem_of_getElem? (i := 2) rfl) rfl rfl dX2_keyOf_7 ?_
  refine x_i2l (v := lN (zg 8)) X dX2_keyOf_10 (nI_l (by omega)) ?_
  refine x_ladd (v := lN (sx * 10000 + zg 8)) X dX2_keyOf_11 (lN_add _ _) ?_
  refine x_lstore_n X [(2, .long (lN (sx * 10000 + zg 8))), (0, .ref zq), (1, .int (nI sx))] dX2_keyOf_12 rfl hl (by decide) rfl (fun ls hl => ?_)
  refine x_lload_n X dX2_keyOf_13 rfl (lv_at hl 0 rfl) ?_
  refine x_ldc2 (v := (4)) X (List.mem_of_getElem? (i := 3) rfl) dX2_keyOf_14 ?_
  refine x_lmul (v := lN ((sx * 10000 + zg 8) * 4)) X dX2_keyOf_17 (lN_mul _ _) ?_
  refine x_aload_n X dX2_keyOf_18 rfl (lv_at hl 1 rfl) ?_
  refine x_get X hW (v := .int (nI (zg 7))) hi2 0 rfl rfl 7 (by decide) (List.mem_of_getElem? (i := 4) rfl) rfl rfl dX2_keyOf_19 ?_
  refine x_i2l (v := lN (zg 7)) X dX2_keyOf_22 (nI_l (by omega)) ?_
  refine x_ladd (v := lN ((sx * 10000 + zg 8) * 4 + zg 7)) X dX2_keyOf_23 (lN_add _ _) ?_
  refine x_ldc2 (v := (4)) X (List.mem_of_getElem? (i := 3) rfl) dX2_keyOf_24 ?_
  refine x_lmul (v := lN (((sx * 10000 + zg 8) * 4 + zg 7) * 4)) X dX2_keyOf_27 (lN_mul _ _) ?_
  refine x_aload_n X dX2_keyOf_28 rfl (lv_at hl 1 rfl) ?_
  refine x_get X hW (v := .int (nI (zg 6))) hi2 0 rfl rfl 6 (by decide) (List.mem_of_getElem? (i := 5) rfl) rfl rfl dX2_keyOf_29 ?_
  refine x_i2l (v := lN (zg 6)) X dX2_keyOf_32 (nI_l (by omega)) ?_
  refine x_ladd (v := lN (((sx * 10000 + zg 8) * 4 + zg 7) * 4 + zg 6)) X dX2_keyOf_33 (lN_add _ _) ?_
  refine x_lstore_n X [(2, .long (lN (((sx * 10000 + zg 8) * 4 + zg 7) * 4 + zg 6))), (0, .ref zq), (1, .int (nI sx))] dX2_keyOf_34 rfl hl (by decide) rfl (fun ls hl => ?_)
  refine x_lload_n X dX2_keyOf_35 rfl (lv_at hl 0 rfl) ?_
  refine x_ldc2 (v := (2)) X (List.mem_of_getElem? (i := 6) rfl) dX2_keyOf_36 ?_
  refine x_lmul (v := lN ((((sx * 10000 + zg 8) * 4 + zg 7) * 4 + zg 6) * 2)) X dX2_keyOf_39 (lN_mul _ _) ?_
  refine x_aload_n X dX2_keyOf_40 rfl (lv_at hl 1 rfl) ?_
  refine x_get X hW (v := .int (nI (zg 9))) hi2 0 rfl rfl 9 (by decide) (List.mem_of_getElem? (i := 7) rfl) rfl rfl dX2_keyOf_41 ?_
  refine n_if_eq X 51 dX2_keyOf_44 (by decide) (by omega) (fun c44 => ?_) (fun c44 => ?_)
  · refine x_iconst (v := nI 0) X dX2_keyOf_51 (by decide) ?_
    refine n_as0 (b := zg 9) (by omega) ?_
    refine x_i2l (v := lN (zg 9)) X dX2_keyOf_52 (nI_l (by omega)) ?_
    refine x_ladd (v := lN ((((sx * 10000 + zg 8) * 4 + zg 7) * 4 + zg 6) * 2 + zg 9)) X dX2_keyOf_53 (lN_add _ _) ?_
    refine x_ldc2 (v := (4)) X (List.mem_of_getElem? (i := 3) rfl) dX2_keyOf_54 ?_
    refine x_lmul (v := lN (((((sx * 10000 + zg 8) * 4 + zg 7) * 4 + zg 6) * 2 + zg 9) * 4)) X dX2_keyOf_57 (lN_mul _ _) ?_
    refine x_aload_n X dX2_keyOf_58 rfl (lv_at hl 1 rfl) ?_
    refine x_get X hW (v := .int (nI (zg 10))) hi2 0 rfl rfl 10 (by decide) (List.mem_of_getElem? (i := 8) rfl) rfl rfl dX2_keyOf_59 ?_
    refine x_i2l (v := lN (zg 10)) X dX2_keyOf_62 (nI_l (by omega)) ?_
    refine x_ladd (v := lN (((((sx * 10000 + zg 8) * 4 + zg 7) * 4 + zg 6) * 2 + zg 9) * 4 + zg 10)) X dX2_keyOf_63 (lN_add _ _) ?_
    refine x_lstore_n X [(2, .long (lN (((((sx * 10000 + zg 8) * 4 + zg 7) * 4 + zg 6) * 2 + zg 9) * 4 + zg 10))), (0, .ref zq), (1, .int (nI sx))] dX2_keyOf_64 rfl hl (by decide) rfl (fun ls hl => ?_)
    refine x_lload_n X dX2_keyOf_65 rfl (lv_at hl 0 rfl) ?_
    refine x_ldc2 (v := (10)) X (List.mem_of_getElem? (i := 9) rfl) dX2_keyOf_66 ?_
    refine x_lmul (v := lN ((((((sx * 10000 + zg 8) * 4 + zg 7) * 4 + zg 6) * 2 + zg 9) * 4 + zg 10) * 10)) X dX2_keyOf_69 (lN_mul _ _) ?_
    refine x_aload_n X dX2_keyOf_70 rfl (lv_at hl 1 rfl) ?_
    refine x_get X hW (v := .int (nI (zg 11))) hi2 0 rfl rfl 11 (by decide) (List.mem_of_getElem? (i := 10) rfl) rfl rfl dX2_keyOf_71 ?_
    refine x_i2l (v := lN (zg 11)) X dX2_keyOf_74 (nI_l (by omega)) ?_
    refine x_ladd (v := lN ((((((sx * 10000 + zg 8) * 4 + zg 7) * 4 + zg 6) * 2 + zg 9) * 4 + zg 10) * 10 + zg 11)) X dX2_keyOf_75 (lN_add _ _) ?_
    exact x_lret X hW rfl () (rfl) rfl dX2_keyOf_76
  · refine x_iconst (v := nI 1) X dX2_keyOf_47 (by decide) ?_
    refine x_goto X 52 dX2_keyOf_48 (by decide) ?_
    refine n_as0 (b := zg 9) (by omega) ?_
    refine x_i2l (v := lN (zg 9)) X dX2_keyOf_52 (nI_l (by omega)) ?_
    refine x_ladd (v := lN ((((sx * 10000 + zg 8) * 4 + zg 7) * 4 + zg 6) * 2 + zg 9)) X dX2_keyOf_53 (lN_add _ _) ?_
    refine x_ldc2 (v := (4)) X (List.mem_of_getElem? (i := 3) rfl) dX2_keyOf_54 ?_
    refine x_lmul (v := lN (((((sx * 10000 + zg 8) * 4 + zg 7) * 4 + zg 6) * 2 + zg 9) * 4)) X dX2_keyOf_57 (lN_mul _ _) ?_
    refine x_aload_n X dX2_keyOf_58 rfl (lv_at hl 1 rfl) ?_
    refine x_get X hW (v := .int (nI (zg 10))) hi2 0 rfl rfl 10 (by decide) (List.mem_of_getElem? (i := 8) rfl) rfl rfl dX2_keyOf_59 ?_
    refine x_i2l (v := lN (zg 10)) X dX2_keyOf_62 (nI_l (by omega)) ?_
    refine x_ladd (v := lN (((((sx * 10000 + zg 8) * 4 + zg 7) * 4 + zg 6) * 2 + zg 9) * 4 + zg 10)) X dX2_keyOf_63 (lN_add _ _) ?_
    refine x_lstore_n X [(2, .long (lN (((((sx * 10000 + zg 8) * 4 + zg 7) * 4 + zg 6) * 2 + zg 9) * 4 + zg 10))), (0, .ref zq), (1, .int (nI sx))] dX2_keyOf_64 rfl hl (by decide) rfl (fun ls hl => ?_)
    refine x_lload_n X dX2_keyOf_65 rfl (lv_at hl 0 rfl) ?_
    refine x_ldc2 (v := (10)) X (List.mem_of_getElem? (i := 9) rfl) dX2_keyOf_66 ?_
    refine x_lmul (v := lN ((((((sx * 10000 + zg 8) * 4 + zg 7) * 4 + zg 6) * 2 + zg 9) * 4 + zg 10) * 10)) X dX2_keyOf_69 (lN_mul _ _) ?_
    refine x_aload_n X dX2_keyOf_70 rfl (lv_at hl 1 rfl) ?_
    refine x_get X hW (v := .int (nI (zg 11))) hi2 0 rfl rfl 11 (by decide) (List.mem_of_getElem? (i := 10) rfl) rfl rfl dX2_keyOf_71 ?_
    refine x_i2l (v := lN (zg 11)) X dX2_keyOf_74 (nI_l (by omega)) ?_
    refine x_ladd (v := lN ((((((sx * 10000 + zg 8) * 4 + zg 7) * 4 + zg 6) * 2 + zg 9) * 4 + zg 10) * 10 + zg 11)) X dX2_keyOf_75 (lN_add _ _) ?_
    exact x_lret X hW rfl () (rfl) rfl dX2_keyOf_76
set_option maxHeartbeats 4000000 in
set_option maxRecDepth 100000 in
theorem c_X2_aimBoatAt (l : Launch) (D : va_G) (cI cZ cO : ClassId) (zq : Nat) (za : Nat → Nat) (zg : Nat → Nat) (zh : Nat → Int32) (zk : Int64) (zF : Nat → Nat → Nat) (sz : Nat) (r : Nat)   : Met l yX2_aimBoatAt wsX2_aimBoatAt ({ frames := 0, cells := 0, slots := 0, locals := 0 }) (va_Pc [.ref zq, .int (nI r)] (st_W D (ty3 cI cZ cO) (wS cI cZ zq za zg zh zk zF) sz)) (va_Qv (fun (u : Unit) => True) (fun u t => at_W D (ty3 cI cZ cO) (va_A (wS cI cZ zq za zg zh zk zF) sz) (wS cI cZ zq za (sF (sF (sF zg 9 1) 10 r) 11 0) zh zk zF) t) (va_A (wS cI cZ zq za zg zh zk zF) sz)) 0 0 (va_A (wS cI cZ zq za zg zh zk zF) sz) := by
  refine Met.gov (cc := cX2_aimBoatAt) (maxL := 2) (ret := none) (by decide) rfl (Nat.le_of_ble_eq_true rfl) (fun p e s m below meth c A ls X hW hl => ?_)
  have hi2 : ∀ w ∈ wsX20, w ∈ wsX2_aimBoatAt := fun w h => List.mem_cons_of_mem _ (List.mem_append_right _ h)
  have hl : lv_has ls 2 [(0, .ref zq), (1, .int (nI r))] := hl
  refine x_aload_n X dX2_aimBoatAt_0 rfl (lv_at hl 0 rfl) ?_
  refine x_iconst (v := nI 1) X dX2_aimBoatAt_1 (by decide) ?_
  refine x_put X hW (v := .int (nI 1)) hi2 tyX2 tyX2_ok nmX2 0 rfl rfl 9 (by decide) (List.mem_of_getElem? (i := 1) rfl) rfl rfl rfl rfl (Nat.le_of_ble_eq_true rfl) dX2_aimBoatAt_2 (wS cI cZ zq za (sF zg 9 1) zh zk zF) rfl (fun H locs hW => ?_)
  refine x_aload_n X dX2_aimBoatAt_5 rfl (lv_at hl 0 rfl) ?_
  refine x_iload_n X dX2_aimBoatAt_6 rfl (lv_at hl 1 rfl) ?_
  refine x_put X hW (v := .int (nI r)) hi2 tyX2 tyX2_ok nmX2 0 rfl rfl 10 (by decide) (List.mem_of_getElem? (i := 2) rfl) rfl rfl rfl rfl (Nat.le_of_ble_eq_true rfl) dX2_aimBoatAt_7 (wS cI cZ zq za (sF (sF zg 9 1) 10 r) zh zk zF) rfl (fun H locs hW => ?_)
  refine x_aload_n X dX2_aimBoatAt_10 rfl (lv_at hl 0 rfl) ?_
  refine x_iconst (v := nI 0) X dX2_aimBoatAt_11 (by decide) ?_
  refine x_put X hW (v := .int (nI 0)) hi2 tyX2 tyX2_ok nmX2 0 rfl rfl 11 (by decide) (List.mem_of_getElem? (i := 3) rfl) rfl rfl rfl rfl (Nat.le_of_ble_eq_true rfl) dX2_aimBoatAt_12 (wS cI cZ zq za (sF (sF (sF zg 9 1) 10 r) 11 0) zh zk zF) rfl (fun H locs hW => ?_)
  exact x_vret X hW rfl () (trivial) rfl dX2_aimBoatAt_15
set_option maxHeartbeats 4000000 in
set_option maxRecDepth 100000 in
theorem c_X2_aimAtLevel (l : Launch) (D : va_G) (cI cZ cO : ClassId) (zq : Nat) (za : Nat → Nat) (zg : Nat → Nat) (zh : Nat → Int32) (zk : Int64) (zF : Nat → Nat → Nat) (sz : Nat) (r : Nat) (v : Nat)   : Met l yX2_aimAtLevel wsX2_aimAtLevel ({ frames := 0, cells := 0, slots := 0, locals := 0 }) (va_Pc [.ref zq, .int (nI r), .int (nI v)] (st_W D (ty3 cI cZ cO) (wS cI cZ zq za zg zh zk zF) sz)) (va_Qv (fun (u : Unit) => True) (fun u t => at_W D (ty3 cI cZ cO) (va_A (wS cI cZ zq za zg zh zk zF) sz) (wS cI cZ zq za (sF (sF (sF zg 9 0) 10 r) 11 v) zh zk zF) t) (va_A (wS cI cZ zq za zg zh zk zF) sz)) 0 0 (va_A (wS cI cZ zq za zg zh zk zF) sz) := by
  refine Met.gov (cc := cX2_aimAtLevel) (maxL := 3) (ret := none) (by decide) rfl (Nat.le_of_ble_eq_true rfl) (fun p e s m below meth c A ls X hW hl => ?_)
  have hi2 : ∀ w ∈ wsX20, w ∈ wsX2_aimAtLevel := fun w h => List.mem_cons_of_mem _ (List.mem_append_right _ h)
  have hl : lv_has ls 3 [(0, .ref zq), (1, .int (nI r)), (2, .int (nI v))] := hl
  refine x_aload_n X dX2_aimAtLevel_0 rfl (lv_at hl 0 rfl) ?_
  refine x_iconst (v := nI 0) X dX2_aimAtLevel_1 (by decide) ?_
  refine x_put X hW (v := .int (nI 0)) hi2 tyX2 tyX2_ok nmX2 0 rfl rfl 9 (by decide) (List.mem_of_getElem? (i := 1) rfl) rfl rfl rfl rfl (Nat.le_of_ble_eq_true rfl) dX2_aimAtLevel_2 (wS cI cZ zq za (sF zg 9 0) zh zk zF) rfl (fun H locs hW => ?_)
  refine x_aload_n X dX2_aimAtLevel_5 rfl (lv_at hl 0 rfl) ?_
  refine x_iload_n X dX2_aimAtLevel_6 rfl (lv_at hl 1 rfl) ?_
  refine x_put X hW (v := .int (nI r)) hi2 tyX2 tyX2_ok nmX2 0 rfl rfl 10 (by decide) (List.mem_of_getElem? (i := 2) rfl) rfl rfl rfl rfl (Nat.le_of_ble_eq_true rfl) dX2_aimAtLevel_7 (wS cI cZ zq za (sF (sF zg 9 0) 10 r) zh zk zF) rfl (fun H locs hW => ?_)
  refine x_aload_n X dX2_aimAtLevel_10 rfl (lv_at hl 0 rfl) ?_
  refine x_iload_n X dX2_aimAtLevel_11 rfl (lv_at hl 2 rfl) ?_
  refine x_put X hW (v := .int (nI v)) hi2 tyX2 tyX2_ok nmX2 0 rfl rfl 11 (by decide) (List.mem_of_getElem? (i := 3) rfl) rfl rfl rfl rfl (Nat.le_of_ble_eq_true rfl) dX2_aimAtLevel_12 (wS cI cZ zq za (sF (sF (sF zg 9 0) 10 r) 11 v) zh zk zF) rfl (fun H locs hW => ?_)
  exact x_vret X hW rfl () (trivial) rfl dX2_aimAtLevel_15
set_option maxHeartbeats 4000000 in
set_option maxRecDepth 100000 in
theorem c_X2_actAt (l : Launch) (D : va_G) (cI cZ cO : ClassId) (zq : Nat) (za : Nat → Nat) (zg : Nat → Nat) (zh : Nat → Int32) (zk : Int64) (zF : Nat → Nat → Nat) (sz : Nat) (k : Int32) (nx : Nat → Nat → Option Nat) (K : Nat) (s0 : Nat) (G : Nat → Prop) (hst : RowSt nx K s0 G (zh 4) (zF 3)) (hk : okK k) : Met l yX2_actAt wsX2_actAt ({ frames := 0, cells := 0, slots := 0, locals := 0 }) (va_Pc [.ref zq, .int k] (st_W D (ty3 cI cZ cO) (wS cI cZ zq za zg zh zk zF) sz)) (va_Qi (fun (rr : Int32) (u : Unit) => RowAns nx K s0 G k rr) (fun u t => at_W D (ty3 cI cZ cO) (va_A (wS cI cZ zq za zg zh zk zF) sz) (wS cI cZ zq za zg zh zk zF) t) (va_A (wS cI cZ zq za zg zh zk zF) sz)) 0 0 (va_A (wS cI cZ zq za zg zh zk zF) sz) := by
  refine Met.goi (cc := cX2_actAt) (maxL := 2) (ret := (some .int)) (by decide) rfl (Nat.le_of_ble_eq_true rfl) (fun p e s m below meth c A ls X hW hl => ?_)
  have hi2 : ∀ w ∈ wsX20, w ∈ wsX2_actAt := fun w h => List.mem_cons_of_mem _ (List.mem_append_right _ h)
  have hl : lv_has ls 2 [(0, .ref zq), (1, .int k)] := hl
  rcases hst with ⟨kz, f, hf, he, hR⟩ | ⟨hnon, he⟩ <;> rcases hk with rfl | hk
  · have hk40 := hf.1
    refine x_iload_n X dX2_actAt_0 rfl (lv_at hl 1 rfl) ?_
    refine x_iconst (v := (-1 : Int32)) X dX2_actAt_1 (by decide) ?_
    refine x_icmp_ne X 10 dX2_actAt_2 (by decide) (fun c2 => by first | exact absurd c2 (by decide) | exact absurd (by decide) c2) (fun c2 => ?_)
    refine x_aload_n X dX2_actAt_5 rfl (lv_at hl 0 rfl) ?_
    refine x_get X hW (v := .int (zh 4)) hi2 0 rfl rfl 4 (by decide) (List.mem_of_getElem? (i := 1) rfl) rfl rfl dX2_actAt_6 ?_
    refine i_as0 (b := nI kz) he ?_
    exact x_iret X hW rfl () ((Or.inl ⟨kz, f, hf, rfl⟩)) rfl dX2_actAt_9
  · have hk40 := hf.1
    obtain ⟨kk, hkk, rfl⟩ := inR_ex hk (by omega)
    refine x_iload_n X dX2_actAt_0 rfl (lv_at hl 1 rfl) ?_
    refine x_iconst (v := (-1 : Int32)) X dX2_actAt_1 (by decide) ?_
    refine x_icmp_ne X 10 dX2_actAt_2 (by decide) (fun c2 => ?_) (fun c2 => by exact absurd c2 (nI_n1 (by omega)))
    refine x_iload_n X dX2_actAt_10 rfl (lv_at hl 1 rfl) ?_
    refine n_if_lt X 40 dX2_actAt_11 (by decide) (by omega) ?_
    refine x_iload_n X dX2_actAt_14 rfl (lv_at hl 1 rfl) ?_
    refine x_aload_n X dX2_actAt_15 rfl (lv_at hl 0 rfl) ?_
    refine x_get X hW (v := .int (zh 4)) hi2 0 rfl rfl 4 (by decide) (List.mem_of_getElem? (i := 1) rfl) rfl rfl dX2_actAt_16 ?_
    refine i_as0 (b := nI kz) he ?_
    refine n_icmp_ge X 40 dX2_actAt_19 (by decide) (by omega) (by omega) (fun c19 => ?_) (fun c19 => ?_)
    · refine x_bipush (v := (-9 : Int32)) X dX2_actAt_40 (by decide) ?_
      exact x_iret X hW rfl () ((Or.inl ⟨kz, f, hf, (rowA_o hkk hk40 (by omega)).symm⟩)) rfl dX2_actAt_42
    · refine x_iload_n X dX2_actAt_22 rfl (lv_at hl 1 rfl) ?_
      refine x_aload_n X dX2_actAt_23 rfl (lv_at hl 0 rfl) ?_
      refine x_get X hW (v := .ref (za 3)) hi2 0 rfl rfl 3 (by decide) (List.mem_of_getElem? (i := 2) rfl) rfl rfl dX2_actAt_24 ?_
      refine n_alen X hW (f := fun i => nI (zF 3 i)) 3 0 rfl rfl dX2_actAt_27 ?_
      refine n_icmp_ge X 40 dX2_actAt_28 (by decide) (by omega) (by decide) (fun c28 => by omega) (fun c28 => ?_)
      refine x_aload_n X dX2_actAt_31 rfl (lv_at hl 0 rfl) ?_
      refine x_get X hW (v := .ref (za 3)) hi2 0 rfl rfl 3 (by decide) (List.mem_of_getElem? (i := 2) rfl) rfl rfl dX2_actAt_32 ?_
      refine x_iload_n X dX2_actAt_35 rfl (lv_at hl 1 rfl) ?_
      refine n_iald X hW (f := zF 3) 3 0 rfl rfl (by omega) (by decide) dX2_actAt_36 ?_
      refine x_goto X 42 dX2_actAt_37 (by decide) ?_
      exact x_iret X hW rfl () ((RowSt_ans hf hR (by omega))) rfl dX2_actAt_42
  · refine x_iload_n X dX2_actAt_0 rfl (lv_at hl 1 rfl) ?_
    refine x_iconst (v := (-1 : Int32)) X dX2_actAt_1 (by decide) ?_
    refine x_icmp_ne X 10 dX2_actAt_2 (by decide) (fun c2 => by first | exact absurd c2 (by decide) | exact absurd (by decide) c2) (fun c2 => ?_)
    refine x_aload_n X dX2_actAt_5 rfl (lv_at hl 0 rfl) ?_
    refine x_get X hW (v := .int (zh 4)) hi2 0 rfl rfl 4 (by decide) (List.mem_of_getElem? (i := 1) rfl) rfl rfl dX2_actAt_6 ?_
    refine i_as0 (b := (-9 : Int32)) he ?_
    exact x_iret X hW rfl () ((Or.inr ⟨hnon, rfl⟩)) rfl dX2_actAt_9
  · obtain ⟨kk, hkk, rfl⟩ := inR_ex hk (by omega)
    refine x_iload_n X dX2_actAt_0 rfl (lv_at hl 1 rfl) ?_
    refine x_iconst (v := (-1 : Int32)) X dX2_actAt_1 (by decide) ?_
    refine x_icmp_ne X 10 dX2_actAt_2 (by decide) (fun c2 => ?_) (fun c2 => by exact absurd c2 (nI_n1 (by omega)))
    refine x_iload_n X dX2_actAt_10 rfl (lv_at hl 1 rfl) ?_
    refine n_if_lt X 40 dX2_actAt_11 (by decide) (by omega) ?_
    refine x_iload_n X dX2_actAt_14 rfl (lv_at hl 1 rfl) ?_
    refine x_aload_n X dX2_actAt_15 rfl (lv_at hl 0 rfl) ?_
    refine x_get X hW (v := .int (zh 4)) hi2 0 rfl rfl 4 (by decide) (List.mem_of_getElem? (i := 1) rfl) rfl rfl dX2_actAt_16 ?_
    refine i_as0 (b := (-9 : Int32)) he ?_
    refine x_icmp_ge X 40 dX2_actAt_19 (by decide) (fun c19 => ?_) (fun c19 => by exact absurd (neg9_le (by omega)) c19)
    refine x_bipush (v := (-9 : Int32)) X dX2_actAt_40 (by decide) ?_
    exact x_iret X hW rfl () ((Or.inr ⟨hnon, rfl⟩)) rfl dX2_actAt_42
set_option maxHeartbeats 4000000 in
set_option maxRecDepth 100000 in
theorem c_X2_look (l : Launch) (D : va_G) (cI cZ cO : ClassId) (zq : Nat) (za : Nat → Nat) (zg : Nat → Nat) (zh : Nat → Int32) (zk : Int64) (zF : Nat → Nat → Nat) (cq : Nat) (ca : Nat → Nat) (cg : Nat → Nat) (cF : Nat → Nat → Nat) (sz : Nat) (bt : Nat)  (hbt : bt < 4) (hsk : SK (zF 0) (zF 1) (zg 2) (zh 4) zk (zF 3)) (h2 : 2 ≤ cg 0) (hn : cg 0 ≤ 4) (hk : ∀ z0, cF 2 z0 ≤ 2) (hlv : ∀ z0, cF 3 z0 ≤ 9) (hm : ∀ z0, cF 4 z0 ≤ 9) (hrn : cg 1 ≤ 3) (hby : zg 9 ≤ 1) (hgr : zg 10 < 4) (hgl : zg 11 ≤ 9) : Met l yX2_look wsX2_look ({ frames := 4, cells := 0, slots := 0, locals := 92 }) (va_Pc [.ref zq, .ref cq, .int (nI bt)] (st_W D (ty3 cI cZ cO) (wS cI cZ zq za zg zh zk zF ++ (wC cI cZ cq ca cg cF)) sz)) (va_Qv (fun (u : (Nat → Nat) × (Nat → Nat) × (Nat) × (Nat → Nat) × (Int32) × (Int64)) => SK u.1 u.2.1 u.2.2.1 u.2.2.2.2.1 u.2.2.2.2.2 u.2.2.2.1 ∧ RowSt (nxW (cg 0) (cg 1) (wnN (cg 0) (cF 2) (cF 4))) (cg 0) (wy (cg 0) bt (cF 3)) (GZ (zg 9) (zg 10) (zg 11)) u.2.2.2.2.1 u.2.2.2.1) (fun u t => at_W D (ty3 cI cZ cO) (va_A (wS cI cZ zq za zg zh zk zF ++ (wC cI cZ cq ca cg cF)) sz) (wS cI cZ zq za (sF (sF (sF (sF zg 2 u.2.2.1) 6 (cg 0 - 1)) 7 (cg 1)) 8 (wnN (cg 0) (cF 2) (cF 4))) (sF zh 4 u.2.2.2.2.1) u.2.2.2.2.2 (sF (sF (sF zF 0 u.1) 1 u.2.1) 3 u.2.2.2.1) ++ (wC cI cZ cq ca cg cF)) t) (va_A (wS cI cZ zq za zg zh zk zF ++ (wC cI cZ cq ca cg cF)) sz)) 0 0 (va_A (wS cI cZ zq za zg zh zk zF ++ (wC cI cZ cq ca cg cF)) sz) := by
  refine Met.gov (cc := cX2_look) (maxL := 6) (ret := none) (by decide) rfl (Nat.le_of_ble_eq_true rfl) (fun p e s m below meth c A ls X hW hl => ?_)
  have hi2 : ∀ w ∈ wsX20, w ∈ wsX2_look := fun w h => List.mem_cons_of_mem _ (List.mem_append_left _ (List.mem_append_right _ h))
  have hi0 : ∀ w ∈ wsX00, w ∈ wsX2_look := fun w h => List.mem_cons_of_mem _ (List.mem_append_right _ h)
  have hl : lv_has ls 6 [(0, .ref zq), (1, .ref cq), (2, .int (nI bt))] := hl
  refine x_iload_n X dX2_look_0 rfl (lv_at hl 2 rfl) ?_
  refine x_sipush (v := nI 10000) X dX2_look_1 (by decide) ?_
  refine n_imul X dX2_look_4 ?_
  refine x_istore_n X [(3, .int (nI (bt * 10000))), (0, .ref zq), (1, .ref cq), (2, .int (nI bt))] dX2_look_5 rfl hl (by decide) rfl (fun ls hl => ?_)
  refine x_aload_n X dX2_look_6 rfl (lv_at hl 1 rfl) ?_
  refine x_aload_n X dX2_look_7 rfl (lv_at hl 2 rfl) ?_
  refine x_callVi X hW (As := []) (rest := [.ref zq]) (wz := fun u => (wS cI cZ zq za zg zh zk zF ++ (wC cI cZ cq ca cg cF))) (c_X0_lastReach l D cI cZ cO cq ca cg cF _ (show (cg 0) ≤ 4 from (by first | assumption | omega)) (show 1 ≤ (cg 0) from (by first | assumption | omega))) (cwV 0 X.2.2.2.2.2.1 gX2_look_X0_lastReach rfl rfl rfl (by decide +kernel) ⟨Nat.le_of_ble_eq_true rfl, Nat.le_of_ble_eq_true rfl⟩) 4 0 rfl rfl rfl [4, 5, 6, 7] [0, 1, 2, 3] [0, 1, 2, 3, 4, 5, 6, 7] rfl rfl (by decide) (fun _ => rfl) rfl hl.1 rfl (Nat.le_of_ble_eq_true rfl) ⟨Nat.le_of_ble_eq_true rfl, Nat.le_of_ble_eq_true rfl⟩ dX2_look_8 (fun r1 u2 H locs w8 hW => ?_)
  have hW : Wd D A s.heap H locs (wS cI cZ zq za zg zh zk zF ++ (wC cI cZ cq ca cg cF)) := hW
  replace w8 : r1 = nI ((cg 0) - 1) := w8
  subst w8
  refine x_put X hW (v := .int (nI ((cg 0) - 1))) hi2 tyX2 tyX2_ok nmX2 0 rfl rfl 6 (by decide) (List.mem_of_getElem? (i := 1) rfl) rfl rfl rfl rfl (Nat.le_of_ble_eq_true rfl) dX2_look_11 (wS cI cZ zq za (sF zg 6 ((cg 0) - 1)) zh zk zF ++ (wC cI cZ cq ca cg cF)) rfl (fun H locs hW => ?_)
  refine x_aload_n X dX2_look_14 rfl (lv_at hl 1 rfl) ?_
  refine x_aload_n X dX2_look_15 rfl (lv_at hl 2 rfl) ?_
  refine x_get X hW (v := .int (nI (cg 1))) hi0 4 rfl rfl 1 (by decide) (List.mem_of_getElem? (i := 2) rfl) rfl rfl dX2_look_16 ?_
  refine x_put X hW (v := .int (nI (cg 1))) hi2 tyX2 tyX2_ok nmX2 0 rfl rfl 7 (by decide) (List.mem_of_getElem? (i := 3) rfl) rfl rfl rfl rfl (Nat.le_of_ble_eq_true rfl) dX2_look_19 (wS cI cZ zq za (sF (sF zg 6 ((cg 0) - 1)) 7 (cg 1)) zh zk zF ++ (wC cI cZ cq ca cg cF)) rfl (fun H locs hW => ?_)
  refine x_aload_n X dX2_look_22 rfl (lv_at hl 1 rfl) ?_
  refine x_iconst (v := nI 0) X dX2_look_23 (by decide) ?_
  refine x_put X hW (v := .int (nI 0)) hi2 tyX2 tyX2_ok nmX2 0 rfl rfl 8 (by decide) (List.mem_of_getElem? (i := 4) rfl) rfl rfl rfl rfl (Nat.le_of_ble_eq_true rfl) dX2_look_24 (wS cI cZ zq za (sF (sF (sF zg 6 ((cg 0) - 1)) 7 (cg 1)) 8 0) zh zk zF ++ (wC cI cZ cq ca cg cF)) rfl (fun H locs hW => ?_)
  refine x_iconst (v := nI 0) X dX2_look_27 (by decide) ?_
  refine x_istore X [(4, .int (nI 0)), (3, .int (nI (bt * 10000))), (0, .ref zq), (1, .ref cq), (2, .int (nI bt))] dX2_look_28 hl (by decide) rfl (fun ls hl => ?_)
  refine W.loop (σ := (Nat)) (fun u H locs ls => (u ≤ cg 0) ∧ Wd D A s.heap H locs (wS cI cZ zq za (sF (sF (sF zg 6 ((cg 0) - 1)) 7 (cg 1)) 8 (swN 0 (fun i => want (cF 2 i) (cF 4 i)) u)) zh zk zF ++ (wC cI cZ cq ca cg cF)) ∧ lv_has ls 6 [(4, .int (nI u)), (3, .int (nI (swN (bt * 10000) (cF 3) u))), (0, .ref zq), (1, .ref cq), (2, .int (nI bt))]) (fun u => cg 0 - u) (fun u H locs ls hI ih => ?_) 0 ⟨(show 0 ≤ cg 0 from (by omega)), (hW.eq (congrArg (fun z => (wS cI cZ zq za (sF (sF (sF zg 6 ((cg 0) - 1)) 7 (cg 1)) 8 z) zh zk zF ++ (wC cI cZ cq ca cg cF))) (show 0 = (swN 0 (fun i => want (cF 2 i) (cF 4 i)) 0) from by rfl))), hl⟩
  obtain ⟨x, xe⟩ : ∃ z, z = u := ⟨_, rfl⟩
  subst xe
  obtain ⟨hv, hW, hl⟩ := hI
  have hv : x ≤ cg 0 := hv
  have hW : Wd D A s.heap H locs (wS cI cZ zq za (sF (sF (sF zg 6 ((cg 0) - 1)) 7 (cg 1)) 8 (swN 0 (fun i => want (cF 2 i) (cF 4 i)) x)) zh zk zF ++ (wC cI cZ cq ca cg cF)) := hW
  have hl : lv_has ls 6 [(4, .int (nI x)), (3, .int (nI (swN (bt * 10000) (cF 3) x))), (0, .ref zq), (1, .ref cq), (2, .int (nI bt))] := hl
  have ih30 := ih
  refine x_iload X dX2_look_30 (lv_at hl 0 rfl) ?_
  refine x_aload_n X dX2_look_32 rfl (lv_at hl 2 rfl) ?_
  refine x_get X hW (v := .int (nI ((cg 0) - 1))) hi2 0 rfl rfl 6 (by decide) (List.mem_of_getElem? (i := 1) rfl) rfl rfl dX2_look_33 ?_
  refine n_icmp_gt X 81 dX2_look_36 (by decide) (by omega) (by omega) (fun c36 => ?_) (fun c36 => ?_)
  · have ex : x = cg 0 := by omega
    have e3 : swN (bt * 10000) (cF 3) x = wy (cg 0) bt (cF 3) := by rw [ex]; exact swN_wy h2 hn
    have e8 : swN 0 (fun i => want (cF 2 i) (cF 4 i)) x = wnN (cg 0) (cF 2) (cF 4) := by rw [ex]; exact swN_wy (b := 0) h2 hn
    have hW : Wd D A s.heap H locs (wS cI cZ zq za (sF (sF (sF zg 6 ((cg 0) - 1)) 7 (cg 1)) 8 (wnN (cg 0) (cF 2) (cF 4))) zh zk zF ++ (wC cI cZ cq ca cg cF)) := hW.eq (congrArg (fun z => (wS cI cZ zq za (sF (sF (sF zg 6 ((cg 0) - 1)) 7 (cg 1)) 8 z) zh zk zF ++ (wC cI cZ cq ca cg cF))) (show (swN 0 (fun i => want (cF 2 i) (cF 4 i)) x) = (wnN (cg 0) (cF 2) (cF 4)) from by exact e8))
    have hl : lv_has ls 6 [(4, .int (nI x)), (3, .int (nI (wy (cg 0) bt (cF 3)))), (0, .ref zq), (1, .ref cq), (2, .int (nI bt))] := by rw [← e3]; exact hl
    have hwn4 := wn_lt (n := cg 0) (kd := cF 2) hm
    have hs40 : wy (cg 0) bt (cF 3) < 40000 := wy_lt (fun i _ => hlv i) hbt
    have e1 : cg 0 - 1 + 1 = cg 0 := by omega
    refine x_aload_n X dX2_look_81 rfl (lv_at hl 2 rfl) ?_
    refine x_iload_n X dX2_look_82 rfl (lv_at hl 1 rfl) ?_
    refine x_callVl X hW (As := [.int (nI (wy (cg 0) bt (cF 3)))]) (rest := []) (wz := fun u => (wS cI cZ zq za (sF (sF (sF zg 6 ((cg 0) - 1)) 7 (cg 1)) 8 (wnN (cg 0) (cF 2) (cF 4))) zh zk zF ++ (wC cI cZ cq ca cg cF))) (c_X2_keyOf l D cI cZ cO zq za (sF (sF (sF zg 6 ((cg 0) - 1)) 7 (cg 1)) 8 (wnN (cg 0) (cF 2) (cF 4))) zh zk zF _ (wy (cg 0) bt (cF 3)) (show (wy (cg 0) bt (cF 3)) < 40000 from hs40) (show (wnN (cg 0) (cF 2) (cF 4)) < 10000 from hwn4) (show 1 ≤ ((cg 0) - 1) from (by first | assumption | omega)) (show ((cg 0) - 1) ≤ 3 from (by first | assumption | omega)) (show (cg 1) ≤ 3 from (by first | assumption | omega)) (show (zg 9) ≤ 1 from (by first | assumption | omega)) (show (zg 10) < 4 from (by first | assumption | omega)) (show (zg 11) ≤ 9 from (by first | assumption | omega))) (cwV 1 X.2.2.2.2.2.1 gX2_look_X2_keyOf rfl rfl rfl (by decide +kernel) ⟨Nat.le_of_ble_eq_true rfl, Nat.le_of_ble_eq_true rfl⟩) 0 2 rfl rfl rfl [0, 1, 2, 3] [4, 5, 6, 7] [4, 5, 6, 7, 0, 1, 2, 3] rfl rfl (by decide) (fun _ => rfl) rfl hl.1 rfl (Nat.le_of_ble_eq_true rfl) ⟨Nat.le_of_ble_eq_true rfl, Nat.le_of_ble_eq_true rfl⟩ dX2_look_83 (fun r3 u4 H locs w83 hW => ?_)
    have hW : Wd D A s.heap H locs (wS cI cZ zq za (sF (sF (sF zg 6 ((cg 0) - 1)) 7 (cg 1)) 8 (wnN (cg 0) (cF 2) (cF 4))) zh zk zF ++ (wC cI cZ cq ca cg cF)) := hW
    replace w83 : r3 = lN (keyN (wy (cg 0) bt (cF 3)) ((wnN (cg 0) (cF 2) (cF 4))) ((cg 1)) (((cg 0) - 1)) ((zg 9)) ((zg 10)) ((zg 11))) := w83
    subst w83
    refine x_lstore X [(4, .long (lN (keyN (wy (cg 0) bt (cF 3)) ((wnN (cg 0) (cF 2) (cF 4))) ((cg 1)) (((cg 0) - 1)) ((zg 9)) ((zg 10)) ((zg 11))))), (3, .int (nI (wy (cg 0) bt (cF 3)))), (0, .ref zq), (1, .ref cq), (2, .int (nI bt))] dX2_look_86 hl (by decide) rfl (fun ls hl => ?_)
    refine x_lload X dX2_look_88 (lv_at hl 0 rfl) ?_
    refine x_aload_n X dX2_look_90 rfl (lv_at hl 2 rfl) ?_
    refine x_get X hW (v := .long zk) hi2 0 rfl rfl 5 (by decide) (List.mem_of_getElem? (i := 5) rfl) rfl rfl dX2_look_91 ?_
    refine x_lcmp X dX2_look_94 ?_
    refine x_if_eq X 109 dX2_look_95 (by decide) (fun c95 => ?_) (fun c95 => ?_)
    · exact x_vret X hW rfl (zF 0, zF 1, zg 2, zF 3, zh 4, zk) ((by refine ⟨hsk, ?_⟩; have q := SK_hit hsk hs40 hwn4 (show cg 1 < 4 by omega) (show cg 0 - 1 < 4 by omega) (by omega) hgr (by omega) (lcmp_eq.mp c95); rw [e1] at q; exact q)) (congrArg (fun z => (wS cI cZ zq za (sF (sF (sF zg 6 z) 7 (cg 1)) 8 (wnN (cg 0) (cF 2) (cF 4))) zh zk zF ++ (wC cI cZ cq ca cg cF))) (show ((cg 0) - 1) = (cg 0 - 1) from by first | rfl | omega)) dX2_look_109
    · refine x_aload_n X dX2_look_98 rfl (lv_at hl 2 rfl) ?_
      refine x_lload X dX2_look_99 (lv_at hl 0 rfl) ?_
      refine x_put X hW (v := .long (lN (keyN (wy (cg 0) bt (cF 3)) ((wnN (cg 0) (cF 2) (cF 4))) ((cg 1)) (((cg 0) - 1)) ((zg 9)) ((zg 10)) ((zg 11))))) hi2 tyX2 tyX2_ok nmX2 0 rfl rfl 5 (by decide) (List.mem_of_getElem? (i := 5) rfl) rfl rfl rfl rfl (Nat.le_of_ble_eq_true rfl) dX2_look_101 (wS cI cZ zq za (sF (sF (sF zg 6 ((cg 0) - 1)) 7 (cg 1)) 8 (wnN (cg 0) (cF 2) (cF 4))) zh (lN (keyN (wy (cg 0) bt (cF 3)) ((wnN (cg 0) (cF 2) (cF 4))) ((cg 1)) (((cg 0) - 1)) ((zg 9)) ((zg 10)) ((zg 11)))) zF ++ (wC cI cZ cq ca cg cF)) rfl (fun H locs hW => ?_)
      refine x_aload_n X dX2_look_104 rfl (lv_at hl 2 rfl) ?_
      refine x_iload_n X dX2_look_105 rfl (lv_at hl 1 rfl) ?_
      have hvs0 : VS (cg 0 - 1 + 1) (wy (cg 0) bt (cF 3)) := by rw [e1]; exact VS_wy (fun i _ => hlv i) hbt
      refine x_callVv X hW (As := [.int (nI (wy (cg 0) bt (cF 3)))]) (rest := []) (wz := fun u => (wS cI cZ zq za (sF (sF (sF (sF zg 2 u.2.2.1) 6 ((cg 0) - 1)) 7 (cg 1)) 8 (wnN (cg 0) (cF 2) (cF 4))) (sF zh 4 u.2.2.2.2) (lN (keyN (wy (cg 0) bt (cF 3)) ((wnN (cg 0) (cF 2) (cF 4))) ((cg 1)) (((cg 0) - 1)) ((zg 9)) ((zg 10)) ((zg 11)))) (sF (sF (sF zF 0 u.1) 1 u.2.1) 3 u.2.2.2.1) ++ (wC cI cZ cq ca cg cF))) (c_X2_find l D cI cZ cO zq za (sF (sF (sF zg 6 ((cg 0) - 1)) 7 (cg 1)) 8 (wnN (cg 0) (cF 2) (cF 4))) zh (lN (keyN (wy (cg 0) bt (cF 3)) ((wnN (cg 0) (cF 2) (cF 4))) ((cg 1)) (((cg 0) - 1)) ((zg 9)) ((zg 10)) ((zg 11)))) zF _ (wy (cg 0) bt (cF 3)) (show VS (((cg 0) - 1) + 1) (wy (cg 0) bt (cF 3)) from hvs0) (show SI ((zF 0)) ((zF 1)) ((zg 2)) from hsk.1) (show (wnN (cg 0) (cF 2) (cF 4)) < 100000 from (show wnN (cg 0) (cF 2) (cF 4) < 100000 from by omega)) (show 1 ≤ ((cg 0) - 1) from (by first | assumption | omega)) (show ((cg 0) - 1) ≤ 3 from (by first | assumption | omega)) (show (cg 1) ≤ 3 from (by first | assumption | omega)) (show (zg 9) ≤ 1 from (by first | assumption | omega)) (show (zg 10) < 4 from (by first | assumption | omega)) (show (zg 11) ≤ 9 from (by first | assumption | omega))) (cwV 1 X.2.2.2.2.2.1 gX2_look_X2_find rfl rfl rfl (by decide +kernel) ⟨Nat.le_of_ble_eq_true rfl, Nat.le_of_ble_eq_true rfl⟩) 0 2 rfl rfl rfl [0, 1, 2, 3] [4, 5, 6, 7] [4, 5, 6, 7, 0, 1, 2, 3] rfl rfl (by decide) (fun _ => rfl) rfl hl.1 rfl (Nat.le_of_ble_eq_true rfl) ⟨Nat.le_of_ble_eq_true rfl, Nat.le_of_ble_eq_true rfl⟩ dX2_look_106 (fun u11 H locs w106 hW => ?_)
      obtain ⟨o1_5, o2_6, o3_7, o4_8, o5_9⟩ := u11
      have hW : Wd D A s.heap H locs (wS cI cZ zq za (sF (sF (sF (sF zg 2 o3_7) 6 ((cg 0) - 1)) 7 (cg 1)) 8 (wnN (cg 0) (cF 2) (cF 4))) (sF zh 4 o5_9) (lN (keyN (wy (cg 0) bt (cF 3)) ((wnN (cg 0) (cF 2) (cF 4))) ((cg 1)) (((cg 0) - 1)) ((zg 9)) ((zg 10)) ((zg 11)))) (sF (sF (sF zF 0 o1_5) 1 o2_6) 3 o4_8) ++ (wC cI cZ cq ca cg cF)) := hW
      replace w106 : SI o1_5 o2_6 o3_7 ∧ RowSt (nxW (((cg 0) - 1) + 1) ((cg 1)) ((wnN (cg 0) (cF 2) (cF 4)))) (((cg 0) - 1) + 1) (wy (cg 0) bt (cF 3)) (GZ ((zg 9)) ((zg 10)) ((zg 11))) o5_9 o4_8 := w106
      exact x_vret X hW rfl (o1_5, o2_6, o3_7, o4_8, o5_9, lN (keyN (wy (cg 0) bt (cF 3)) ((wnN (cg 0) (cF 2) (cF 4))) ((cg 1)) (((cg 0) - 1)) ((zg 9)) ((zg 10)) ((zg 11)))) ((by have q := w106.2; refine ⟨⟨w106.1, Or.inr ⟨_, _, _, _, _, _, _, ⟨hs40, hwn4, by omega, by omega, by omega, by omega, by omega⟩, rfl, q⟩⟩, ?_⟩; rw [e1] at q; exact q)) (congrArg (fun z => (wS cI cZ zq za (sF (sF (sF (sF zg 2 o3_7) 6 z) 7 (cg 1)) 8 (wnN (cg 0) (cF 2) (cF 4))) (sF zh 4 o5_9) (lN (keyN (wy (cg 0) bt (cF 3)) ((wnN (cg 0) (cF 2) (cF 4))) ((cg 1)) (((cg 0) - 1)) ((zg 9)) ((zg 10)) ((zg 11)))) (sF (sF (sF zF 0 o1_5) 1 o2_6) 3 o4_8) ++ (wC cI cZ cq ca cg cF))) (show ((cg 0) - 1) = (cg 0 - 1) from by first | rfl | omega)) dX2_look_109
  · refine x_iload_n X dX2_look_39 rfl (lv_at hl 1 rfl) ?_
    refine x_aload_n X dX2_look_40 rfl (lv_at hl 3 rfl) ?_
    refine x_iload X dX2_look_41 (lv_at hl 0 rfl) ?_
    have b1 := hlv x
    have b2 := want_le (cF 2 x) (cF 4 x)
    have b3 := hm x
    have b4 := wt_1000 x
    have b5 := swN_le (b := bt * 10000) hlv x
    have b6 := swN_le (b := 0) (f := (fun i => want (cF 2 i) (cF 4 i))) (fun i => Nat.le_trans (want_le _ _) (hm i)) x
    refine x_callVi X hW (As := [.int (nI x)]) (rest := [.int (nI (swN (bt * 10000) (cF 3) x))]) (wz := fun u => (wS cI cZ zq za (sF (sF (sF zg 6 ((cg 0) - 1)) 7 (cg 1)) 8 (swN 0 (fun i => want (cF 2 i) (cF 4 i)) x)) zh zk zF ++ (wC cI cZ cq ca cg cF))) (c_X0_levelOf l D cI cZ cO cq ca cg cF _ x (show x < (cg 0) from (by first | assumption | omega)) (show (cg 0) ≤ 4 from (by first | assumption | omega))) (cwV 1 X.2.2.2.2.2.1 gX2_look_X0_levelOf rfl rfl rfl (by decide +kernel) ⟨Nat.le_of_ble_eq_true rfl, Nat.le_of_ble_eq_true rfl⟩) 4 0 rfl rfl rfl [4, 5, 6, 7] [0, 1, 2, 3] [0, 1, 2, 3, 4, 5, 6, 7] rfl rfl (by decide) (fun _ => rfl) rfl hl.1 rfl (Nat.le_of_ble_eq_true rfl) ⟨Nat.le_of_ble_eq_true rfl, Nat.le_of_ble_eq_true rfl⟩ dX2_look_43 (fun r12 u13 H locs w43 hW => ?_)
    have hW : Wd D A s.heap H locs (wS cI cZ zq za (sF (sF (sF zg 6 ((cg 0) - 1)) 7 (cg 1)) 8 (swN 0 (fun i => want (cF 2 i) (cF 4 i)) x)) zh zk zF ++ (wC cI cZ cq ca cg cF)) := hW
    replace w43 : r12 = nI ((cF 3) x) := w43
    subst w43
    refine x_iload X dX2_look_46 (lv_at hl 0 rfl) ?_
    refine x_callSie X hW (As := [.int (nI x)]) (rest := [.int (nI ((cF 3) x)), .int (nI (swN (bt * 10000) (cF 3) x))]) (c_X2_weight l D cI cZ cO  _ x (show x < 4 from (by first | assumption | omega))) (va_cwS 1 X.2.2.2.2.2.1 gX2_look_X2_weight rfl rfl rfl (by decide +kernel) ⟨Nat.le_of_ble_eq_true rfl, Nat.le_of_ble_eq_true rfl⟩) rfl hl.1 rfl (Nat.le_of_ble_eq_true rfl) ⟨Nat.le_of_ble_eq_true rfl, Nat.le_of_ble_eq_true rfl⟩ dX2_look_48 (fun r14 u15 H locs w48 hW => ?_)
    have hW : Wd D A s.heap H locs (wS cI cZ zq za (sF (sF (sF zg 6 ((cg 0) - 1)) 7 (cg 1)) 8 (swN 0 (fun i => want (cF 2 i) (cF 4 i)) x)) zh zk zF ++ (wC cI cZ cq ca cg cF)) := hW
    replace w48 : r14 = nI (wt x) := w48
    subst w48
    refine n_imul X dX2_look_51 ?_
    refine n_iadd X dX2_look_52 ?_
    refine x_istore_n X [(3, .int (nI ((swN (bt * 10000) (cF 3) x) + (((cF 3) x) * wt x)))), (4, .int (nI x)), (0, .ref zq), (1, .ref cq), (2, .int (nI bt))] dX2_look_53 rfl hl (by decide) rfl (fun ls hl => ?_)
    refine x_aload_n X dX2_look_54 rfl (lv_at hl 2 rfl) ?_
    refine x_dup X dX2_look_55 rfl ?_
    refine x_get X hW (v := .int (nI (swN 0 (fun i => want (cF 2 i) (cF 4 i)) x))) hi2 0 rfl rfl 8 (by decide) (List.mem_of_getElem? (i := 4) rfl) rfl rfl dX2_look_56 ?_
    refine x_aload_n X dX2_look_59 rfl (lv_at hl 3 rfl) ?_
    refine x_iload X dX2_look_60 (lv_at hl 1 rfl) ?_
    refine x_callVi X hW (As := [.int (nI x)]) (rest := [.int (nI (swN 0 (fun i => want (cF 2 i) (cF 4 i)) x)), .ref zq]) (wz := fun u => (wS cI cZ zq za (sF (sF (sF zg 6 ((cg 0) - 1)) 7 (cg 1)) 8 (swN 0 (fun i => want (cF 2 i) (cF 4 i)) x)) zh zk zF ++ (wC cI cZ cq ca cg cF))) (c_X0_wantOf l D cI cZ cO cq ca cg cF _ x (show x < (cg 0) from (by first | assumption | omega)) (show (cg 0) ≤ 4 from (by first | assumption | omega)) (show ∀ z0, (cF 2) z0 ≤ 2 from (by first | assumption | omega)) (show ∀ z0, (cF 4) z0 ≤ 9 from (by first | assumption | omega))) (cwV 1 X.2.2.2.2.2.1 gX2_look_X0_wantOf rfl rfl rfl (by decide +kernel) ⟨Nat.le_of_ble_eq_true rfl, Nat.le_of_ble_eq_true rfl⟩) 4 0 rfl rfl rfl [4, 5, 6, 7] [0, 1, 2, 3] [0, 1, 2, 3, 4, 5, 6, 7] rfl rfl (by decide) (fun _ => rfl) rfl hl.1 rfl (Nat.le_of_ble_eq_true rfl) ⟨Nat.le_of_ble_eq_true rfl, Nat.le_of_ble_eq_true rfl⟩ dX2_look_62 (fun r16 u17 H locs w62 hW => ?_)
    have hW : Wd D A s.heap H locs (wS cI cZ zq za (sF (sF (sF zg 6 ((cg 0) - 1)) 7 (cg 1)) 8 (swN 0 (fun i => want (cF 2 i) (cF 4 i)) x)) zh zk zF ++ (wC cI cZ cq ca cg cF)) := hW
    replace w62 : r16 = nI (want ((cF 2) x) ((cF 4) x)) := w62
    subst w62
    refine x_iload X dX2_look_65 (lv_at hl 1 rfl) ?_
    refine x_callSie X hW (As := [.int (nI x)]) (rest := [.int (nI (want ((cF 2) x) ((cF 4) x))), .int (nI (swN 0 (fun i => want (cF 2 i) (cF 4 i)) x)), .ref zq]) (c_X2_weight l D cI cZ cO  _ x (show x < 4 from (by first | assumption | omega))) (va_cwS 1 X.2.2.2.2.2.1 gX2_look_X2_weight rfl rfl rfl (by decide +kernel) ⟨Nat.le_of_ble_eq_true rfl, Nat.le_of_ble_eq_true rfl⟩) rfl hl.1 rfl (Nat.le_of_ble_eq_true rfl) ⟨Nat.le_of_ble_eq_true rfl, Nat.le_of_ble_eq_true rfl⟩ dX2_look_67 (fun r18 u19 H locs w67 hW => ?_)
    have hW : Wd D A s.heap H locs (wS cI cZ zq za (sF (sF (sF zg 6 ((cg 0) - 1)) 7 (cg 1)) 8 (swN 0 (fun i => want (cF 2 i) (cF 4 i)) x)) zh zk zF ++ (wC cI cZ cq ca cg cF)) := hW
    replace w67 : r18 = nI (wt x) := w67
    subst w67
    refine n_imul X dX2_look_70 ?_
    refine n_iadd X dX2_look_71 ?_
    refine x_put X hW (v := .int (nI ((swN 0 (fun i => want (cF 2 i) (cF 4 i)) x) + ((want ((cF 2) x) ((cF 4) x)) * wt x)))) hi2 tyX2 tyX2_ok nmX2 0 rfl rfl 8 (by decide) (List.mem_of_getElem? (i := 4) rfl) rfl rfl rfl rfl (Nat.le_of_ble_eq_true rfl) dX2_look_72 (wS cI cZ zq za (sF (sF (sF zg 6 ((cg 0) - 1)) 7 (cg 1)) 8 ((swN 0 (fun i => want (cF 2 i) (cF 4 i)) x) + ((want ((cF 2) x) ((cF 4) x)) * wt x))) zh zk zF ++ (wC cI cZ cq ca cg cF)) rfl (fun H locs hW => ?_)
    refine x_iinc X [(4, .int (nI (x + 1))), (3, .int (nI ((swN (bt * 10000) (cF 3) x) + (((cF 3) x) * wt x)))), (0, .ref zq), (1, .ref cq), (2, .int (nI bt))] (k := 1) dX2_look_75 hl rfl (nI_inc1 x) (by decide) rfl (fun ls hl => ?_)
    refine x_goto X 30 dX2_look_78 (by decide) ?_
    exact ih30 (x + 1) _ _ _ ⟨(show (x + 1) ≤ cg 0 from (by omega)), (hW.eq (congrArg (fun z => (wS cI cZ zq za (sF (sF (sF zg 6 ((cg 0) - 1)) 7 (cg 1)) 8 z) zh zk zF ++ (wC cI cZ cq ca cg cF))) (show ((swN 0 (fun i => want (cF 2 i) (cF 4 i)) x) + ((want ((cF 2) x) ((cF 4) x)) * wt x)) = (swN 0 (fun i => want (cF 2 i) (cF 4 i)) (x + 1)) from by rfl))), lv_sub hl [0, 1, 2, 3, 4] rfl⟩ (by omega)
