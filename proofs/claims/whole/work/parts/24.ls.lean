
theorem k5 (x : Int32) : ¬ inR x 4 ∨ x = nI 0 ∨ x = nI 1 ∨ x = nI 2 ∨ x = nI 3 := by
  by_cases h : inR x 4
  · obtain ⟨j, hj, rfl⟩ := inR_ex h (by decide)
    rcases (show j = 0 ∨ j = 1 ∨ j = 2 ∨ j = 3 by omega) with rfl | rfl | rfl | rfl
    · exact Or.inr (Or.inl rfl)
    · exact Or.inr (Or.inr (Or.inl rfl))
    · exact Or.inr (Or.inr (Or.inr (Or.inl rfl)))
    · exact Or.inr (Or.inr (Or.inr (Or.inr rfl)))
  · exact Or.inl h
theorem inR_cl {x : Int32} {n : Nat} (h : inR x n) : x.toNatClampNeg < n := by
  have h1 := h.1
  have h2 := h.2
  show x.toInt.toNat < n
  omega
theorem RT_upd {tg : Nat → Nat → Nat} {tf : Nat → Nat → Int32} {sz : Nat → Int32} {ln : Nat → Nat} {sh : Nat → Int32} (h : RT tg tf sz ln sh) (j : Nat) {g' : Nat → Nat} {f' : Nat → Int32} {sz' : Nat → Int32} {ln' : Nat → Nat} {sh' : Nat → Int32} (h0 : g' 0 ≤ 1) (h1 : g' 1 ≤ 2) (h2 : g' 2 ≤ 60) (hl : ln' = sF ln j (g' 1)) (hs : (g' 0 = 0 ∧ sz' = sF sz j (-1)) ∨ (g' 0 = 1 ∧ sz' = sF sz j (nI (g' 2)))) (hu : ∀ x, (x < 60 * j ∨ 60 * j + 60 ≤ x) → sh' x = sh x) (hi : g' 0 = 1 → ∀ i, i < g' 2 → f' i = sh' (60 * j + i)) : RT (sF tg j g') (sF tf j f') sz' ln' sh' := by
  obtain ⟨a0, a1, a2, al, as, ac⟩ := h
  refine ⟨fun k => ?_, fun k => ?_, fun k => ?_, fun k => ?_, fun k hk => ?_, fun k hk hk2 i hi2 => ?_⟩
  · by_cases e : k = j
    · rw [e, sF_s]; exact h0
    · rw [sF_n _ _ e]; exact a0 k
  · by_cases e : k = j
    · rw [e, sF_s]; exact h1
    · rw [sF_n _ _ e]; exact a1 k
  · by_cases e : k = j
    · rw [e, sF_s]; exact h2
    · rw [sF_n _ _ e]; exact a2 k
  · by_cases e : k = j
    · rw [hl, e, sF_s, sF_s]
    · rw [hl, sF_n _ _ e, sF_n _ _ e]; exact al k
  · by_cases e : k = j
    · rw [e, sF_s]
      rcases hs with ⟨q1, q2⟩ | ⟨q1, q2⟩
      · exact Or.inl ⟨q1, by rw [q2, sF_s]⟩
      · exact Or.inr ⟨q1, by rw [q2, sF_s]⟩
    · rw [sF_n _ _ e]
      rcases hs with ⟨q1, q2⟩ | ⟨q1, q2⟩
      · rw [q2, sF_n _ _ e]; exact as k hk
      · rw [q2, sF_n _ _ e]; exact as k hk
  · by_cases e : k = j
    · subst e
      rw [sF_s] at hk2 hi2 ⊢
      exact hi hk2 i hi2
    · rw [sF_n _ _ e] at hk2 hi2 ⊢
      have z := a2 k
      rw [hu _ (by omega)]
      exact ac k hk hk2 i hi2
theorem RT_cells {tg : Nat → Nat → Nat} {tf tf' : Nat → Nat → Int32} {sz : Nat → Int32} {ln : Nat → Nat} {sh sh' : Nat → Int32} (h : RT tg tf sz ln sh) (hc : ∀ k, k < 4 → tg k 0 = 1 → ∀ i, i < tg k 2 → tf' k i = sh' (60 * k + i)) : RT tg tf' sz ln sh' := ⟨h.1, h.2.1, h.2.2.1, h.2.2.2.1, h.2.2.2.2.1, hc⟩
theorem RT_same {tg : Nat → Nat → Nat} {tf : Nat → Nat → Int32} {sz : Nat → Int32} {ln : Nat → Nat} {sh : Nat → Int32} (h : RT tg tf sz ln sh) (j : Nat) : RT (sF tg j (sF (sF (sF (tg j) 0 (tg j 0)) 1 (tg j 1)) 2 (tg j 2))) (sF tf j (tf j)) sz ln sh := by
  rw [sF_id (tg j) 0, sF_id (tg j) 1, sF_id (tg j) 2, sF_id tg j, sF_id tf j]; exact h
theorem RT_sheet {tg : Nat → Nat → Nat} {tf : Nat → Nat → Int32} {sz : Nat → Int32} {ln : Nat → Nat} {sh : Nat → Int32} (h : RT tg tf sz ln sh) {j : Nat} (hj : j < 4) {k lane n : Int32} (hkj : ¬ inR k 4 ∨ k = nI j) : RT (sF tg j (sF (sF (sF (tg j) 0 (sSh k lane n (tg j 0) (fun _ _ => 1))) 1 (sSh k lane n (tg j 1) (fun l _ => l))) 2 (sSh k lane n (tg j 2) (fun _ m => m)))) (sF tf j (sSh k lane n (tf j) (fun _ _ => fill60 (nI 0) (tf j)))) (sSheet k lane n sz (fun j _ m => sF sz j (nI m))) (sSheet k lane n ln (fun j l _ => sF ln j l)) (sSheet k lane n sh (fun j _ m => zr sh (60 * j) m)) := by
  unfold sSh sSheet
  rcases hkj with hk | rfl
  · simp only [onR_out hk]
    exact RT_same h j
  · simp only [onR_in hj (show 4 ≤ 2 ^ 31 by decide)]
    by_cases hl : inR lane 3
    · obtain ⟨l, hl2, rfl⟩ := inR_ex hl (by decide)
      simp only [onR_in hl2 (show 3 ≤ 2 ^ 31 by decide)]
      by_cases hn : inR n 61
      · obtain ⟨m, hm, rfl⟩ := inR_ex hn (by decide)
        simp only [onR_in hm (show 61 ≤ 2 ^ 31 by decide)]
        refine RT_upd h j (Nat.le_refl 1) (show l ≤ 2 by omega) (show m ≤ 60 by omega) rfl (Or.inr ⟨rfl, rfl⟩) (fun x hx => ?_) (fun _ i hi => ?_)
        · unfold zr; rw [if_neg (by omega)]
        · have hi : i < m := hi
          unfold zr fill60
          rw [if_pos (by omega), if_pos (by omega)]
      · simp only [onR_out hn]
        exact RT_same h j
    · simp only [onR_out hl]
      exact RT_same h j
theorem RT_lose {tg : Nat → Nat → Nat} {tf : Nat → Nat → Int32} {sz : Nat → Int32} {ln : Nat → Nat} {sh : Nat → Int32} (h : RT tg tf sz ln sh) {j : Nat} (hj : j < 4) {k : Int32} (hkj : ¬ inR k 4 ∨ k = nI j) : RT (sF tg j (sF (tg j) 0 (onR k 4 (tg j 0) (fun _ => 0)))) tf (onR k 4 sz (fun j => sF sz j (-1))) ln sh := by
  rcases hkj with hk | rfl
  · simp only [onR_out hk]
    rw [sF_id (tg j) 0, sF_id tg j]; exact h
  · simp only [onR_in hj (show 4 ≤ 2 ^ 31 by decide)]
    have z := RT_upd h j (g' := sF (tg j) 0 0) (f' := tf j) (sz' := sF sz j (-1)) (ln' := ln) (sh' := sh) (Nat.zero_le 1) (h.2.1 j) (h.2.2.1 j) (by
      show ln = sF ln j (tg j 1)
      rw [← h.2.2.2.1 j, sF_id]) (Or.inl ⟨rfl, rfl⟩) (fun _ _ => rfl) (fun q => absurd (show (0 : Nat) = 1 from q) (by decide))
    rw [sF_id tf j] at z
    exact z
theorem RT_put {tg : Nat → Nat → Nat} {tf : Nat → Nat → Int32} {sz : Nat → Int32} {ln : Nat → Nat} {sh : Nat → Int32} (h : RT tg tf sz ln sh) {j : Nat} (hj : j < 4) {k i v : Int32} (hkj : ¬ inR k 4 ∨ k = nI j) : RT tg (sF tf j (onR k 4 (tf j) (fun _ => if cellF (tg j 0) (tg j 2) i = 0 then sF (tf j) i.toNatClampNeg (cutI (tg j 1) v) else tf j))) sz ln (sPut (fun z => tg z 0) (fun z => tg z 2) ln k i v sh 60) := by
  have ac := h.2.2.2.2.2
  have a2 := h.2.2.1
  unfold sPut
  rcases hkj with hk | rfl
  · simp only [onR_out hk]
    rw [sF_id tf j]; exact h
  · simp only [onR_in hj (show 4 ≤ 2 ^ 31 by decide)]
    by_cases hz : cellF (tg j 0) (tg j 2) i = 0
    · rw [if_pos hz, if_pos hz]
      obtain ⟨-, hp⟩ := cellF_0 hz
      have a2j := a2 j
      obtain ⟨ii, hii, rfl⟩ := inR_ex hp (by omega)
      rw [nI_clamp (by omega)]
      refine RT_cells h (fun x hx hx2 y hy => ?_)
      have a2x := a2 x
      by_cases e : x = j
      · rw [e] at hx2 hy ⊢
        rw [sF_s, sF_ap, sF_ap]
        by_cases e2 : y = ii
        · rw [if_pos e2, if_pos (by omega), h.2.2.2.1 j]
        · rw [if_neg e2, if_neg (by omega)]; exact ac j hj hx2 y hy
      · rw [sF_n _ _ e, sF_ap, if_neg (by omega)]; exact ac x hx hx2 y hy
    · rw [if_neg hz, if_neg hz, sF_id tf j]; exact h
theorem RT_copy {tg : Nat → Nat → Nat} {tf : Nat → Nat → Int32} {sz : Nat → Int32} {ln : Nat → Nat} {sh : Nat → Int32} (h : RT tg tf sz ln sh) {ja jb : Nat} (hja : ja < 4) (hjb : jb < 4) {k i o j n : Int32} (hkj : ¬ inR k 4 ∨ k = nI ja) (hoj : ¬ inR o 4 ∨ o = nI jb) : RT tg (sF tf jb (onR k 4 (tf jb) (fun _ => onR o 4 (tf jb) (fun _ => if copF (fun z => tg z 0) ln (fun z => tg z 2) ja jb i j n = 0 then mv (tf jb) (tf ja) j.toNatClampNeg i.toNatClampNeg n.toNatClampNeg else tf jb)))) sz ln (sCopy (fun z => tg z 0) ln (fun z => tg z 2) k i o j n sh) := by
  have ac := h.2.2.2.2.2
  have a0 := h.1
  have a2 := h.2.2.1
  unfold sCopy
  rcases hkj with hk | rfl
  · simp only [onR_out hk]
    rw [sF_id tf jb]; exact h
  · simp only [onR_in hja (show 4 ≤ 2 ^ 31 by decide)]
    rcases hoj with ho | rfl
    · simp only [onR_out ho]
      rw [sF_id tf jb]; exact h
    · simp only [onR_in hjb (show 4 ≤ 2 ^ 31 by decide)]
      by_cases hz : copF (fun z => tg z 0) ln (fun z => tg z 2) ja jb i j n = 0
      · rw [if_pos hz, if_pos hz]
        obtain ⟨b1, -, -, b4, b5, b6, b7, b8⟩ := cop_0 hz
        have b1 : tg ja 0 ≠ 0 := b1
        have b7 : i.toInt + n.toInt ≤ tg ja 2 := b7
        have b8 : j.toInt + n.toInt ≤ tg jb 2 := b8
        have a0a := a0 ja
        have a2a := a2 ja
        have a2b := a2 jb
        obtain ⟨ii, hii, rfl⟩ := inR_ex (x := i) (n := tg ja 2 + 1) ⟨b4, by omega⟩ (by omega)
        obtain ⟨jj, hjj, rfl⟩ := inR_ex (x := j) (n := tg jb 2 + 1) ⟨b5, by omega⟩ (by omega)
        obtain ⟨nn, hnn, rfl⟩ := inR_ex (x := n) (n := tg ja 2 + 1) ⟨b6, by omega⟩ (by omega)
        rw [nI_toInt (by omega), nI_toInt (by omega)] at b7 b8
        rw [nI_clamp (by omega), nI_clamp (by omega), nI_clamp (by omega)]
        refine RT_cells h (fun x hx hx2 y hy => ?_)
        have a2x := a2 x
        by_cases e : x = jb
        · rw [e] at hx2 hy ⊢
          rw [sF_s]
          unfold mv
          by_cases e2 : jj ≤ y ∧ y < jj + nn
          · rw [if_pos e2, if_pos (by omega), ac ja hja (by omega) (ii + (y - jj)) (by omega)]
            congr 1; omega
          · rw [if_neg e2, if_neg (by omega)]; exact ac jb hjb hx2 y hy
        · rw [sF_n _ _ e]
          unfold mv
          rw [if_neg (by omega)]; exact ac x hx hx2 y hy
      · rw [if_neg hz, if_neg hz, sF_id tf jb]; exact h
theorem kl_le (c : Int32) : kl c ≤ 2 := by
  unfold kl
  split
  · omega
  · split <;> omega
theorem isD_dgt {c : Int32} {k : Nat} (h : isD c k) (hk : k ≤ 9) : dgt c ≤ k := by
  obtain ⟨v, hv, e⟩ := h
  rw [dgt_of e (by omega)]; exact hv
theorem cpN_le2 {n b : Nat} {f g : Nat → Nat} (hf : ∀ i, i < n → f i ≤ b) (hg : ∀ i, g i ≤ b) : ∀ i, cpN n f g i ≤ b := by
  intro i
  by_cases q : i < n
  · rw [cpN_in q]; exact hf i q
  · rw [cpN_out (by omega)]; exact hg i
theorem wh_dg {cf : Nat → Int32} {n : Nat} (h : wholeP cf n) : dgt (cf 1) ≤ 3 ∧ (∀ i, i < (n - 2) / 4 → tL cf i ≤ 9) ∧ ∀ i, i < (n - 2) / 4 → tM cf i ≤ 9 := by
  obtain ⟨h1, h2, h3, h4⟩ := h
  refine ⟨isD_dgt (goN1.mp (h1 1 (by omega))) (by decide), fun i hi => ?_, fun i hi => ?_⟩
  · exact isD_dgt ((goN4 (k := i) (Or.inl rfl)).mp (h1 (2 + 4 * i + 2) (by omega))) (by decide)
  · exact isD_dgt ((goN4 (k := i) (Or.inr rfl)).mp (h1 (2 + 4 * i + 3) (by omega))) (by decide)
theorem sCanal_cases (th ln ct : Nat → Nat) (cs : Nat → Nat → Int32) (k lane i n : Int32) : (∀ (α : Type) (old : α) (new : (Nat → Int32) → Nat → α), sCanal th ln ct cs k lane i n old new = old) ∨ ∃ (cf : Nat → Int32) (N : Nat), wholeP cf N ∧ ∀ (α : Type) (old : α) (new : (Nat → Int32) → Nat → α), sCanal th ln ct cs k lane i n old new = new cf N := by
  by_cases hk : inR k 4
  · obtain ⟨j, hj, rfl⟩ := inR_ex hk (by decide)
    by_cases hl : inR lane 3
    · obtain ⟨l, hl2, rfl⟩ := inR_ex hl (by decide)
      by_cases hw : barF (th j) (ln j) (ct j) (nI l) i n = 0 ∧ wholeP (fun z => cs j (i.toNatClampNeg + z)) n.toNatClampNeg
      · refine Or.inr ⟨_, _, hw.2, fun α old new => ?_⟩
        unfold sCanal
        rw [onR_in hj (by decide), onR_in hl2 (by decide), if_pos hw]
      · refine Or.inl (fun α old new => ?_)
        unfold sCanal
        rw [onR_in hj (by decide), onR_in hl2 (by decide), if_neg hw]
    · refine Or.inl (fun α old new => ?_)
      unfold sCanal
      rw [onR_in hj (by decide), onR_out hl]
  · refine Or.inl (fun α old new => ?_)
    unfold sCanal
    rw [onR_out hk]
theorem RC_canal {n rn : Nat} {kd lv lm : Nat → Nat} {n' rn' : Nat} {kd' lv' lm' : Nat → Nat} (h : RC n rn kd lv lm n' rn' kd' lv' lm') (th ln ct : Nat → Nat) (cs : Nat → Nat → Int32) (k lane i n0 : Int32) : RC (sCanal th ln ct cs k lane i n0 n (fun _ n => (n - 2) / 4)) (sCanal th ln ct cs k lane i n0 rn (fun cf _ => dgt (cf 1))) (sCanal th ln ct cs k lane i n0 kd (fun cf n => cpN ((n - 2) / 4) (tK cf) kd)) (sCanal th ln ct cs k lane i n0 lv (fun cf n => cpN ((n - 2) / 4) (tL cf) lv)) (sCanal th ln ct cs k lane i n0 lm (fun cf n => cpN ((n - 2) / 4) (tM cf) lm)) (sCanal th ln ct cs k lane i n0 n' (fun _ n => (n - 2) / 4)) (sCanal th ln ct cs k lane i n0 rn' (fun cf _ => dgt (cf 1))) (sCanal th ln ct cs k lane i n0 kd' (fun cf n => cpN ((n - 2) / 4) (tK cf) kd')) (sCanal th ln ct cs k lane i n0 lv' (fun cf n => cpN ((n - 2) / 4) (tL cf) lv')) (sCanal th ln ct cs k lane i n0 lm' (fun cf n => cpN ((n - 2) / 4) (tM cf) lm')) := by
  obtain ⟨a1, a2, a3, a4, a5, a6, rfl, rfl, rfl, rfl, rfl⟩ := h
  rcases sCanal_cases th ln ct cs k lane i n0 with e | ⟨cf, N, hw, e⟩
  · simp only [e]
    exact ⟨a1, a2, a3, a4, a5, a6, rfl, rfl, rfl, rfl, rfl⟩
  · simp only [e]
    obtain ⟨d1, d2, d3⟩ := wh_dg hw
    obtain ⟨-, w1, w2, w3⟩ := hw
    exact ⟨Or.inr (by omega), by omega, d1, cpN_le2 (fun i _ => kl_le _) a4, cpN_le2 d2 a5, cpN_le2 d3 a6, rfl, rfl, rfl, rfl, rfl⟩
theorem RR_canal {n rc : Nat} {ro : Nat → Nat} {ra : Nat → Int32} {rd : Nat → Nat} {rc' : Nat} {ro' : Nat → Nat} {ra' : Nat → Int32} {rd' : Nat → Nat} (h : RR n rc ro ra rd rc' ro' ra' rd') (th ln ct : Nat → Nat) (cs : Nat → Nat → Int32) (k lane i n0 : Int32) : RR (sCanal th ln ct cs k lane i n0 n (fun _ n => (n - 2) / 4)) (sCanal th ln ct cs k lane i n0 rc (fun _ _ => 0)) ro ra rd (sCanal th ln ct cs k lane i n0 rc' (fun _ _ => 0)) ro' ra' rd' := by
  obtain ⟨a1, a2, a3, a4, rfl, rfl, rfl, rfl⟩ := h
  rcases sCanal_cases th ln ct cs k lane i n0 with e | ⟨cf, N, hw, e⟩
  · simp only [e]
    exact ⟨a1, a2, a3, a4, rfl, rfl, rfl, rfl⟩
  · simp only [e]
    exact ⟨Nat.zero_le _, fun z hz => absurd hz (Nat.not_lt_zero z), fun z hz => absurd hz (Nat.not_lt_zero z), a4, rfl, rfl, rfl, rfl⟩
theorem RR_read {n rc : Nat} {ro : Nat → Nat} {ra : Nat → Int32} {rd : Nat → Nat} {n' rc' : Nat} {ro' : Nat → Nat} {ra' : Nat → Int32} {rd' : Nat → Nat} (h : RR n rc ro ra rd rc' ro' ra' rd') (hn : n' = n) (q v : Int32) {d : Nat} (hd : d ≤ 1) (h4 : n ≤ 4) : RR n (sRead n rc q v rc (fun _ => rc + 1)) (sRead n rc q v ro (fun j => sF ro rc j)) (sRead n rc q v ra (fun _ => sF ra rc v)) (sRead n rc q v rd (fun _ => sF rd rc d)) (sRead n' rc' q v rc' (fun _ => rc' + 1)) (sRead n' rc' q v ro' (fun j => sF ro' rc' j)) (sRead n' rc' q v ra' (fun _ => sF ra' rc' v)) (sRead n' rc' q v rd' (fun _ => sF rd' rc' d)) := by
  obtain ⟨a1, a2, a3, a4, rfl, rfl, rfl, rfl⟩ := h
  subst hn
  unfold sRead
  by_cases hq : inR q n'
  · obtain ⟨j, hj, rfl⟩ := inR_ex hq (by omega)
    simp only [onR_in hj (show n' ≤ 2 ^ 31 by omega)]
    by_cases hv : v = -9 ∨ inR v 10
    · simp only [if_neg (not_not_intro hv)]
      by_cases hc : rc' = 8
      · simp only [if_pos hc]
        exact ⟨a1, a2, a3, a4, rfl, rfl, rfl, rfl⟩
      · simp only [if_neg hc]
        refine ⟨by omega, fun z hz => ?_, fun z hz => ?_, sF_le a4 hd, rfl, rfl, rfl, rfl⟩
        · by_cases e : z = rc'
          · rw [e, sF_s]; exact hj
          · rw [sF_n _ _ e]; exact a2 z (by omega)
        · by_cases e : z = rc'
          · rw [e, sF_s]; exact hv
          · rw [sF_n _ _ e]; exact a3 z (by omega)
    · simp only [if_pos hv]
      exact ⟨a1, a2, a3, a4, rfl, rfl, rfl, rfl⟩
  · simp only [onR_out hq]
    exact ⟨a1, a2, a3, a4, rfl, rfl, rfl, rfl⟩
set_option maxHeartbeats 4000000 in
set_option maxRecDepth 100000 in
theorem law_sheet_0 {p : Program} {e : Env} {s : State} {m : MethodId} {below : List Frame} {meth : Method} {c : Code} {D : va_G} {cI cZ cO : ClassId} {A : Nat → Prop} {Q : State → Prop} {l : Launch} {b L xq mq i : Nat} {xs : Nat → Int32} {H : Heap} {locs : List Loc} {ls : Array Slot} (X : Fx p s m #[Value.ref b] meth c code 4 ret wsL_law RL D (ty3 cI cZ cO) A) (hX : va_X b L xs s s.heap) (hbl : b < s.heap.size) (hbA : ¬ A b) (hL : L ≤ 3072) (hi : i + 6 ≤ L) (hI : lw_I D cI cZ cO A s.heap xq mq H locs) (hl : lv_has ls 4 [(3, .int (nI i)), (2, .ref mq), (1, .ref xq), (0, .ref b)]) (hkj : ¬ inR (xs (i + 1)) 4 ∨ xs (i + 1) = nI 0) (next : ∀ (H : Heap) (locs : List Loc) (ls : Array Slot), lw_I D cI cZ cO A s.heap xq mq H locs → lv_has ls 4 [(3, .int (nI i)), (2, .ref mq), (1, .ref xq), (0, .ref b)] → W p l e room_1 s m #[Value.ref b] below meth c H locs 600000 7302250 Q (F0 m 1045 ls [])) : W p l e room_1 s m #[Value.ref b] below meth c H locs 600000 7302250 Q (F0 m 701 ls []) := by
  obtain ⟨xa, xg, xh, ys, ca, cg, cF, da, dg, dF, ra, rg, rF, rE, za, zg, zh, zk, zF, ma, mg, mh, mF, mE, ta, tg, tf, hW, hRC, hRR, hRD, hSK, hRT, hRX, hRM⟩ := hI
  have hW : Wd D A s.heap H locs (wX cI cZ xq xa xg xh ++ (wA cO (xa 0) ys ++ (wC cI cZ (xa 1) ca cg cF ++ (wC cI cZ (xa 2) da dg dF ++ (wR cI cZ (xa 3) ra rg rF rE ++ (wS cI cZ (xa 4) za zg zh zk zF ++ (wT cI cZ (ys 0) (ta 0) (tg 0) ++ (wB cI ((ta 0) 3) (tf 0) ++ (wT cI cZ (ys 1) (ta 1) (tg 1) ++ (wB cI ((ta 1) 3) (tf 1) ++ (wT cI cZ (ys 2) (ta 2) (tg 2) ++ (wB cI ((ta 2) 3) (tf 2) ++ (wT cI cZ (ys 3) (ta 3) (tg 3) ++ (wB cI ((ta 3) 3) (tf 3) ++ (wM cI cZ mq ma mg mh mF mE))))))))))))))) := hW
  obtain ⟨h02, hn, hrn, hk, hlv, hm, e2, e1, e3, e4, e5⟩ := id hRC
  obtain ⟨hrc, hro, hra, hrd, f1, f2, f3, f4⟩ := id hRR
  obtain ⟨hdn, hdr, hdk, hdl, hdm⟩ := id hRD
  obtain ⟨ht0, ht1, ht2, htl, hts, htc⟩ := id hRT
  refine x_aload_n X dL_law_701 rfl (lv_at hl 2 rfl) ?_
  refine x_aload_n X dL_law_702 rfl (lv_at hl 3 rfl) ?_
  refine x_iload_n X dL_law_703 rfl (lv_at hl 0 rfl) ?_
  refine x_iconst (v := nI 1) X dL_law_704 (by decide) ?_
  refine n_iadd X dL_law_705 ?_
  refine x_sld X hW hX hbl hbA (j := i + 1) (by omega) (by omega) dL_law_706 ?_
  refine x_aload_n X dL_law_707 rfl (lv_at hl 3 rfl) ?_
  refine x_iload_n X dL_law_708 rfl (lv_at hl 0 rfl) ?_
  refine x_iconst (v := nI 2) X dL_law_709 (by decide) ?_
  refine n_iadd X dL_law_710 ?_
  refine x_sld X hW hX hbl hbA (j := i + 2) (by omega) (by omega) dL_law_711 ?_
  refine x_aload_n X dL_law_712 rfl (lv_at hl 3 rfl) ?_
  refine x_iload_n X dL_law_713 rfl (lv_at hl 0 rfl) ?_
  refine x_iconst (v := nI 3) X dL_law_714 (by decide) ?_
  refine n_iadd X dL_law_715 ?_
  refine x_sld X hW hX hbl hbA (j := i + 3) (by omega) (by omega) dL_law_716 ?_
  refine x_pcallVi X hW (As := [.int (xs (i + 1)), .int (xs (i + 2)), .int (xs (i + 3))]) (rest := []) (wz := fun u => (wX cI cZ xq xa (sF xg 6 (fSheet (xs (i + 1)) (xs (i + 2)) (xs (i + 3)))) xh ++ (wA cO (xa 0) ys ++ (wC cI cZ (xa 1) ca cg cF ++ (wC cI cZ (xa 2) da dg dF ++ (wR cI cZ (xa 3) ra rg rF rE ++ (wS cI cZ (xa 4) za zg zh zk zF ++ (wT cI cZ (ys 0) (ta 0) (sF (sF (sF (tg 0) 0 (sSh (xs (i + 1)) (xs (i + 2)) (xs (i + 3)) (((tg 0) 0)) (fun _ _ => 1))) 1 (sSh (xs (i + 1)) (xs (i + 2)) (xs (i + 3)) (((tg 0) 1)) (fun ln _ => ln))) 2 (sSh (xs (i + 1)) (xs (i + 2)) (xs (i + 3)) (((tg 0) 2)) (fun _ m => m))) ++ (wB cI ((ta 0) 3) (sSh (xs (i + 1)) (xs (i + 2)) (xs (i + 3)) ((tf 0)) (fun _ _ => fill60 (nI 0) (tf 0))) ++ (wT cI cZ (ys 1) (ta 1) (tg 1) ++ (wB cI ((ta 1) 3) (tf 1) ++ (wT cI cZ (ys 2) (ta 2) (tg 2) ++ (wB cI ((ta 2) 3) (tf 2) ++ (wT cI cZ (ys 3) (ta 3) (tg 3) ++ (wB cI ((ta 3) 3) (tf 3) ++ (wM cI cZ mq ma mg mh mF mE)))))))))))))))) (wC cI cZ (xa 1) ca cg cF ++ (wC cI cZ (xa 2) da dg dF ++ (wR cI cZ (xa 3) ra rg rF rE ++ (wS cI cZ (xa 4) za zg zh zk zF ++ (wT cI cZ (ys 1) (ta 1) (tg 1) ++ (wB cI ((ta 1) 3) (tf 1) ++ (wT cI cZ (ys 2) (ta 2) (tg 2) ++ (wB cI ((ta 2) 3) (tf 2) ++ (wT cI cZ (ys 3) (ta 3) (tg 3) ++ (wB cI ((ta 3) 3) (tf 3) ++ (wM cI cZ mq ma mg mh mF mE))))))))))) (c_X5_sheet l D cI cZ cO xq xa xg xh ys (ta 0) (tg 0) (tf 0) _ (xs (i + 1)) (xs (i + 2)) (xs (i + 3)) 0 (show 0 < 4 from (by decide)) (show ¬ inR (xs (i + 1)) 4 ∨ (xs (i + 1)) = nI 0 from hkj)) (cwV 3 X.2.2.2.2.2.1 gL_law_X5_sheet rfl rfl rfl (by decide +kernel) ⟨Nat.le_of_ble_eq_true rfl, Nat.le_of_ble_eq_true rfl⟩) 4 rfl rfl rfl (apn (mfr _ _) (apn (mfr _ _) (apn (mf (mf (mf (mf (mfr _ _))))) (mf (mf (mf (mf (mfr _ _)))))))) (fun u => (apn (mfr _ _) (apn (mfr _ _) (apn (mf (mf (mf (mf (mfr _ _))))) (mf (mf (mf (mf (mfr _ _))))))))) rfl hl.1 rfl (Nat.le_of_ble_eq_true rfl) ⟨Nat.le_of_ble_eq_true rfl, Nat.le_of_ble_eq_true rfl⟩ dL_law_717 (fun r1 u2 H locs w717 hW => ?_)
  have hW : Wd D A s.heap H locs (wX cI cZ xq xa (sF xg 6 (fSheet (xs (i + 1)) (xs (i + 2)) (xs (i + 3)))) xh ++ (wA cO (xa 0) ys ++ (wC cI cZ (xa 1) ca cg cF ++ (wC cI cZ (xa 2) da dg dF ++ (wR cI cZ (xa 3) ra rg rF rE ++ (wS cI cZ (xa 4) za zg zh zk zF ++ (wT cI cZ (ys 0) (ta 0) (sF (sF (sF (tg 0) 0 (sSh (xs (i + 1)) (xs (i + 2)) (xs (i + 3)) (((tg 0) 0)) (fun _ _ => 1))) 1 (sSh (xs (i + 1)) (xs (i + 2)) (xs (i + 3)) (((tg 0) 1)) (fun ln _ => ln))) 2 (sSh (xs (i + 1)) (xs (i + 2)) (xs (i + 3)) (((tg 0) 2)) (fun _ m => m))) ++ (wB cI ((ta 0) 3) (sSh (xs (i + 1)) (xs (i + 2)) (xs (i + 3)) ((tf 0)) (fun _ _ => fill60 (nI 0) (tf 0))) ++ (wT cI cZ (ys 1) (ta 1) (tg 1) ++ (wB cI ((ta 1) 3) (tf 1) ++ (wT cI cZ (ys 2) (ta 2) (tg 2) ++ (wB cI ((ta 2) 3) (tf 2) ++ (wT cI cZ (ys 3) (ta 3) (tg 3) ++ (wB cI ((ta 3) 3) (tf 3) ++ (wM cI cZ mq ma mg mh mF mE))))))))))))))) := hW
  replace w717 : r1 = aSheet (xs (i + 1)) (xs (i + 2)) (xs (i + 3)) := w717
  subst w717
  refine x_aload_n X dL_law_720 rfl (lv_at hl 1 rfl) ?_
  refine x_aload_n X dL_law_721 rfl (lv_at hl 3 rfl) ?_
  refine x_iload_n X dL_law_722 rfl (lv_at hl 0 rfl) ?_
  refine x_iconst (v := nI 1) X dL_law_723 (by decide) ?_
  refine n_iadd X dL_law_724 ?_
  refine x_sld X hW hX hbl hbA (j := i + 1) (by omega) (by omega) dL_law_725 ?_
  refine x_aload_n X dL_law_726 rfl (lv_at hl 3 rfl) ?_
  refine x_iload_n X dL_law_727 rfl (lv_at hl 0 rfl) ?_
  refine x_iconst (v := nI 2) X dL_law_728 (by decide) ?_
  refine n_iadd X dL_law_729 ?_
  refine x_sld X hW hX hbl hbA (j := i + 2) (by omega) (by omega) dL_law_730 ?_
  refine x_aload_n X dL_law_731 rfl (lv_at hl 3 rfl) ?_
  refine x_iload_n X dL_law_732 rfl (lv_at hl 0 rfl) ?_
  refine x_iconst (v := nI 3) X dL_law_733 (by decide) ?_
  refine n_iadd X dL_law_734 ?_
  refine x_sld X hW hX hbl hbA (j := i + 3) (by omega) (by omega) dL_law_735 ?_
  refine x_pcallVi X hW (As := [.int (xs (i + 1)), .int (xs (i + 2)), .int (xs (i + 3))]) (rest := [.int (aSheet (xs (i + 1)) (xs (i + 2)) (xs (i + 3)))]) (wz := fun u => (wX cI cZ xq xa (sF xg 6 (fSheet (xs (i + 1)) (xs (i + 2)) (xs (i + 3)))) xh ++ (wA cO (xa 0) ys ++ (wC cI cZ (xa 1) ca cg cF ++ (wC cI cZ (xa 2) da dg dF ++ (wR cI cZ (xa 3) ra rg rF rE ++ (wS cI cZ (xa 4) za zg zh zk zF ++ (wT cI cZ (ys 0) (ta 0) (sF (sF (sF (tg 0) 0 (sSh (xs (i + 1)) (xs (i + 2)) (xs (i + 3)) (((tg 0) 0)) (fun _ _ => 1))) 1 (sSh (xs (i + 1)) (xs (i + 2)) (xs (i + 3)) (((tg 0) 1)) (fun ln _ => ln))) 2 (sSh (xs (i + 1)) (xs (i + 2)) (xs (i + 3)) (((tg 0) 2)) (fun _ m => m))) ++ (wB cI ((ta 0) 3) (sSh (xs (i + 1)) (xs (i + 2)) (xs (i + 3)) ((tf 0)) (fun _ _ => fill60 (nI 0) (tf 0))) ++ (wT cI cZ (ys 1) (ta 1) (tg 1) ++ (wB cI ((ta 1) 3) (tf 1) ++ (wT cI cZ (ys 2) (ta 2) (tg 2) ++ (wB cI ((ta 2) 3) (tf 2) ++ (wT cI cZ (ys 3) (ta 3) (tg 3) ++ (wB cI ((ta 3) 3) (tf 3) ++ (wM cI cZ mq ma (sF mg 0 (fSheet (xs (i + 1)) (xs (i + 2)) (xs (i + 3)))) mh (sF mF 26 (sSheet (xs (i + 1)) (xs (i + 2)) (xs (i + 3)) ((mF 26)) (fun j ln _ => sF ((mF 26)) j ln))) (sF (sF mE 25 (sSheet (xs (i + 1)) (xs (i + 2)) (xs (i + 3)) ((mE 25)) (fun j _ m => sF ((mE 25)) j (nI m)))) 27 (sSheet (xs (i + 1)) (xs (i + 2)) (xs (i + 3)) ((mE 27)) (fun j _ m => zr ((mE 27)) (60 * j) m))))))))))))))))))) (wX cI cZ xq xa (sF xg 6 (fSheet (xs (i + 1)) (xs (i + 2)) (xs (i + 3)))) xh ++ (wA cO (xa 0) ys ++ (wC cI cZ (xa 1) ca cg cF ++ (wC cI cZ (xa 2) da dg dF ++ (wR cI cZ (xa 3) ra rg rF rE ++ (wS cI cZ (xa 4) za zg zh zk zF ++ (wT cI cZ (ys 0) (ta 0) (sF (sF (sF (tg 0) 0 (sSh (xs (i + 1)) (xs (i + 2)) (xs (i + 3)) (((tg 0) 0)) (fun _ _ => 1))) 1 (sSh (xs (i + 1)) (xs (i + 2)) (xs (i + 3)) (((tg 0) 1)) (fun ln _ => ln))) 2 (sSh (xs (i + 1)) (xs (i + 2)) (xs (i + 3)) (((tg 0) 2)) (fun _ m => m))) ++ (wB cI ((ta 0) 3) (sSh (xs (i + 1)) (xs (i + 2)) (xs (i + 3)) ((tf 0)) (fun _ _ => fill60 (nI 0) (tf 0))) ++ (wT cI cZ (ys 1) (ta 1) (tg 1) ++ (wB cI ((ta 1) 3) (tf 1) ++ (wT cI cZ (ys 2) (ta 2) (tg 2) ++ (wB cI ((ta 2) 3) (tf 2) ++ (wT cI cZ (ys 3) (ta 3) (tg 3) ++ (wB cI ((ta 3) 3) (tf 3))))))))))))))) (c_X6_sheet l D cI cZ cO mq ma mg mh mF mE _ (xs (i + 1)) (xs (i + 2)) (xs (i + 3))) (cwV 3 X.2.2.2.2.2.1 gL_law_X6_sheet rfl rfl rfl (by decide +kernel) ⟨Nat.le_of_ble_eq_true rfl, Nat.le_of_ble_eq_true rfl⟩) 5 rfl rfl rfl (ap1 (mf (mf (mf (mf (mf (mf (mf (mf (mf (mf (mf (mf (mf mf0)))))))))))))) (fun u => (ap1 (mf (mf (mf (mf (mf (mf (mf (mf (mf (mf (mf (mf (mf mf0))))))))))))))) rfl hl.1 rfl (Nat.le_of_ble_eq_true rfl) ⟨Nat.le_of_ble_eq_true rfl, Nat.le_of_ble_eq_true rfl⟩ dL_law_736 (fun r3 u4 H locs w736 hW => ?_)
  have hW : Wd D A s.heap H locs (wX cI cZ xq xa (sF xg 6 (fSheet (xs (i + 1)) (xs (i + 2)) (xs (i + 3)))) xh ++ (wA cO (xa 0) ys ++ (wC cI cZ (xa 1) ca cg cF ++ (wC cI cZ (xa 2) da dg dF ++ (wR cI cZ (xa 3) ra rg rF rE ++ (wS cI cZ (xa 4) za zg zh zk zF ++ (wT cI cZ (ys 0) (ta 0) (sF (sF (sF (tg 0) 0 (sSh (xs (i + 1)) (xs (i + 2)) (xs (i + 3)) (((tg 0) 0)) (fun _ _ => 1))) 1 (sSh (xs (i + 1)) (xs (i + 2)) (xs (i + 3)) (((tg 0) 1)) (fun ln _ => ln))) 2 (sSh (xs (i + 1)) (xs (i + 2)) (xs (i + 3)) (((tg 0) 2)) (fun _ m => m))) ++ (wB cI ((ta 0) 3) (sSh (xs (i + 1)) (xs (i + 2)) (xs (i + 3)) ((tf 0)) (fun _ _ => fill60 (nI 0) (tf 0))) ++ (wT cI cZ (ys 1) (ta 1) (tg 1) ++ (wB cI ((ta 1) 3) (tf 1) ++ (wT cI cZ (ys 2) (ta 2) (tg 2) ++ (wB cI ((ta 2) 3) (tf 2) ++ (wT cI cZ (ys 3) (ta 3) (tg 3) ++ (wB cI ((ta 3) 3) (tf 3) ++ (wM cI cZ mq ma (sF mg 0 (fSheet (xs (i + 1)) (xs (i + 2)) (xs (i + 3)))) mh (sF mF 26 (sSheet (xs (i + 1)) (xs (i + 2)) (xs (i + 3)) ((mF 26)) (fun j ln _ => sF ((mF 26)) j ln))) (sF (sF mE 25 (sSheet (xs (i + 1)) (xs (i + 2)) (xs (i + 3)) ((mE 25)) (fun j _ m => sF ((mE 25)) j (nI m)))) 27 (sSheet (xs (i + 1)) (xs (i + 2)) (xs (i + 3)) ((mE 27)) (fun j _ m => zr ((mE 27)) (60 * j) m)))))))))))))))))) := hW
  replace w736 : r3 = aSheet (xs (i + 1)) (xs (i + 2)) (xs (i + 3)) := w736
  subst w736
  refine x_icmp_eq X 1045 dL_law_739 (by decide) (fun c739 => ?_) (fun c739 => by exact absurd (by (try rw [e1]); (try rw [e2]); (try rw [e3]); (try rw [e4]); (try rw [e5]); (try rw [f1]); (try rw [f2]); (try rw [f3]); (try rw [f4]); (try rfl)) c739)
  exact next _ _ _ ⟨xa, (sF xg 6 (fSheet (xs (i + 1)) (xs (i + 2)) (xs (i + 3)))), xh, ys, ca, cg, cF, da, dg, dF, ra, rg, rF, rE, za, zg, zh, zk, zF, ma, (sF mg 0 (fSheet (xs (i + 1)) (xs (i + 2)) (xs (i + 3)))), mh, (sF mF 26 (sSheet (xs (i + 1)) (xs (i + 2)) (xs (i + 3)) ((mF 26)) (fun j ln _ => sF ((mF 26)) j ln))), (sF (sF mE 25 (sSheet (xs (i + 1)) (xs (i + 2)) (xs (i + 3)) ((mE 25)) (fun j _ m => sF ((mE 25)) j (nI m)))) 27 (sSheet (xs (i + 1)) (xs (i + 2)) (xs (i + 3)) ((mE 27)) (fun j _ m => zr ((mE 27)) (60 * j) m))), ta, (sF tg 0 (sF (sF (sF (tg 0) 0 (sSh (xs (i + 1)) (xs (i + 2)) (xs (i + 3)) (((tg 0) 0)) (fun _ _ => 1))) 1 (sSh (xs (i + 1)) (xs (i + 2)) (xs (i + 3)) (((tg 0) 1)) (fun ln _ => ln))) 2 (sSh (xs (i + 1)) (xs (i + 2)) (xs (i + 3)) (((tg 0) 2)) (fun _ m => m)))), (sF tf 0 (sSh (xs (i + 1)) (xs (i + 2)) (xs (i + 3)) ((tf 0)) (fun _ _ => fill60 (nI 0) (tf 0)))), hW, hRC, hRR, hRD, hSK, RT_sheet hRT (by decide) hkj, ⟨hRX.1, rfl⟩, hRM⟩ (lv_sub hl [0, 1, 2, 3] rfl)
set_option maxHeartbeats 4000000 in
set_option maxRecDepth 100000 in
theorem law_sheet_1 {p : Program} {e : Env} {s : State} {m : MethodId} {below : List Frame} {meth : Method} {c : Code} {D : va_G} {cI cZ cO : ClassId} {A : Nat → Prop} {Q : State → Prop} {l : Launch} {b L xq mq i : Nat} {xs : Nat → Int32} {H : Heap} {locs : List Loc} {ls : Array Slot} (X : Fx p s m #[Value.ref b] meth c code 4 ret wsL_law RL D (ty3 cI cZ cO) A) (hX : va_X b L xs s s.heap) (hbl : b < s.heap.size) (hbA : ¬ A b) (hL : L ≤ 3072) (hi : i + 6 ≤ L) (hI : lw_I D cI cZ cO A s.heap xq mq H locs) (hl : lv_has ls 4 [(3, .int (nI i)), (2, .ref mq), (1, .ref xq), (0, .ref b)]) (hkj : ¬ inR (xs (i + 1)) 4 ∨ xs (i + 1) = nI 1) (next : ∀ (H : Heap) (locs : List Loc) (ls : Array Slot), lw_I D cI cZ cO A s.heap xq mq H locs → lv_has ls 4 [(3, .int (nI i)), (2, .ref mq), (1, .ref xq), (0, .ref b)] → W p l e room_1 s m #[Value.ref b] below meth c H locs 600000 7302250 Q (F0 m 1045 ls [])) : W p l e room_1 s m #[Value.ref b] below meth c H locs 600000 7302250 Q (F0 m 701 ls []) := by
  obtain ⟨xa, xg, xh, ys, ca, cg, cF, da, dg, dF, ra, rg, rF, rE, za, zg, zh, zk, zF, ma, mg, mh, mF, mE, ta, tg, tf, hW, hRC, hRR, hRD, hSK, hRT, hRX, hRM⟩ := hI
  have hW : Wd D A s.heap H locs (wX cI cZ xq xa xg xh ++ (wA cO (xa 0) ys ++ (wC cI cZ (xa 1) ca cg cF ++ (wC cI cZ (xa 2) da dg dF ++ (wR cI cZ (xa 3) ra rg rF rE ++ (wS cI cZ (xa 4) za zg zh zk zF ++ (wT cI cZ (ys 0) (ta 0) (tg 0) ++ (wB cI ((ta 0) 3) (tf 0) ++ (wT cI cZ (ys 1) (ta 1) (tg 1) ++ (wB cI ((ta 1) 3) (tf 1) ++ (wT cI cZ (ys 2) (ta 2) (tg 2) ++ (wB cI ((ta 2) 3) (tf 2) ++ (wT cI cZ (ys 3) (ta 3) (tg 3) ++ (wB cI ((ta 3) 3) (tf 3) ++ (wM cI cZ mq ma mg mh mF mE))))))))))))))) := hW
  obtain ⟨h02, hn, hrn, hk, hlv, hm, e2, e1, e3, e4, e5⟩ := id hRC
  obtain ⟨hrc, hro, hra, hrd, f1, f2, f3, f4⟩ := id hRR
  obtain ⟨hdn, hdr, hdk, hdl, hdm⟩ := id hRD
  obtain ⟨ht0, ht1, ht2, htl, hts, htc⟩ := id hRT
  refine x_aload_n X dL_law_701 rfl (lv_at hl 2 rfl) ?_
  refine x_aload_n X dL_law_702 rfl (lv_at hl 3 rfl) ?_
  refine x_iload_n X dL_law_703 rfl (lv_at hl 0 rfl) ?_
  refine x_iconst (v := nI 1) X dL_law_704 (by decide) ?_
  refine n_iadd X dL_law_705 ?_
  refine x_sld X hW hX hbl hbA (j := i + 1) (by omega) (by omega) dL_law_706 ?_
  refine x_aload_n X dL_law_707 rfl (lv_at hl 3 rfl) ?_
  refine x_iload_n X dL_law_708 rfl (lv_at hl 0 rfl) ?_
  refine x_iconst (v := nI 2) X dL_law_709 (by decide) ?_
  refine n_iadd X dL_law_710 ?_
  refine x_sld X hW hX hbl hbA (j := i + 2) (by omega) (by omega) dL_law_711 ?_
  refine x_aload_n X dL_law_712 rfl (lv_at hl 3 rfl) ?_
  refine x_iload_n X dL_law_713 rfl (lv_at hl 0 rfl) ?_
  refine x_iconst (v := nI 3) X dL_law_714 (by decide) ?_
  refine n_iadd X dL_law_715 ?_
  refine x_sld X hW hX hbl hbA (j := i + 3) (by omega) (by omega) dL_law_716 ?_
  refine x_pcallVi X hW (As := [.int (xs (i + 1)), .int (xs (i + 2)), .int (xs (i + 3))]) (rest := []) (wz := fun u => (wX cI cZ xq xa (sF xg 6 (fSheet (xs (i + 1)) (xs (i + 2)) (xs (i + 3)))) xh ++ (wA cO (xa 0) ys ++ (wC cI cZ (xa 1) ca cg cF ++ (wC cI cZ (xa 2) da dg dF ++ (wR cI cZ (xa 3) ra rg rF rE ++ (wS cI cZ (xa 4) za zg zh zk zF ++ (wT cI cZ (ys 0) (ta 0) (tg 0) ++ (wB cI ((ta 0) 3) (tf 0) ++ (wT cI cZ (ys 1) (ta 1) (sF (sF (sF (tg 1) 0 (sSh (xs (i + 1)) (xs (i + 2)) (xs (i + 3)) (((tg 1) 0)) (fun _ _ => 1))) 1 (sSh (xs (i + 1)) (xs (i + 2)) (xs (i + 3)) (((tg 1) 1)) (fun ln _ => ln))) 2 (sSh (xs (i + 1)) (xs (i + 2)) (xs (i + 3)) (((tg 1) 2)) (fun _ m => m))) ++ (wB cI ((ta 1) 3) (sSh (xs (i + 1)) (xs (i + 2)) (xs (i + 3)) ((tf 1)) (fun _ _ => fill60 (nI 0) (tf 1))) ++ (wT cI cZ (ys 2) (ta 2) (tg 2) ++ (wB cI ((ta 2) 3) (tf 2) ++ (wT cI cZ (ys 3) (ta 3) (tg 3) ++ (wB cI ((ta 3) 3) (tf 3) ++ (wM cI cZ mq ma mg mh mF mE)))))))))))))))) (wC cI cZ (xa 1) ca cg cF ++ (wC cI cZ (xa 2) da dg dF ++ (wR cI cZ (xa 3) ra rg rF rE ++ (wS cI cZ (xa 4) za zg zh zk zF ++ (wT cI cZ (ys 0) (ta 0) (tg 0) ++ (wB cI ((ta 0) 3) (tf 0) ++ (wT cI cZ (ys 2) (ta 2) (tg 2) ++ (wB cI ((ta 2) 3) (tf 2) ++ (wT cI cZ (ys 3) (ta 3) (tg 3) ++ (wB cI ((ta 3) 3) (tf 3) ++ (wM cI cZ mq ma mg mh mF mE))))))))))) (c_X5_sheet l D cI cZ cO xq xa xg xh ys (ta 1) (tg 1) (tf 1) _ (xs (i + 1)) (xs (i + 2)) (xs (i + 3)) 1 (show 1 < 4 from (by decide)) (show ¬ inR (xs (i + 1)) 4 ∨ (xs (i + 1)) = nI 1 from hkj)) (cwV 3 X.2.2.2.2.2.1 gL_law_X5_sheet rfl rfl rfl (by decide +kernel) ⟨Nat.le_of_ble_eq_true rfl, Nat.le_of_ble_eq_true rfl⟩) 4 rfl rfl rfl (apn (mfr _ _) (apn (mfr _ _) (apn (mf (mf (mf (mf (mf (mf (mfr _ _))))))) (mf (mf (mf (mf (mf (mf (mfr _ _)))))))))) (fun u => (apn (mfr _ _) (apn (mfr _ _) (apn (mf (mf (mf (mf (mf (mf (mfr _ _))))))) (mf (mf (mf (mf (mf (mf (mfr _ _))))))))))) rfl hl.1 rfl (Nat.le_of_ble_eq_true rfl) ⟨Nat.le_of_ble_eq_true rfl, Nat.le_of_ble_eq_true rfl⟩ dL_law_717 (fun r1 u2 H locs w717 hW => ?_)
  have hW : Wd D A s.heap H locs (wX cI cZ xq xa (sF xg 6 (fSheet (xs (i + 1)) (xs (i + 2)) (xs (i + 3)))) xh ++ (wA cO (xa 0) ys ++ (wC cI cZ (xa 1) ca cg cF ++ (wC cI cZ (xa 2) da dg dF ++ (wR cI cZ (xa 3) ra rg rF rE ++ (wS cI cZ (xa 4) za zg zh zk zF ++ (wT cI cZ (ys 0) (ta 0) (tg 0) ++ (wB cI ((ta 0) 3) (tf 0) ++ (wT cI cZ (ys 1) (ta 1) (sF (sF (sF (tg 1) 0 (sSh (xs (i + 1)) (xs (i + 2)) (xs (i + 3)) (((tg 1) 0)) (fun _ _ => 1))) 1 (sSh (xs (i + 1)) (xs (i + 2)) (xs (i + 3)) (((tg 1) 1)) (fun ln _ => ln))) 2 (sSh (xs (i + 1)) (xs (i + 2)) (xs (i + 3)) (((tg 1) 2)) (fun _ m => m))) ++ (wB cI ((ta 1) 3) (sSh (xs (i + 1)) (xs (i + 2)) (xs (i + 3)) ((tf 1)) (fun _ _ => fill60 (nI 0) (tf 1))) ++ (wT cI cZ (ys 2) (ta 2) (tg 2) ++ (wB cI ((ta 2) 3) (tf 2) ++ (wT cI cZ (ys 3) (ta 3) (tg 3) ++ (wB cI ((ta 3) 3) (tf 3) ++ (wM cI cZ mq ma mg mh mF mE))))))))))))))) := hW
  replace w717 : r1 = aSheet (xs (i + 1)) (xs (i + 2)) (xs (i + 3)) := w717
  subst w717
  refine x_aload_n X dL_law_720 rfl (lv_at hl 1 rfl) ?_
  refine x_aload_n X dL_law_721 rfl (lv_at hl 3 rfl) ?_
  refine x_iload_n X dL_law_722 rfl (lv_at hl 0 rfl) ?_
  refine x_iconst (v := nI 1) X dL_law_723 (by decide) ?_
  refine n_iadd X dL_law_724 ?_
  refine x_sld X hW hX hbl hbA (j := i + 1) (by omega) (by omega) dL_law_725 ?_
  refine x_aload_n X dL_law_726 rfl (lv_at hl 3 rfl) ?_
  refine x_iload_n X dL_law_727 rfl (lv_at hl 0 rfl) ?_
  refine x_iconst (v := nI 2) X dL_law_728 (by decide) ?_
  refine n_iadd X dL_law_729 ?_
  refine x_sld X hW hX hbl hbA (j := i + 2) (by omega) (by omega) dL_law_730 ?_
  refine x_aload_n X dL_law_731 rfl (lv_at hl 3 rfl) ?_
  refine x_iload_n X dL_law_732 rfl (lv_at hl 0 rfl) ?_
  refine x_iconst (v := nI 3) X dL_law_733 (by decide) ?_
  refine n_iadd X dL_law_734 ?_
  refine x_sld X hW hX hbl hbA (j := i + 3) (by omega) (by omega) dL_law_735 ?_
  refine x_pcallVi X hW (As := [.int (xs (i + 1)), .int (xs (i + 2)), .int (xs (i + 3))]) (rest := [.int (aSheet (xs (i + 1)) (xs (i + 2)) (xs (i + 3)))]) (wz := fun u => (wX cI cZ xq xa (sF xg 6 (fSheet (xs (i + 1)) (xs (i + 2)) (xs (i + 3)))) xh ++ (wA cO (xa 0) ys ++ (wC cI cZ (xa 1) ca cg cF ++ (wC cI cZ (xa 2) da dg dF ++ (wR cI cZ (xa 3) ra rg rF rE ++ (wS cI cZ (xa 4) za zg zh zk zF ++ (wT cI cZ (ys 0) (ta 0) (tg 0) ++ (wB cI ((ta 0) 3) (tf 0) ++ (wT cI cZ (ys 1) (ta 1) (sF (sF (sF (tg 1) 0 (sSh (xs (i + 1)) (xs (i + 2)) (xs (i + 3)) (((tg 1) 0)) (fun _ _ => 1))) 1 (sSh (xs (i + 1)) (xs (i + 2)) (xs (i + 3)) (((tg 1) 1)) (fun ln _ => ln))) 2 (sSh (xs (i + 1)) (xs (i + 2)) (xs (i + 3)) (((tg 1) 2)) (fun _ m => m))) ++ (wB cI ((ta 1) 3) (sSh (xs (i + 1)) (xs (i + 2)) (xs (i + 3)) ((tf 1)) (fun _ _ => fill60 (nI 0) (tf 1))) ++ (wT cI cZ (ys 2) (ta 2) (tg 2) ++ (wB cI ((ta 2) 3) (tf 2) ++ (wT cI cZ (ys 3) (ta 3) (tg 3) ++ (wB cI ((ta 3) 3) (tf 3) ++ (wM cI cZ mq ma (sF mg 0 (fSheet (xs (i + 1)) (xs (i + 2)) (xs (i + 3)))) mh (sF mF 26 (sSheet (xs (i + 1)) (xs (i + 2)) (xs (i + 3)) ((mF 26)) (fun j ln _ => sF ((mF 26)) j ln))) (sF (sF mE 25 (sSheet (xs (i + 1)) (xs (i + 2)) (xs (i + 3)) ((mE 25)) (fun j _ m => sF ((mE 25)) j (nI m)))) 27 (sSheet (xs (i + 1)) (xs (i + 2)) (xs (i + 3)) ((mE 27)) (fun j _ m => zr ((mE 27)) (60 * j) m))))))))))))))))))) (wX cI cZ xq xa (sF xg 6 (fSheet (xs (i + 1)) (xs (i + 2)) (xs (i + 3)))) xh ++ (wA cO (xa 0) ys ++ (wC cI cZ (xa 1) ca cg cF ++ (wC cI cZ (xa 2) da dg dF ++ (wR cI cZ (xa 3) ra rg rF rE ++ (wS cI cZ (xa 4) za zg zh zk zF ++ (wT cI cZ (ys 0) (ta 0) (tg 0) ++ (wB cI ((ta 0) 3) (tf 0) ++ (wT cI cZ (ys 1) (ta 1) (sF (sF (sF (tg 1) 0 (sSh (xs (i + 1)) (xs (i + 2)) (xs (i + 3)) (((tg 1) 0)) (fun _ _ => 1))) 1 (sSh (xs (i + 1)) (xs (i + 2)) (xs (i + 3)) (((tg 1) 1)) (fun ln _ => ln))) 2 (sSh (xs (i + 1)) (xs (i + 2)) (xs (i + 3)) (((tg 1) 2)) (fun _ m => m))) ++ (wB cI ((ta 1) 3) (sSh (xs (i + 1)) (xs (i + 2)) (xs (i + 3)) ((tf 1)) (fun _ _ => fill60 (nI 0) (tf 1))) ++ (wT cI cZ (ys 2) (ta 2) (tg 2) ++ (wB cI ((ta 2) 3) (tf 2) ++ (wT cI cZ (ys 3) (ta 3) (tg 3) ++ (wB cI ((ta 3) 3) (tf 3))))))))))))))) (c_X6_sheet l D cI cZ cO mq ma mg mh mF mE _ (xs (i + 1)) (xs (i + 2)) (xs (i + 3))) (cwV 3 X.2.2.2.2.2.1 gL_law_X6_sheet rfl rfl rfl (by decide +kernel) ⟨Nat.le_of_ble_eq_true rfl, Nat.le_of_ble_eq_true rfl⟩) 5 rfl rfl rfl (ap1 (mf (mf (mf (mf (mf (mf (mf (mf (mf (mf (mf (mf (mf mf0)))))))))))))) (fun u => (ap1 (mf (mf (mf (mf (mf (mf (mf (mf (mf (mf (mf (mf (mf mf0))))))))))))))) rfl hl.1 rfl (Nat.le_of_ble_eq_true rfl) ⟨Nat.le_of_ble_eq_true rfl, Nat.le_of_ble_eq_true rfl⟩ dL_law_736 (fun r3 u4 H locs w736 hW => ?_)
  have hW : Wd D A s.heap H locs (wX cI cZ xq xa (sF xg 6 (fSheet (xs (i + 1)) (xs (i + 2)) (xs (i + 3)))) xh ++ (wA cO (xa 0) ys ++ (wC cI cZ (xa 1) ca cg cF ++ (wC cI cZ (xa 2) da dg dF ++ (wR cI cZ (xa 3) ra rg rF rE ++ (wS cI cZ (xa 4) za zg zh zk zF ++ (wT cI cZ (ys 0) (ta 0) (tg 0) ++ (wB cI ((ta 0) 3) (tf 0) ++ (wT cI cZ (ys 1) (ta 1) (sF (sF (sF (tg 1) 0 (sSh (xs (i + 1)) (xs (i + 2)) (xs (i + 3)) (((tg 1) 0)) (fun _ _ => 1))) 1 (sSh (xs (i + 1)) (xs (i + 2)) (xs (i + 3)) (((tg 1) 1)) (fun ln _ => ln))) 2 (sSh (xs (i + 1)) (xs (i + 2)) (xs (i + 3)) (((tg 1) 2)) (fun _ m => m))) ++ (wB cI ((ta 1) 3) (sSh (xs (i + 1)) (xs (i + 2)) (xs (i + 3)) ((tf 1)) (fun _ _ => fill60 (nI 0) (tf 1))) ++ (wT cI cZ (ys 2) (ta 2) (tg 2) ++ (wB cI ((ta 2) 3) (tf 2) ++ (wT cI cZ (ys 3) (ta 3) (tg 3) ++ (wB cI ((ta 3) 3) (tf 3) ++ (wM cI cZ mq ma (sF mg 0 (fSheet (xs (i + 1)) (xs (i + 2)) (xs (i + 3)))) mh (sF mF 26 (sSheet (xs (i + 1)) (xs (i + 2)) (xs (i + 3)) ((mF 26)) (fun j ln _ => sF ((mF 26)) j ln))) (sF (sF mE 25 (sSheet (xs (i + 1)) (xs (i + 2)) (xs (i + 3)) ((mE 25)) (fun j _ m => sF ((mE 25)) j (nI m)))) 27 (sSheet (xs (i + 1)) (xs (i + 2)) (xs (i + 3)) ((mE 27)) (fun j _ m => zr ((mE 27)) (60 * j) m)))))))))))))))))) := hW
  replace w736 : r3 = aSheet (xs (i + 1)) (xs (i + 2)) (xs (i + 3)) := w736
  subst w736
  refine x_icmp_eq X 1045 dL_law_739 (by decide) (fun c739 => ?_) (fun c739 => by exact absurd (by (try rw [e1]); (try rw [e2]); (try rw [e3]); (try rw [e4]); (try rw [e5]); (try rw [f1]); (try rw [f2]); (try rw [f3]); (try rw [f4]); (try rfl)) c739)
  exact next _ _ _ ⟨xa, (sF xg 6 (fSheet (xs (i + 1)) (xs (i + 2)) (xs (i + 3)))), xh, ys, ca, cg, cF, da, dg, dF, ra, rg, rF, rE, za, zg, zh, zk, zF, ma, (sF mg 0 (fSheet (xs (i + 1)) (xs (i + 2)) (xs (i + 3)))), mh, (sF mF 26 (sSheet (xs (i + 1)) (xs (i + 2)) (xs (i + 3)) ((mF 26)) (fun j ln _ => sF ((mF 26)) j ln))), (sF (sF mE 25 (sSheet (xs (i + 1)) (xs (i + 2)) (xs (i + 3)) ((mE 25)) (fun j _ m => sF ((mE 25)) j (nI m)))) 27 (sSheet (xs (i + 1)) (xs (i + 2)) (xs (i + 3)) ((mE 27)) (fun j _ m => zr ((mE 27)) (60 * j) m))), ta, (sF tg 1 (sF (sF (sF (tg 1) 0 (sSh (xs (i + 1)) (xs (i + 2)) (xs (i + 3)) (((tg 1) 0)) (fun _ _ => 1))) 1 (sSh (xs (i + 1)) (xs (i + 2)) (xs (i + 3)) (((tg 1) 1)) (fun ln _ => ln))) 2 (sSh (xs (i + 1)) (xs (i + 2)) (xs (i + 3)) (((tg 1) 2)) (fun _ m => m)))), (sF tf 1 (sSh (xs (i + 1)) (xs (i + 2)) (xs (i + 3)) ((tf 1)) (fun _ _ => fill60 (nI 0) (tf 1)))), hW, hRC, hRR, hRD, hSK, RT_sheet hRT (by decide) hkj, ⟨hRX.1, rfl⟩, hRM⟩ (lv_sub hl [0, 1, 2, 3] rfl)
set_option maxHeartbeats 4000000 in
set_option maxRecDepth 100000 in
theorem law_sheet_2 {p : Program} {e : Env} {s : State} {m : MethodId} {below : List Frame} {meth : Method} {c : Code} {D : va_G} {cI cZ cO : ClassId} {A : Nat → Prop} {Q : State → Prop} {l : Launch} {b L xq mq i : Nat} {xs : Nat → Int32} {H : Heap} {locs : List Loc} {ls : Array Slot} (X : Fx p s m #[Value.ref b] meth c code 4 ret wsL_law RL D (ty3 cI cZ cO) A) (hX : va_X b L xs s s.heap) (hbl : b < s.heap.size) (hbA : ¬ A b) (hL : L ≤ 3072) (hi : i + 6 ≤ L) (hI : lw_I D cI cZ cO A s.heap xq mq H locs) (hl : lv_has ls 4 [(3, .int (nI i)), (2, .ref mq), (1, .ref xq), (0, .ref b)]) (hkj : ¬ inR (xs (i + 1)) 4 ∨ xs (i + 1) = nI 2) (next : ∀ (H : Heap) (locs : List Loc) (ls : Array Slot), lw_I D cI cZ cO A s.heap xq mq H locs → lv_has ls 4 [(3, .int (nI i)), (2, .ref mq), (1, .ref xq), (0, .ref b)] → W p l e room_1 s m #[Value.ref b] below meth c H locs 600000 7302250 Q (F0 m 1045 ls [])) : W p l e room_1 s m #[Value.ref b] below meth c H locs 600000 7302250 Q (F0 m 701 ls []) := by
  obtain ⟨xa, xg, xh, ys, ca, cg, cF, da, dg, dF, ra, rg, rF, rE, za, zg, zh, zk, zF, ma, mg, mh, mF, mE, ta, tg, tf, hW, hRC, hRR, hRD, hSK, hRT, hRX, hRM⟩ := hI
  have hW : Wd D A s.heap H locs (wX cI cZ xq xa xg xh ++ (wA cO (xa 0) ys ++ (wC cI cZ (xa 1) ca cg cF ++ (wC cI cZ (xa 2) da dg dF ++ (wR cI cZ (xa 3) ra rg rF rE ++ (wS cI cZ (xa 4) za zg zh zk zF ++ (wT cI cZ (ys 0) (ta 0) (tg 0) ++ (wB cI ((ta 0) 3) (tf 0) ++ (wT cI cZ (ys 1) (ta 1) (tg 1) ++ (wB cI ((ta 1) 3) (tf 1) ++ (wT cI cZ (ys 2) (ta 2) (tg 2) ++ (wB cI ((ta 2) 3) (tf 2) ++ (wT cI cZ (ys 3) (ta 3) (tg 3) ++ (wB cI ((ta 3) 3) (tf 3) ++ (wM cI cZ mq ma mg mh mF mE))))))))))))))) := hW
  obtain ⟨h02, hn, hrn, hk, hlv, hm, e2, e1, e3, e4, e5⟩ := id hRC
  obtain ⟨hrc, hro, hra, hrd, f1, f2, f3, f4⟩ := id hRR
  obtain ⟨hdn, hdr, hdk, hdl, hdm⟩ := id hRD
  obtain ⟨ht0, ht1, ht2, htl, hts, htc⟩ := id hRT
  refine x_aload_n X dL_law_701 rfl (lv_at hl 2 rfl) ?_
  refine x_aload_n X dL_law_702 rfl (lv_at hl 3 rfl) ?_
  refine x_iload_n X dL_law_703 rfl (lv_at hl 0 rfl) ?_
  refine x_iconst (v := nI 1) X dL_law_704 (by decide) ?_
  refine n_iadd X dL_law_705 ?_
  refine x_sld X hW hX hbl hbA (j := i + 1) (by omega) (by omega) dL_law_706 ?_
  refine x_aload_n X dL_law_707 rfl (lv_at hl 3 rfl) ?_
  refine x_iload_n X dL_law_708 rfl (lv_at hl 0 rfl) ?_
  refine x_iconst (v := nI 2) X dL_law_709 (by decide) ?_
  refine n_iadd X dL_law_710 ?_
  refine x_sld X hW hX hbl hbA (j := i + 2) (by omega) (by omega) dL_law_711 ?_
  refine x_aload_n X dL_law_712 rfl (lv_at hl 3 rfl) ?_
  refine x_iload_n X dL_law_713 rfl (lv_at hl 0 rfl) ?_
  refine x_iconst (v := nI 3) X dL_law_714 (by decide) ?_
  refine n_iadd X dL_law_715 ?_
  refine x_sld X hW hX hbl hbA (j := i + 3) (by omega) (by omega) dL_law_716 ?_
  refine x_pcallVi X hW (As := [.int (xs (i + 1)), .int (xs (i + 2)), .int (xs (i + 3))]) (rest := []) (wz := fun u => (wX cI cZ xq xa (sF xg 6 (fSheet (xs (i + 1)) (xs (i + 2)) (xs (i + 3)))) xh ++ (wA cO (xa 0) ys ++ (wC cI cZ (xa 1) ca cg cF ++ (wC cI cZ (xa 2) da dg dF ++ (wR cI cZ (xa 3) ra rg rF rE ++ (wS cI cZ (xa 4) za zg zh zk zF ++ (wT cI cZ (ys 0) (ta 0) (tg 0) ++ (wB cI ((ta 0) 3) (tf 0) ++ (wT cI cZ (ys 1) (ta 1) (tg 1) ++ (wB cI ((ta 1) 3) (tf 1) ++ (wT cI cZ (ys 2) (ta 2) (sF (sF (sF (tg 2) 0 (sSh (xs (i + 1)) (xs (i + 2)) (xs (i + 3)) (((tg 2) 0)) (fun _ _ => 1))) 1 (sSh (xs (i + 1)) (xs (i + 2)) (xs (i + 3)) (((tg 2) 1)) (fun ln _ => ln))) 2 (sSh (xs (i + 1)) (xs (i + 2)) (xs (i + 3)) (((tg 2) 2)) (fun _ m => m))) ++ (wB cI ((ta 2) 3) (sSh (xs (i + 1)) (xs (i + 2)) (xs (i + 3)) ((tf 2)) (fun _ _ => fill60 (nI 0) (tf 2))) ++ (wT cI cZ (ys 3) (ta 3) (tg 3) ++ (wB cI ((ta 3) 3) (tf 3) ++ (wM cI cZ mq ma mg mh mF mE)))))))))))))))) (wC cI cZ (xa 1) ca cg cF ++ (wC cI cZ (xa 2) da dg dF ++ (wR cI cZ (xa 3) ra rg rF rE ++ (wS cI cZ (xa 4) za zg zh zk zF ++ (wT cI cZ (ys 0) (ta 0) (tg 0) ++ (wB cI ((ta 0) 3) (tf 0) ++ (wT cI cZ (ys 1) (ta 1) (tg 1) ++ (wB cI ((ta 1) 3) (tf 1) ++ (wT cI cZ (ys 3) (ta 3) (tg 3) ++ (wB cI ((ta 3) 3) (tf 3) ++ (wM cI cZ mq ma mg mh mF mE))))))))))) (c_X5_sheet l D cI cZ cO xq xa xg xh ys (ta 2) (tg 2) (tf 2) _ (xs (i + 1)) (xs (i + 2)) (xs (i + 3)) 2 (show 2 < 4 from (by decide)) (show ¬ inR (xs (i + 1)) 4 ∨ (xs (i + 1)) = nI 2 from hkj)) (cwV 3 X.2.2.2.2.2.1 gL_law_X5_sheet rfl rfl rfl (by decide +kernel) ⟨Nat.le_of_ble_eq_true rfl, Nat.le_of_ble_eq_true rfl⟩) 4 rfl rfl rfl (apn (mfr _ _) (apn (mfr _ _) (apn (mf (mf (mf (mf (mf (mf (mf (mf (mfr _ _))))))))) (mf (mf (mf (mf (mf (mf (mf (mf (mfr _ _)))))))))))) (fun u => (apn (mfr _ _) (apn (mfr _ _) (apn (mf (mf (mf (mf (mf (mf (mf (mf (mfr _ _))))))))) (mf (mf (mf (mf (mf (mf (mf (mf (mfr _ _))))))))))))) rfl hl.1 rfl (Nat.le_of_ble_eq_true rfl) ⟨Nat.le_of_ble_eq_true rfl, Nat.le_of_ble_eq_true rfl⟩ dL_law_717 (fun r1 u2 H locs w717 hW => ?_)
  have hW : Wd D A s.heap H locs (wX cI cZ xq xa (sF xg 6 (fSheet (xs (i + 1)) (xs (i + 2)) (xs (i + 3)))) xh ++ (wA cO (xa 0) ys ++ (wC cI cZ (xa 1) ca cg cF ++ (wC cI cZ (xa 2) da dg dF ++ (wR cI cZ (xa 3) ra rg rF rE ++ (wS cI cZ (xa 4) za zg zh zk zF ++ (wT cI cZ (ys 0) (ta 0) (tg 0) ++ (wB cI ((ta 0) 3) (tf 0) ++ (wT cI cZ (ys 1) (ta 1) (tg 1) ++ (wB cI ((ta 1) 3) (tf 1) ++ (wT cI cZ (ys 2) (ta 2) (sF (sF (sF (tg 2) 0 (sSh (xs (i + 1)) (xs (i + 2)) (xs (i + 3)) (((tg 2) 0)) (fun _ _ => 1))) 1 (sSh (xs (i + 1)) (xs (i + 2)) (xs (i + 3)) (((tg 2) 1)) (fun ln _ => ln))) 2 (sSh (xs (i + 1)) (xs (i + 2)) (xs (i + 3)) (((tg 2) 2)) (fun _ m => m))) ++ (wB cI ((ta 2) 3) (sSh (xs (i + 1)) (xs (i + 2)) (xs (i + 3)) ((tf 2)) (fun _ _ => fill60 (nI 0) (tf 2))) ++ (wT cI cZ (ys 3) (ta 3) (tg 3) ++ (wB cI ((ta 3) 3) (tf 3) ++ (wM cI cZ mq ma mg mh mF mE))))))))))))))) := hW
  replace w717 : r1 = aSheet (xs (i + 1)) (xs (i + 2)) (xs (i + 3)) := w717
  subst w717
  refine x_aload_n X dL_law_720 rfl (lv_at hl 1 rfl) ?_
  refine x_aload_n X dL_law_721 rfl (lv_at hl 3 rfl) ?_
  refine x_iload_n X dL_law_722 rfl (lv_at hl 0 rfl) ?_
  refine x_iconst (v := nI 1) X dL_law_723 (by decide) ?_
  refine n_iadd X dL_law_724 ?_
  refine x_sld X hW hX hbl hbA (j := i + 1) (by omega) (by omega) dL_law_725 ?_
  refine x_aload_n X dL_law_726 rfl (lv_at hl 3 rfl) ?_
  refine x_iload_n X dL_law_727 rfl (lv_at hl 0 rfl) ?_
  refine x_iconst (v := nI 2) X dL_law_728 (by decide) ?_
  refine n_iadd X dL_law_729 ?_
  refine x_sld X hW hX hbl hbA (j := i + 2) (by omega) (by omega) dL_law_730 ?_
  refine x_aload_n X dL_law_731 rfl (lv_at hl 3 rfl) ?_
  refine x_iload_n X dL_law_732 rfl (lv_at hl 0 rfl) ?_
  refine x_iconst (v := nI 3) X dL_law_733 (by decide) ?_
  refine n_iadd X dL_law_734 ?_
  refine x_sld X hW hX hbl hbA (j := i + 3) (by omega) (by omega) dL_law_735 ?_
  refine x_pcallVi X hW (As := [.int (xs (i + 1)), .int (xs (i + 2)), .int (xs (i + 3))]) (rest := [.int (aSheet (xs (i + 1)) (xs (i + 2)) (xs (i + 3)))]) (wz := fun u => (wX cI cZ xq xa (sF xg 6 (fSheet (xs (i + 1)) (xs (i + 2)) (xs (i + 3)))) xh ++ (wA cO (xa 0) ys ++ (wC cI cZ (xa 1) ca cg cF ++ (wC cI cZ (xa 2) da dg dF ++ (wR cI cZ (xa 3) ra rg rF rE ++ (wS cI cZ (xa 4) za zg zh zk zF ++ (wT cI cZ (ys 0) (ta 0) (tg 0) ++ (wB cI ((ta 0) 3) (tf 0) ++ (wT cI cZ (ys 1) (ta 1) (tg 1) ++ (wB cI ((ta 1) 3) (tf 1) ++ (wT cI cZ (ys 2) (ta 2) (sF (sF (sF (tg 2) 0 (sSh (xs (i + 1)) (xs (i + 2)) (xs (i + 3)) (((tg 2) 0)) (fun _ _ => 1))) 1 (sSh (xs (i + 1)) (xs (i + 2)) (xs (i + 3)) (((tg 2) 1)) (fun ln _ => ln))) 2 (sSh (xs (i + 1)) (xs (i + 2)) (xs (i + 3)) (((tg 2) 2)) (fun _ m => m))) ++ (wB cI ((ta 2) 3) (sSh (xs (i + 1)) (xs (i + 2)) (xs (i + 3)) ((tf 2)) (fun _ _ => fill60 (nI 0) (tf 2))) ++ (wT cI cZ (ys 3) (ta 3) (tg 3) ++ (wB cI ((ta 3) 3) (tf 3) ++ (wM cI cZ mq ma (sF mg 0 (fSheet (xs (i + 1)) (xs (i + 2)) (xs (i + 3)))) mh (sF mF 26 (sSheet (xs (i + 1)) (xs (i + 2)) (xs (i + 3)) ((mF 26)) (fun j ln _ => sF ((mF 26)) j ln))) (sF (sF mE 25 (sSheet (xs (i + 1)) (xs (i + 2)) (xs (i + 3)) ((mE 25)) (fun j _ m => sF ((mE 25)) j (nI m)))) 27 (sSheet (xs (i + 1)) (xs (i + 2)) (xs (i + 3)) ((mE 27)) (fun j _ m => zr ((mE 27)) (60 * j) m))))))))))))))))))) (wX cI cZ xq xa (sF xg 6 (fSheet (xs (i + 1)) (xs (i + 2)) (xs (i + 3)))) xh ++ (wA cO (xa 0) ys ++ (wC cI cZ (xa 1) ca cg cF ++ (wC cI cZ (xa 2) da dg dF ++ (wR cI cZ (xa 3) ra rg rF rE ++ (wS cI cZ (xa 4) za zg zh zk zF ++ (wT cI cZ (ys 0) (ta 0) (tg 0) ++ (wB cI ((ta 0) 3) (tf 0) ++ (wT cI cZ (ys 1) (ta 1) (tg 1) ++ (wB cI ((ta 1) 3) (tf 1) ++ (wT cI cZ (ys 2) (ta 2) (sF (sF (sF (tg 2) 0 (sSh (xs (i + 1)) (xs (i + 2)) (xs (i + 3)) (((tg 2) 0)) (fun _ _ => 1))) 1 (sSh (xs (i + 1)) (xs (i + 2)) (xs (i + 3)) (((tg 2) 1)) (fun ln _ => ln))) 2 (sSh (xs (i + 1)) (xs (i + 2)) (xs (i + 3)) (((tg 2) 2)) (fun _ m => m))) ++ (wB cI ((ta 2) 3) (sSh (xs (i + 1)) (xs (i + 2)) (xs (i + 3)) ((tf 2)) (fun _ _ => fill60 (nI 0) (tf 2))) ++ (wT cI cZ (ys 3) (ta 3) (tg 3) ++ (wB cI ((ta 3) 3) (tf 3))))))))))))))) (c_X6_sheet l D cI cZ cO mq ma mg mh mF mE _ (xs (i + 1)) (xs (i + 2)) (xs (i + 3))) (cwV 3 X.2.2.2.2.2.1 gL_law_X6_sheet rfl rfl rfl (by decide +kernel) ⟨Nat.le_of_ble_eq_true rfl, Nat.le_of_ble_eq_true rfl⟩) 5 rfl rfl rfl (ap1 (mf (mf (mf (mf (mf (mf (mf (mf (mf (mf (mf (mf (mf mf0)))))))))))))) (fun u => (ap1 (mf (mf (mf (mf (mf (mf (mf (mf (mf (mf (mf (mf (mf mf0))))))))))))))) rfl hl.1 rfl (Nat.le_of_ble_eq_true rfl) ⟨Nat.le_of_ble_eq_true rfl, Nat.le_of_ble_eq_true rfl⟩ dL_law_736 (fun r3 u4 H locs w736 hW => ?_)
  have hW : Wd D A s.heap H locs (wX cI cZ xq xa (sF xg 6 (fSheet (xs (i + 1)) (xs (i + 2)) (xs (i + 3)))) xh ++ (wA cO (xa 0) ys ++ (wC cI cZ (xa 1) ca cg cF ++ (wC cI cZ (xa 2) da dg dF ++ (wR cI cZ (xa 3) ra rg rF rE ++ (wS cI cZ (xa 4) za zg zh zk zF ++ (wT cI cZ (ys 0) (ta 0) (tg 0) ++ (wB cI ((ta 0) 3) (tf 0) ++ (wT cI cZ (ys 1) (ta 1) (tg 1) ++ (wB cI ((ta 1) 3) (tf 1) ++ (wT cI cZ (ys 2) (ta 2) (sF (sF (sF (tg 2) 0 (sSh (xs (i + 1)) (xs (i + 2)) (xs (i + 3)) (((tg 2) 0)) (fun _ _ => 1))) 1 (sSh (xs (i + 1)) (xs (i + 2)) (xs (i + 3)) (((tg 2) 1)) (fun ln _ => ln))) 2 (sSh (xs (i + 1)) (xs (i + 2)) (xs (i + 3)) (((tg 2) 2)) (fun _ m => m))) ++ (wB cI ((ta 2) 3) (sSh (xs (i + 1)) (xs (i + 2)) (xs (i + 3)) ((tf 2)) (fun _ _ => fill60 (nI 0) (tf 2))) ++ (wT cI cZ (ys 3) (ta 3) (tg 3) ++ (wB cI ((ta 3) 3) (tf 3) ++ (wM cI cZ mq ma (sF mg 0 (fSheet (xs (i + 1)) (xs (i + 2)) (xs (i + 3)))) mh (sF mF 26 (sSheet (xs (i + 1)) (xs (i + 2)) (xs (i + 3)) ((mF 26)) (fun j ln _ => sF ((mF 26)) j ln))) (sF (sF mE 25 (sSheet (xs (i + 1)) (xs (i + 2)) (xs (i + 3)) ((mE 25)) (fun j _ m => sF ((mE 25)) j (nI m)))) 27 (sSheet (xs (i + 1)) (xs (i + 2)) (xs (i + 3)) ((mE 27)) (fun j _ m => zr ((mE 27)) (60 * j) m)))))))))))))))))) := hW
  replace w736 : r3 = aSheet (xs (i + 1)) (xs (i + 2)) (xs (i + 3)) := w736
  subst w736
  refine x_icmp_eq X 1045 dL_law_739 (by decide) (fun c739 => ?_) (fun c739 => by exact absurd (by (try rw [e1]); (try rw [e2]); (try rw [e3]); (try rw [e4]); (try rw [e5]); (try rw [f1]); (try rw [f2]); (try rw [f3]); (try rw [f4]); (try rfl)) c739)
  exact next _ _ _ ⟨xa, (sF xg 6 (fSheet (xs (i + 1)) (xs (i + 2)) (xs (i + 3)))), xh, ys, ca, cg, cF, da, dg, dF, ra, rg, rF, rE, za, zg, zh, zk, zF, ma, (sF mg 0 (fSheet (xs (i + 1)) (xs (i + 2)) (xs (i + 3)))), mh, (sF mF 26 (sSheet (xs (i + 1)) (xs (i + 2)) (xs (i + 3)) ((mF 26)) (fun j ln _ => sF ((mF 26)) j ln))), (sF (sF mE 25 (sSheet (xs (i + 1)) (xs (i + 2)) (xs (i + 3)) ((mE 25)) (fun j _ m => sF ((mE 25)) j (nI m)))) 27 (sSheet (xs (i + 1)) (xs (i + 2)) (xs (i + 3)) ((mE 27)) (fun j _ m => zr ((mE 27)) (60 * j) m))), ta, (sF tg 2 (sF (sF (sF (tg 2) 0 (sSh (xs (i + 1)) (xs (i + 2)) (xs (i + 3)) (((tg 2) 0)) (fun _ _ => 1))) 1 (sSh (xs (i + 1)) (xs (i + 2)) (xs (i + 3)) (((tg 2) 1)) (fun ln _ => ln))) 2 (sSh (xs (i + 1)) (xs (i + 2)) (xs (i + 3)) (((tg 2) 2)) (fun _ m => m)))), (sF tf 2 (sSh (xs (i + 1)) (xs (i + 2)) (xs (i + 3)) ((tf 2)) (fun _ _ => fill60 (nI 0) (tf 2)))), hW, hRC, hRR, hRD, hSK, RT_sheet hRT (by decide) hkj, ⟨hRX.1, rfl⟩, hRM⟩ (lv_sub hl [0, 1, 2, 3] rfl)
set_option maxHeartbeats 4000000 in
set_option maxRecDepth 100000 in
theorem law_sheet_3 {p : Program} {e : Env} {s : State} {m : MethodId} {below : List Frame} {meth : Method} {c : Code} {D : va_G} {cI cZ cO : ClassId} {A : Nat → Prop} {Q : State → Prop} {l : Launch} {b L xq mq i : Nat} {xs : Nat → Int32} {H : Heap} {locs : List Loc} {ls : Array Slot} (X : Fx p s m #[Value.ref b] meth c code 4 ret wsL_law RL D (ty3 cI cZ cO) A) (hX : va_X b L xs s s.heap) (hbl : b < s.heap.size) (hbA : ¬ A b) (hL : L ≤ 3072) (hi : i + 6 ≤ L) (hI : lw_I D cI cZ cO A s.heap xq mq H locs) (hl : lv_has ls 4 [(3, .int (nI i)), (2, .ref mq), (1, .ref xq), (0, .ref b)]) (hkj : ¬ inR (xs (i + 1)) 4 ∨ xs (i + 1) = nI 3) (next : ∀ (H : Heap) (locs : List Loc) (ls : Array Slot), lw_I D cI cZ cO A s.heap xq mq H locs → lv_has ls 4 [(3, .int (nI i)), (2, .ref mq), (1, .ref xq), (0, .ref b)] → W p l e room_1 s m #[Value.ref b] below meth c H locs 600000 7302250 Q (F0 m 1045 ls [])) : W p l e room_1 s m #[Value.ref b] below meth c H locs 600000 7302250 Q (F0 m 701 ls []) := by
  obtain ⟨xa, xg, xh, ys, ca, cg, cF, da, dg, dF, ra, rg, rF, rE, za, zg, zh, zk, zF, ma, mg, mh, mF, mE, ta, tg, tf, hW, hRC, hRR, hRD, hSK, hRT, hRX, hRM⟩ := hI
  have hW : Wd D A s.heap H locs (wX cI cZ xq xa xg xh ++ (wA cO (xa 0) ys ++ (wC cI cZ (xa 1) ca cg cF ++ (wC cI cZ (xa 2) da dg dF ++ (wR cI cZ (xa 3) ra rg rF rE ++ (wS cI cZ (xa 4) za zg zh zk zF ++ (wT cI cZ (ys 0) (ta 0) (tg 0) ++ (wB cI ((ta 0) 3) (tf 0) ++ (wT cI cZ (ys 1) (ta 1) (tg 1) ++ (wB cI ((ta 1) 3) (tf 1) ++ (wT cI cZ (ys 2) (ta 2) (tg 2) ++ (wB cI ((ta 2) 3) (tf 2) ++ (wT cI cZ (ys 3) (ta 3) (tg 3) ++ (wB cI ((ta 3) 3) (tf 3) ++ (wM cI cZ mq ma mg mh mF mE))))))))))))))) := hW
  obtain ⟨h02, hn, hrn, hk, hlv, hm, e2, e1, e3, e4, e5⟩ := id hRC
  obtain ⟨hrc, hro, hra, hrd, f1, f2, f3, f4⟩ := id hRR
  obtain ⟨hdn, hdr, hdk, hdl, hdm⟩ := id hRD
  obtain ⟨ht0, ht1, ht2, htl, hts, htc⟩ := id hRT
  refine x_aload_n X dL_law_701 rfl (lv_at hl 2 rfl) ?_
  refine x_aload_n X dL_law_702 rfl (lv_at hl 3 rfl) ?_
  refine x_iload_n X dL_law_703 rfl (lv_at hl 0 rfl) ?_
  refine x_iconst (v := nI 1) X dL_law_704 (by decide) ?_
  refine n_iadd X dL_law_705 ?_
  refine x_sld X hW hX hbl hbA (j := i + 1) (by omega) (by omega) dL_law_706 ?_
  refine x_aload_n X dL_law_707 rfl (lv_at hl 3 rfl) ?_
  refine x_iload_n X dL_law_708 rfl (lv_at hl 0 rfl) ?_
  refine x_iconst (v := nI 2) X dL_law_709 (by decide) ?_
  refine n_iadd X dL_law_710 ?_
  refine x_sld X hW hX hbl hbA (j := i + 2) (by omega) (by omega) dL_law_711 ?_
  refine x_aload_n X dL_law_712 rfl (lv_at hl 3 rfl) ?_
  refine x_iload_n X dL_law_713 rfl (lv_at hl 0 rfl) ?_
  refine x_iconst (v := nI 3) X dL_law_714 (by decide) ?_
  refine n_iadd X dL_law_715 ?_
  refine x_sld X hW hX hbl hbA (j := i + 3) (by omega) (by omega) dL_law_716 ?_
  refine x_pcallVi X hW (As := [.int (xs (i + 1)), .int (xs (i + 2)), .int (xs (i + 3))]) (rest := []) (wz := fun u => (wX cI cZ xq xa (sF xg 6 (fSheet (xs (i + 1)) (xs (i + 2)) (xs (i + 3)))) xh ++ (wA cO (xa 0) ys ++ (wC cI cZ (xa 1) ca cg cF ++ (wC cI cZ (xa 2) da dg dF ++ (wR cI cZ (xa 3) ra rg rF rE ++ (wS cI cZ (xa 4) za zg zh zk zF ++ (wT cI cZ (ys 0) (ta 0) (tg 0) ++ (wB cI ((ta 0) 3) (tf 0) ++ (wT cI cZ (ys 1) (ta 1) (tg 1) ++ (wB cI ((ta 1) 3) (tf 1) ++ (wT cI cZ (ys 2) (ta 2) (tg 2) ++ (wB cI ((ta 2) 3) (tf 2) ++ (wT cI cZ (ys 3) (ta 3) (sF (sF (sF (tg 3) 0 (sSh (xs (i + 1)) (xs (i + 2)) (xs (i + 3)) (((tg 3) 0)) (fun _ _ => 1))) 1 (sSh (xs (i + 1)) (xs (i + 2)) (xs (i + 3)) (((tg 3) 1)) (fun ln _ => ln))) 2 (sSh (xs (i + 1)) (xs (i + 2)) (xs (i + 3)) (((tg 3) 2)) (fun _ m => m))) ++ (wB cI ((ta 3) 3) (sSh (xs (i + 1)) (xs (i + 2)) (xs (i + 3)) ((tf 3)) (fun _ _ => fill60 (nI 0) (tf 3))) ++ (wM cI cZ mq ma mg mh mF mE)))))))))))))))) (wC cI cZ (xa 1) ca cg cF ++ (wC cI cZ (xa 2) da dg dF ++ (wR cI cZ (xa 3) ra rg rF rE ++ (wS cI cZ (xa 4) za zg zh zk zF ++ (wT cI cZ (ys 0) (ta 0) (tg 0) ++ (wB cI ((ta 0) 3) (tf 0) ++ (wT cI cZ (ys 1) (ta 1) (tg 1) ++ (wB cI ((ta 1) 3) (tf 1) ++ (wT cI cZ (ys 2) (ta 2) (tg 2) ++ (wB cI ((ta 2) 3) (tf 2) ++ (wM cI cZ mq ma mg mh mF mE))))))))))) (c_X5_sheet l D cI cZ cO xq xa xg xh ys (ta 3) (tg 3) (tf 3) _ (xs (i + 1)) (xs (i + 2)) (xs (i + 3)) 3 (show 3 < 4 from (by decide)) (show ¬ inR (xs (i + 1)) 4 ∨ (xs (i + 1)) = nI 3 from hkj)) (cwV 3 X.2.2.2.2.2.1 gL_law_X5_sheet rfl rfl rfl (by decide +kernel) ⟨Nat.le_of_ble_eq_true rfl, Nat.le_of_ble_eq_true rfl⟩) 4 rfl rfl rfl (apn (mfr _ _) (apn (mfr _ _) (apn (mf (mf (mf (mf (mf (mf (mf (mf (mf (mf (mfr _ _))))))))))) (mf (mf (mf (mf (mf (mf (mf (mf (mf (mf (mfr _ _)))))))))))))) (fun u => (apn (mfr _ _) (apn (mfr _ _) (apn (mf (mf (mf (mf (mf (mf (mf (mf (mf (mf (mfr _ _))))))))))) (mf (mf (mf (mf (mf (mf (mf (mf (mf (mf (mfr _ _))))))))))))))) rfl hl.1 rfl (Nat.le_of_ble_eq_true rfl) ⟨Nat.le_of_ble_eq_true rfl, Nat.le_of_ble_eq_true rfl⟩ dL_law_717 (fun r1 u2 H locs w717 hW => ?_)
  have hW : Wd D A s.heap H locs (wX cI cZ xq xa (sF xg 6 (fSheet (xs (i + 1)) (xs (i + 2)) (xs (i + 3)))) xh ++ (wA cO (xa 0) ys ++ (wC cI cZ (xa 1) ca cg cF ++ (wC cI cZ (xa 2) da dg dF ++ (wR cI cZ (xa 3) ra rg rF rE ++ (wS cI cZ (xa 4) za zg zh zk zF ++ (wT cI cZ (ys 0) (ta 0) (tg 0) ++ (wB cI ((ta 0) 3) (tf 0) ++ (wT cI cZ (ys 1) (ta 1) (tg 1) ++ (wB cI ((ta 1) 3) (tf 1) ++ (wT cI cZ (ys 2) (ta 2) (tg 2) ++ (wB cI ((ta 2) 3) (tf 2) ++ (wT cI cZ (ys 3) (ta 3) (sF (sF (sF (tg 3) 0 (sSh (xs (i + 1)) (xs (i + 2)) (xs (i + 3)) (((tg 3) 0)) (fun _ _ => 1))) 1 (sSh (xs (i + 1)) (xs (i + 2)) (xs (i + 3)) (((tg 3) 1)) (fun ln _ => ln))) 2 (sSh (xs (i + 1)) (xs (i + 2)) (xs (i + 3)) (((tg 3) 2)) (fun _ m => m))) ++ (wB cI ((ta 3) 3) (sSh (xs (i + 1)) (xs (i + 2)) (xs (i + 3)) ((tf 3)) (fun _ _ => fill60 (nI 0) (tf 3))) ++ (wM cI cZ mq ma mg mh mF mE))))))))))))))) := hW
  replace w717 : r1 = aSheet (xs (i + 1)) (xs (i + 2)) (xs (i + 3)) := w717
  subst w717
  refine x_aload_n X dL_law_720 rfl (lv_at hl 1 rfl) ?_
  refine x_aload_n X dL_law_721 rfl (lv_at hl 3 rfl) ?_
  refine x_iload_n X dL_law_722 rfl (lv_at hl 0 rfl) ?_
  refine x_iconst (v := nI 1) X dL_law_723 (by decide) ?_
  refine n_iadd X dL_law_724 ?_
  refine x_sld X hW hX hbl hbA (j := i + 1) (by omega) (by omega) dL_law_725 ?_
  refine x_aload_n X dL_law_726 rfl (lv_at hl 3 rfl) ?_
  refine x_iload_n X dL_law_727 rfl (lv_at hl 0 rfl) ?_
  refine x_iconst (v := nI 2) X dL_law_728 (by decide) ?_
  refine n_iadd X dL_law_729 ?_
  refine x_sld X hW hX hbl hbA (j := i + 2) (by omega) (by omega) dL_law_730 ?_
  refine x_aload_n X dL_law_731 rfl (lv_at hl 3 rfl) ?_
  refine x_iload_n X dL_law_732 rfl (lv_at hl 0 rfl) ?_
  refine x_iconst (v := nI 3) X dL_law_733 (by decide) ?_
  refine n_iadd X dL_law_734 ?_
  refine x_sld X hW hX hbl hbA (j := i + 3) (by omega) (by omega) dL_law_735 ?_
  refine x_pcallVi X hW (As := [.int (xs (i + 1)), .int (xs (i + 2)), .int (xs (i + 3))]) (rest := [.int (aSheet (xs (i + 1)) (xs (i + 2)) (xs (i + 3)))]) (wz := fun u => (wX cI cZ xq xa (sF xg 6 (fSheet (xs (i + 1)) (xs (i + 2)) (xs (i + 3)))) xh ++ (wA cO (xa 0) ys ++ (wC cI cZ (xa 1) ca cg cF ++ (wC cI cZ (xa 2) da dg dF ++ (wR cI cZ (xa 3) ra rg rF rE ++ (wS cI cZ (xa 4) za zg zh zk zF ++ (wT cI cZ (ys 0) (ta 0) (tg 0) ++ (wB cI ((ta 0) 3) (tf 0) ++ (wT cI cZ (ys 1) (ta 1) (tg 1) ++ (wB cI ((ta 1) 3) (tf 1) ++ (wT cI cZ (ys 2) (ta 2) (tg 2) ++ (wB cI ((ta 2) 3) (tf 2) ++ (wT cI cZ (ys 3) (ta 3) (sF (sF (sF (tg 3) 0 (sSh (xs (i + 1)) (xs (i + 2)) (xs (i + 3)) (((tg 3) 0)) (fun _ _ => 1))) 1 (sSh (xs (i + 1)) (xs (i + 2)) (xs (i + 3)) (((tg 3) 1)) (fun ln _ => ln))) 2 (sSh (xs (i + 1)) (xs (i + 2)) (xs (i + 3)) (((tg 3) 2)) (fun _ m => m))) ++ (wB cI ((ta 3) 3) (sSh (xs (i + 1)) (xs (i + 2)) (xs (i + 3)) ((tf 3)) (fun _ _ => fill60 (nI 0) (tf 3))) ++ (wM cI cZ mq ma (sF mg 0 (fSheet (xs (i + 1)) (xs (i + 2)) (xs (i + 3)))) mh (sF mF 26 (sSheet (xs (i + 1)) (xs (i + 2)) (xs (i + 3)) ((mF 26)) (fun j ln _ => sF ((mF 26)) j ln))) (sF (sF mE 25 (sSheet (xs (i + 1)) (xs (i + 2)) (xs (i + 3)) ((mE 25)) (fun j _ m => sF ((mE 25)) j (nI m)))) 27 (sSheet (xs (i + 1)) (xs (i + 2)) (xs (i + 3)) ((mE 27)) (fun j _ m => zr ((mE 27)) (60 * j) m))))))))))))))))))) (wX cI cZ xq xa (sF xg 6 (fSheet (xs (i + 1)) (xs (i + 2)) (xs (i + 3)))) xh ++ (wA cO (xa 0) ys ++ (wC cI cZ (xa 1) ca cg cF ++ (wC cI cZ (xa 2) da dg dF ++ (wR cI cZ (xa 3) ra rg rF rE ++ (wS cI cZ (xa 4) za zg zh zk zF ++ (wT cI cZ (ys 0) (ta 0) (tg 0) ++ (wB cI ((ta 0) 3) (tf 0) ++ (wT cI cZ (ys 1) (ta 1) (tg 1) ++ (wB cI ((ta 1) 3) (tf 1) ++ (wT cI cZ (ys 2) (ta 2) (tg 2) ++ (wB cI ((ta 2) 3) (tf 2) ++ (wT cI cZ (ys 3) (ta 3) (sF (sF (sF (tg 3) 0 (sSh (xs (i + 1)) (xs (i + 2)) (xs (i + 3)) (((tg 3) 0)) (fun _ _ => 1))) 1 (sSh (xs (i + 1)) (xs (i + 2)) (xs (i + 3)) (((tg 3) 1)) (fun ln _ => ln))) 2 (sSh (xs (i + 1)) (xs (i + 2)) (xs (i + 3)) (((tg 3) 2)) (fun _ m => m))) ++ (wB cI ((ta 3) 3) (sSh (xs (i + 1)) (xs (i + 2)) (xs (i + 3)) ((tf 3)) (fun _ _ => fill60 (nI 0) (tf 3))))))))))))))))) (c_X6_sheet l D cI cZ cO mq ma mg mh mF mE _ (xs (i + 1)) (xs (i + 2)) (xs (i + 3))) (cwV 3 X.2.2.2.2.2.1 gL_law_X6_sheet rfl rfl rfl (by decide +kernel) ⟨Nat.le_of_ble_eq_true rfl, Nat.le_of_ble_eq_true rfl⟩) 5 rfl rfl rfl (ap1 (mf (mf (mf (mf (mf (mf (mf (mf (mf (mf (mf (mf (mf mf0)))))))))))))) (fun u => (ap1 (mf (mf (mf (mf (mf (mf (mf (mf (mf (mf (mf (mf (mf mf0))))))))))))))) rfl hl.1 rfl (Nat.le_of_ble_eq_true rfl) ⟨Nat.le_of_ble_eq_true rfl, Nat.le_of_ble_eq_true rfl⟩ dL_law_736 (fun r3 u4 H locs w736 hW => ?_)
  have hW : Wd D A s.heap H locs (wX cI cZ xq xa (sF xg 6 (fSheet (xs (i + 1)) (xs (i + 2)) (xs (i + 3)))) xh ++ (wA cO (xa 0) ys ++ (wC cI cZ (xa 1) ca cg cF ++ (wC cI cZ (xa 2) da dg dF ++ (wR cI cZ (xa 3) ra rg rF rE ++ (wS cI cZ (xa 4) za zg zh zk zF ++ (wT cI cZ (ys 0) (ta 0) (tg 0) ++ (wB cI ((ta 0) 3) (tf 0) ++ (wT cI cZ (ys 1) (ta 1) (tg 1) ++ (wB cI ((ta 1) 3) (tf 1) ++ (wT cI cZ (ys 2) (ta 2) (tg 2) ++ (wB cI ((ta 2) 3) (tf 2) ++ (wT cI cZ (ys 3) (ta 3) (sF (sF (sF (tg 3) 0 (sSh (xs (i + 1)) (xs (i + 2)) (xs (i + 3)) (((tg 3) 0)) (fun _ _ => 1))) 1 (sSh (xs (i + 1)) (xs (i + 2)) (xs (i + 3)) (((tg 3) 1)) (fun ln _ => ln))) 2 (sSh (xs (i + 1)) (xs (i + 2)) (xs (i + 3)) (((tg 3) 2)) (fun _ m => m))) ++ (wB cI ((ta 3) 3) (sSh (xs (i + 1)) (xs (i + 2)) (xs (i + 3)) ((tf 3)) (fun _ _ => fill60 (nI 0) (tf 3))) ++ (wM cI cZ mq ma (sF mg 0 (fSheet (xs (i + 1)) (xs (i + 2)) (xs (i + 3)))) mh (sF mF 26 (sSheet (xs (i + 1)) (xs (i + 2)) (xs (i + 3)) ((mF 26)) (fun j ln _ => sF ((mF 26)) j ln))) (sF (sF mE 25 (sSheet (xs (i + 1)) (xs (i + 2)) (xs (i + 3)) ((mE 25)) (fun j _ m => sF ((mE 25)) j (nI m)))) 27 (sSheet (xs (i + 1)) (xs (i + 2)) (xs (i + 3)) ((mE 27)) (fun j _ m => zr ((mE 27)) (60 * j) m)))))))))))))))))) := hW
  replace w736 : r3 = aSheet (xs (i + 1)) (xs (i + 2)) (xs (i + 3)) := w736
  subst w736
  refine x_icmp_eq X 1045 dL_law_739 (by decide) (fun c739 => ?_) (fun c739 => by exact absurd (by (try rw [e1]); (try rw [e2]); (try rw [e3]); (try rw [e4]); (try rw [e5]); (try rw [f1]); (try rw [f2]); (try rw [f3]); (try rw [f4]); (try rfl)) c739)
  exact next _ _ _ ⟨xa, (sF xg 6 (fSheet (xs (i + 1)) (xs (i + 2)) (xs (i + 3)))), xh, ys, ca, cg, cF, da, dg, dF, ra, rg, rF, rE, za, zg, zh, zk, zF, ma, (sF mg 0 (fSheet (xs (i + 1)) (xs (i + 2)) (xs (i + 3)))), mh, (sF mF 26 (sSheet (xs (i + 1)) (xs (i + 2)) (xs (i + 3)) ((mF 26)) (fun j ln _ => sF ((mF 26)) j ln))), (sF (sF mE 25 (sSheet (xs (i + 1)) (xs (i + 2)) (xs (i + 3)) ((mE 25)) (fun j _ m => sF ((mE 25)) j (nI m)))) 27 (sSheet (xs (i + 1)) (xs (i + 2)) (xs (i + 3)) ((mE 27)) (fun j _ m => zr ((mE 27)) (60 * j) m))), ta, (sF tg 3 (sF (sF (sF (tg 3) 0 (sSh (xs (i + 1)) (xs (i + 2)) (xs (i + 3)) (((tg 3) 0)) (fun _ _ => 1))) 1 (sSh (xs (i + 1)) (xs (i + 2)) (xs (i + 3)) (((tg 3) 1)) (fun ln _ => ln))) 2 (sSh (xs (i + 1)) (xs (i + 2)) (xs (i + 3)) (((tg 3) 2)) (fun _ m => m)))), (sF tf 3 (sSh (xs (i + 1)) (xs (i + 2)) (xs (i + 3)) ((tf 3)) (fun _ _ => fill60 (nI 0) (tf 3)))), hW, hRC, hRR, hRD, hSK, RT_sheet hRT (by decide) hkj, ⟨hRX.1, rfl⟩, hRM⟩ (lv_sub hl [0, 1, 2, 3] rfl)
theorem law_sheet {p : Program} {e : Env} {s : State} {m : MethodId} {below : List Frame} {meth : Method} {c : Code} {D : va_G} {cI cZ cO : ClassId} {A : Nat → Prop} {Q : State → Prop} {l : Launch} {b L xq mq i : Nat} {xs : Nat → Int32} {H : Heap} {locs : List Loc} {ls : Array Slot} (X : Fx p s m #[Value.ref b] meth c code 4 ret wsL_law RL D (ty3 cI cZ cO) A) (hX : va_X b L xs s s.heap) (hbl : b < s.heap.size) (hbA : ¬ A b) (hL : L ≤ 3072) (hi : i + 6 ≤ L) (hI : lw_I D cI cZ cO A s.heap xq mq H locs) (hl : lv_has ls 4 [(3, .int (nI i)), (2, .ref mq), (1, .ref xq), (0, .ref b)]) (next : ∀ (H : Heap) (locs : List Loc) (ls : Array Slot), lw_I D cI cZ cO A s.heap xq mq H locs → lv_has ls 4 [(3, .int (nI i)), (2, .ref mq), (1, .ref xq), (0, .ref b)] → W p l e room_1 s m #[Value.ref b] below meth c H locs 600000 7302250 Q (F0 m 1045 ls [])) : W p l e room_1 s m #[Value.ref b] below meth c H locs 600000 7302250 Q (F0 m 701 ls []) := by
  rcases k5 (xs (i + 1)) with h | h | h | h | h
  · exact law_sheet_0 X hX hbl hbA hL hi hI hl (Or.inl h) next
  · exact law_sheet_0 X hX hbl hbA hL hi hI hl (Or.inr h) next
  · exact law_sheet_1 X hX hbl hbA hL hi hI hl (Or.inr h) next
  · exact law_sheet_2 X hX hbl hbA hL hi hI hl (Or.inr h) next
  · exact law_sheet_3 X hX hbl hbA hL hi hI hl (Or.inr h) next
set_option maxHeartbeats 4000000 in
set_option maxRecDepth 100000 in
theorem law_lose_0 {p : Program} {e : Env} {s : State} {m : MethodId} {below : List Frame} {meth : Method} {c : Code} {D : va_G} {cI cZ cO : ClassId} {A : Nat → Prop} {Q : State → Prop} {l : Launch} {b L xq mq i : Nat} {xs : Nat → Int32} {H : Heap} {locs : List Loc} {ls : Array Slot} (X : Fx p s m #[Value.ref b] meth c code 4 ret wsL_law RL D (ty3 cI cZ cO) A) (hX : va_X b L xs s s.heap) (hbl : b < s.heap.size) (hbA : ¬ A b) (hL : L ≤ 3072) (hi : i + 6 ≤ L) (hI : lw_I D cI cZ cO A s.heap xq mq H locs) (hl : lv_has ls 4 [(3, .int (nI i)), (2, .ref mq), (1, .ref xq), (0, .ref b)]) (hkj : ¬ inR (xs (i + 1)) 4 ∨ xs (i + 1) = nI 0) (next : ∀ (H : Heap) (locs : List Loc) (ls : Array Slot), lw_I D cI cZ cO A s.heap xq mq H locs → lv_has ls 4 [(3, .int (nI i)), (2, .ref mq), (1, .ref xq), (0, .ref b)] → W p l e room_1 s m #[Value.ref b] below meth c H locs 600000 7302250 Q (F0 m 1045 ls [])) : W p l e room_1 s m #[Value.ref b] below meth c H locs 600000 7302250 Q (F0 m 744 ls []) := by
  obtain ⟨xa, xg, xh, ys, ca, cg, cF, da, dg, dF, ra, rg, rF, rE, za, zg, zh, zk, zF, ma, mg, mh, mF, mE, ta, tg, tf, hW, hRC, hRR, hRD, hSK, hRT, hRX, hRM⟩ := hI
  have hW : Wd D A s.heap H locs (wX cI cZ xq xa xg xh ++ (wA cO (xa 0) ys ++ (wC cI cZ (xa 1) ca cg cF ++ (wC cI cZ (xa 2) da dg dF ++ (wR cI cZ (xa 3) ra rg rF rE ++ (wS cI cZ (xa 4) za zg zh zk zF ++ (wT cI cZ (ys 0) (ta 0) (tg 0) ++ (wB cI ((ta 0) 3) (tf 0) ++ (wT cI cZ (ys 1) (ta 1) (tg 1) ++ (wB cI ((ta 1) 3) (tf 1) ++ (wT cI cZ (ys 2) (ta 2) (tg 2) ++ (wB cI ((ta 2) 3) (tf 2) ++ (wT cI cZ (ys 3) (ta 3) (tg 3) ++ (wB cI ((ta 3) 3) (tf 3) ++ (wM cI cZ mq ma mg mh mF mE))))))))))))))) := hW
  obtain ⟨h02, hn, hrn, hk, hlv, hm, e2, e1, e3, e4, e5⟩ := id hRC
  obtain ⟨hrc, hro, hra, hrd, f1, f2, f3, f4⟩ := id hRR
  obtain ⟨hdn, hdr, hdk, hdl, hdm⟩ := id hRD
  obtain ⟨ht0, ht1, ht2, htl, hts, htc⟩ := id hRT
  refine x_aload_n X dL_law_744 rfl (lv_at hl 2 rfl) ?_
  refine x_aload_n X dL_law_745 rfl (lv_at hl 3 rfl) ?_
  refine x_iload_n X dL_law_746 rfl (lv_at hl 0 rfl) ?_
  refine x_iconst (v := nI 1) X dL_law_747 (by decide) ?_
  refine n_iadd X dL_law_748 ?_
  refine x_sld X hW hX hbl hbA (j := i + 1) (by omega) (by omega) dL_law_749 ?_
  refine x_pcallVi X hW (As := [.int (xs (i + 1))]) (rest := []) (wz := fun u => (wX cI cZ xq xa xg xh ++ (wA cO (xa 0) ys ++ (wC cI cZ (xa 1) ca cg cF ++ (wC cI cZ (xa 2) da dg dF ++ (wR cI cZ (xa 3) ra rg rF rE ++ (wS cI cZ (xa 4) za zg zh zk zF ++ (wT cI cZ (ys 0) (ta 0) (sF (tg 0) 0 (onR (xs (i + 1)) 4 (((tg 0) 0)) (fun _ => 0))) ++ (wB cI ((ta 0) 3) (tf 0) ++ (wT cI cZ (ys 1) (ta 1) (tg 1) ++ (wB cI ((ta 1) 3) (tf 1) ++ (wT cI cZ (ys 2) (ta 2) (tg 2) ++ (wB cI ((ta 2) 3) (tf 2) ++ (wT cI cZ (ys 3) (ta 3) (tg 3) ++ (wB cI ((ta 3) 3) (tf 3) ++ (wM cI cZ mq ma mg mh mF mE)))))))))))))))) (wC cI cZ (xa 1) ca cg cF ++ (wC cI cZ (xa 2) da dg dF ++ (wR cI cZ (xa 3) ra rg rF rE ++ (wS cI cZ (xa 4) za zg zh zk zF ++ (wT cI cZ (ys 1) (ta 1) (tg 1) ++ (wB cI ((ta 1) 3) (tf 1) ++ (wT cI cZ (ys 2) (ta 2) (tg 2) ++ (wB cI ((ta 2) 3) (tf 2) ++ (wT cI cZ (ys 3) (ta 3) (tg 3) ++ (wB cI ((ta 3) 3) (tf 3) ++ (wM cI cZ mq ma mg mh mF mE))))))))))) (c_X5_lose l D cI cZ cO xq xa xg xh ys (ta 0) (tg 0) (tf 0) _ (xs (i + 1)) 0 (fun z => tg z 0) (show 0 < 4 from (by decide)) (show ¬ inR (xs (i + 1)) 4 ∨ (xs (i + 1)) = nI 0 from hkj) (show ((tg 0) 2) ≤ 60 from ht2 0) (show ((tg 0) 0) ≤ 1 from ht0 0) (show ((tg 0) 1) ≤ 2 from ht1 0) (show (fun z => tg z 0) 0 = ((tg 0) 0) from rfl)) (cwV 1 X.2.2.2.2.2.1 gL_law_X5_lose rfl rfl rfl (by decide +kernel) ⟨Nat.le_of_ble_eq_true rfl, Nat.le_of_ble_eq_true rfl⟩) 4 rfl rfl rfl (apn (mfr _ _) (apn (mfr _ _) (apn (mf (mf (mf (mf (mfr _ _))))) (mf (mf (mf (mf (mfr _ _)))))))) (fun u => (apn (mfr _ _) (apn (mfr _ _) (apn (mf (mf (mf (mf (mfr _ _))))) (mf (mf (mf (mf (mfr _ _))))))))) rfl hl.1 rfl (Nat.le_of_ble_eq_true rfl) ⟨Nat.le_of_ble_eq_true rfl, Nat.le_of_ble_eq_true rfl⟩ dL_law_750 (fun r1 u2 H locs w750 hW => ?_)
  have hW : Wd D A s.heap H locs (wX cI cZ xq xa xg xh ++ (wA cO (xa 0) ys ++ (wC cI cZ (xa 1) ca cg cF ++ (wC cI cZ (xa 2) da dg dF ++ (wR cI cZ (xa 3) ra rg rF rE ++ (wS cI cZ (xa 4) za zg zh zk zF ++ (wT cI cZ (ys 0) (ta 0) (sF (tg 0) 0 (onR (xs (i + 1)) 4 (((tg 0) 0)) (fun _ => 0))) ++ (wB cI ((ta 0) 3) (tf 0) ++ (wT cI cZ (ys 1) (ta 1) (tg 1) ++ (wB cI ((ta 1) 3) (tf 1) ++ (wT cI cZ (ys 2) (ta 2) (tg 2) ++ (wB cI ((ta 2) 3) (tf 2) ++ (wT cI cZ (ys 3) (ta 3) (tg 3) ++ (wB cI ((ta 3) 3) (tf 3) ++ (wM cI cZ mq ma mg mh mF mE))))))))))))))) := hW
  replace w750 : r1 = aLose (fun z => tg z 0) (xs (i + 1)) := w750
  subst w750
  refine x_aload_n X dL_law_753 rfl (lv_at hl 1 rfl) ?_
  refine x_aload_n X dL_law_754 rfl (lv_at hl 3 rfl) ?_
  refine x_iload_n X dL_law_755 rfl (lv_at hl 0 rfl) ?_
  refine x_iconst (v := nI 1) X dL_law_756 (by decide) ?_
  refine n_iadd X dL_law_757 ?_
  refine x_sld X hW hX hbl hbA (j := i + 1) (by omega) (by omega) dL_law_758 ?_
  refine x_pcallVi X hW (As := [.int (xs (i + 1))]) (rest := [.int (aLose (fun z => tg z 0) (xs (i + 1)))]) (wz := fun u => (wX cI cZ xq xa xg xh ++ (wA cO (xa 0) ys ++ (wC cI cZ (xa 1) ca cg cF ++ (wC cI cZ (xa 2) da dg dF ++ (wR cI cZ (xa 3) ra rg rF rE ++ (wS cI cZ (xa 4) za zg zh zk zF ++ (wT cI cZ (ys 0) (ta 0) (sF (tg 0) 0 (onR (xs (i + 1)) 4 (((tg 0) 0)) (fun _ => 0))) ++ (wB cI ((ta 0) 3) (tf 0) ++ (wT cI cZ (ys 1) (ta 1) (tg 1) ++ (wB cI ((ta 1) 3) (tf 1) ++ (wT cI cZ (ys 2) (ta 2) (tg 2) ++ (wB cI ((ta 2) 3) (tf 2) ++ (wT cI cZ (ys 3) (ta 3) (tg 3) ++ (wB cI ((ta 3) 3) (tf 3) ++ (wM cI cZ mq ma mg mh mF (sF mE 25 (onR (xs (i + 1)) 4 ((mE 25)) (fun j => sF ((mE 25)) j (-1)))))))))))))))))))) (wX cI cZ xq xa xg xh ++ (wA cO (xa 0) ys ++ (wC cI cZ (xa 1) ca cg cF ++ (wC cI cZ (xa 2) da dg dF ++ (wR cI cZ (xa 3) ra rg rF rE ++ (wS cI cZ (xa 4) za zg zh zk zF ++ (wT cI cZ (ys 0) (ta 0) (sF (tg 0) 0 (onR (xs (i + 1)) 4 (((tg 0) 0)) (fun _ => 0))) ++ (wB cI ((ta 0) 3) (tf 0) ++ (wT cI cZ (ys 1) (ta 1) (tg 1) ++ (wB cI ((ta 1) 3) (tf 1) ++ (wT cI cZ (ys 2) (ta 2) (tg 2) ++ (wB cI ((ta 2) 3) (tf 2) ++ (wT cI cZ (ys 3) (ta 3) (tg 3) ++ (wB cI ((ta 3) 3) (tf 3))))))))))))))) (c_X6_lose l D cI cZ cO mq ma mg mh mF mE _ (xs (i + 1)) (fun z => tg z 0) (fun z => tg z 2) (show ∀ z, z < 4 → ((fun z => tg z 0) z = 0 ∧ (mE 25) z = (-1 : Int32)) ∨ ((fun z => tg z 0) z = 1 ∧ (mE 25) z = nI ((fun z => tg z 2) z)) from hts) (show ∀ z0, (fun z => tg z 2) z0 ≤ 60 from ht2)) (cwV 1 X.2.2.2.2.2.1 gL_law_X6_lose rfl rfl rfl (by decide +kernel) ⟨Nat.le_of_ble_eq_true rfl, Nat.le_of_ble_eq_true rfl⟩) 5 rfl rfl rfl (ap1 (mf (mf (mf (mf (mf (mf (mf (mf (mf (mf (mf (mf (mf mf0)))))))))))))) (fun u => (ap1 (mf (mf (mf (mf (mf (mf (mf (mf (mf (mf (mf (mf (mf mf0))))))))))))))) rfl hl.1 rfl (Nat.le_of_ble_eq_true rfl) ⟨Nat.le_of_ble_eq_true rfl, Nat.le_of_ble_eq_true rfl⟩ dL_law_759 (fun r3 u4 H locs w759 hW => ?_)
  have hW : Wd D A s.heap H locs (wX cI cZ xq xa xg xh ++ (wA cO (xa 0) ys ++ (wC cI cZ (xa 1) ca cg cF ++ (wC cI cZ (xa 2) da dg dF ++ (wR cI cZ (xa 3) ra rg rF rE ++ (wS cI cZ (xa 4) za zg zh zk zF ++ (wT cI cZ (ys 0) (ta 0) (sF (tg 0) 0 (onR (xs (i + 1)) 4 (((tg 0) 0)) (fun _ => 0))) ++ (wB cI ((ta 0) 3) (tf 0) ++ (wT cI cZ (ys 1) (ta 1) (tg 1) ++ (wB cI ((ta 1) 3) (tf 1) ++ (wT cI cZ (ys 2) (ta 2) (tg 2) ++ (wB cI ((ta 2) 3) (tf 2) ++ (wT cI cZ (ys 3) (ta 3) (tg 3) ++ (wB cI ((ta 3) 3) (tf 3) ++ (wM cI cZ mq ma mg mh mF (sF mE 25 (onR (xs (i + 1)) 4 ((mE 25)) (fun j => sF ((mE 25)) j (-1))))))))))))))))))) := hW
  replace w759 : r3 = aLose (fun z => tg z 0) (xs (i + 1)) := w759
  subst w759
  refine x_icmp_eq X 1045 dL_law_762 (by decide) (fun c762 => ?_) (fun c762 => by exact absurd (by (try rw [e1]); (try rw [e2]); (try rw [e3]); (try rw [e4]); (try rw [e5]); (try rw [f1]); (try rw [f2]); (try rw [f3]); (try rw [f4]); (try rfl)) c762)
  exact next _ _ _ ⟨xa, xg, xh, ys, ca, cg, cF, da, dg, dF, ra, rg, rF, rE, za, zg, zh, zk, zF, ma, mg, mh, mF, (sF mE 25 (onR (xs (i + 1)) 4 ((mE 25)) (fun j => sF ((mE 25)) j (-1)))), ta, (sF tg 0 (sF (tg 0) 0 (onR (xs (i + 1)) 4 (((tg 0) 0)) (fun _ => 0)))), tf, hW, hRC, hRR, hRD, hSK, RT_lose hRT (by decide) hkj, hRX, hRM⟩ (lv_sub hl [0, 1, 2, 3] rfl)
set_option maxHeartbeats 4000000 in
set_option maxRecDepth 100000 in
theorem law_lose_1 {p : Program} {e : Env} {s : State} {m : MethodId} {below : List Frame} {meth : Method} {c : Code} {D : va_G} {cI cZ cO : ClassId} {A : Nat → Prop} {Q : State → Prop} {l : Launch} {b L xq mq i : Nat} {xs : Nat → Int32} {H : Heap} {locs : List Loc} {ls : Array Slot} (X : Fx p s m #[Value.ref b] meth c code 4 ret wsL_law RL D (ty3 cI cZ cO) A) (hX : va_X b L xs s s.heap) (hbl : b < s.heap.size) (hbA : ¬ A b) (hL : L ≤ 3072) (hi : i + 6 ≤ L) (hI : lw_I D cI cZ cO A s.heap xq mq H locs) (hl : lv_has ls 4 [(3, .int (nI i)), (2, .ref mq), (1, .ref xq), (0, .ref b)]) (hkj : ¬ inR (xs (i + 1)) 4 ∨ xs (i + 1) = nI 1) (next : ∀ (H : Heap) (locs : List Loc) (ls : Array Slot), lw_I D cI cZ cO A s.heap xq mq H locs → lv_has ls 4 [(3, .int (nI i)), (2, .ref mq), (1, .ref xq), (0, .ref b)] → W p l e room_1 s m #[Value.ref b] below meth c H locs 600000 7302250 Q (F0 m 1045 ls [])) : W p l e room_1 s m #[Value.ref b] below meth c H locs 600000 7302250 Q (F0 m 744 ls []) := by
  obtain ⟨xa, xg, xh, ys, ca, cg, cF, da, dg, dF, ra, rg, rF, rE, za, zg, zh, zk, zF, ma, mg, mh, mF, mE, ta, tg, tf, hW, hRC, hRR, hRD, hSK, hRT, hRX, hRM⟩ := hI
  have hW : Wd D A s.heap H locs (wX cI cZ xq xa xg xh ++ (wA cO (xa 0) ys ++ (wC cI cZ (xa 1) ca cg cF ++ (wC cI cZ (xa 2) da dg dF ++ (wR cI cZ (xa 3) ra rg rF rE ++ (wS cI cZ (xa 4) za zg zh zk zF ++ (wT cI cZ (ys 0) (ta 0) (tg 0) ++ (wB cI ((ta 0) 3) (tf 0) ++ (wT cI cZ (ys 1) (ta 1) (tg 1) ++ (wB cI ((ta 1) 3) (tf 1) ++ (wT cI cZ (ys 2) (ta 2) (tg 2) ++ (wB cI ((ta 2) 3) (tf 2) ++ (wT cI cZ (ys 3) (ta 3) (tg 3) ++ (wB cI ((ta 3) 3) (tf 3) ++ (wM cI cZ mq ma mg mh mF mE))))))))))))))) := hW
  obtain ⟨h02, hn, hrn, hk, hlv, hm, e2, e1, e3, e4, e5⟩ := id hRC
  obtain ⟨hrc, hro, hra, hrd, f1, f2, f3, f4⟩ := id hRR
  obtain ⟨hdn, hdr, hdk, hdl, hdm⟩ := id hRD
  obtain ⟨ht0, ht1, ht2, htl, hts, htc⟩ := id hRT
  refine x_aload_n X dL_law_744 rfl (lv_at hl 2 rfl) ?_
  refine x_aload_n X dL_law_745 rfl (lv_at hl 3 rfl) ?_
  refine x_iload_n X dL_law_746 rfl (lv_at hl 0 rfl) ?_
  refine x_iconst (v := nI 1) X dL_law_747 (by decide) ?_
  refine n_iadd X dL_law_748 ?_
  refine x_sld X hW hX hbl hbA (j := i + 1) (by omega) (by omega) dL_law_749 ?_
  refine x_pcallVi X hW (As := [.int (xs (i + 1))]) (rest := []) (wz := fun u => (wX cI cZ xq xa xg xh ++ (wA cO (xa 0) ys ++ (wC cI cZ (xa 1) ca cg cF ++ (wC cI cZ (xa 2) da dg dF ++ (wR cI cZ (xa 3) ra rg rF rE ++ (wS cI cZ (xa 4) za zg zh zk zF ++ (wT cI cZ (ys 0) (ta 0) (tg 0) ++ (wB cI ((ta 0) 3) (tf 0) ++ (wT cI cZ (ys 1) (ta 1) (sF (tg 1) 0 (onR (xs (i + 1)) 4 (((tg 1) 0)) (fun _ => 0))) ++ (wB cI ((ta 1) 3) (tf 1) ++ (wT cI cZ (ys 2) (ta 2) (tg 2) ++ (wB cI ((ta 2) 3) (tf 2) ++ (wT cI cZ (ys 3) (ta 3) (tg 3) ++ (wB cI ((ta 3) 3) (tf 3) ++ (wM cI cZ mq ma mg mh mF mE)))))))))))))))) (wC cI cZ (xa 1) ca cg cF ++ (wC cI cZ (xa 2) da dg dF ++ (wR cI cZ (xa 3) ra rg rF rE ++ (wS cI cZ (xa 4) za zg zh zk zF ++ (wT cI cZ (ys 0) (ta 0) (tg 0) ++ (wB cI ((ta 0) 3) (tf 0) ++ (wT cI cZ (ys 2) (ta 2) (tg 2) ++ (wB cI ((ta 2) 3) (tf 2) ++ (wT cI cZ (ys 3) (ta 3) (tg 3) ++ (wB cI ((ta 3) 3) (tf 3) ++ (wM cI cZ mq ma mg mh mF mE))))))))))) (c_X5_lose l D cI cZ cO xq xa xg xh ys (ta 1) (tg 1) (tf 1) _ (xs (i + 1)) 1 (fun z => tg z 0) (show 1 < 4 from (by decide)) (show ¬ inR (xs (i + 1)) 4 ∨ (xs (i + 1)) = nI 1 from hkj) (show ((tg 1) 2) ≤ 60 from ht2 1) (show ((tg 1) 0) ≤ 1 from ht0 1) (show ((tg 1) 1) ≤ 2 from ht1 1) (show (fun z => tg z 0) 1 = ((tg 1) 0) from rfl)) (cwV 1 X.2.2.2.2.2.1 gL_law_X5_lose rfl rfl rfl (by decide +kernel) ⟨Nat.le_of_ble_eq_true rfl, Nat.le_of_ble_eq_true rfl⟩) 4 rfl rfl rfl (apn (mfr _ _) (apn (mfr _ _) (apn (mf (mf (mf (mf (mf (mf (mfr _ _))))))) (mf (mf (mf (mf (mf (mf (mfr _ _)))))))))) (fun u => (apn (mfr _ _) (apn (mfr _ _) (apn (mf (mf (mf (mf (mf (mf (mfr _ _))))))) (mf (mf (mf (mf (mf (mf (mfr _ _))))))))))) rfl hl.1 rfl (Nat.le_of_ble_eq_true rfl) ⟨Nat.le_of_ble_eq_true rfl, Nat.le_of_ble_eq_true rfl⟩ dL_law_750 (fun r1 u2 H locs w750 hW => ?_)
  have hW : Wd D A s.heap H locs (wX cI cZ xq xa xg xh ++ (wA cO (xa 0) ys ++ (wC cI cZ (xa 1) ca cg cF ++ (wC cI cZ (xa 2) da dg dF ++ (wR cI cZ (xa 3) ra rg rF rE ++ (wS cI cZ (xa 4) za zg zh zk zF ++ (wT cI cZ (ys 0) (ta 0) (tg 0) ++ (wB cI ((ta 0) 3) (tf 0) ++ (wT cI cZ (ys 1) (ta 1) (sF (tg 1) 0 (onR (xs (i + 1)) 4 (((tg 1) 0)) (fun _ => 0))) ++ (wB cI ((ta 1) 3) (tf 1) ++ (wT cI cZ (ys 2) (ta 2) (tg 2) ++ (wB cI ((ta 2) 3) (tf 2) ++ (wT cI cZ (ys 3) (ta 3) (tg 3) ++ (wB cI ((ta 3) 3) (tf 3) ++ (wM cI cZ mq ma mg mh mF mE))))))))))))))) := hW
  replace w750 : r1 = aLose (fun z => tg z 0) (xs (i + 1)) := w750
  subst w750
  refine x_aload_n X dL_law_753 rfl (lv_at hl 1 rfl) ?_
  refine x_aload_n X dL_law_754 rfl (lv_at hl 3 rfl) ?_
  refine x_iload_n X dL_law_755 rfl (lv_at hl 0 rfl) ?_
  refine x_iconst (v := nI 1) X dL_law_756 (by decide) ?_
  refine n_iadd X dL_law_757 ?_
  refine x_sld X hW hX hbl hbA (j := i + 1) (by omega) (by omega) dL_law_758 ?_
  refine x_pcallVi X hW (As := [.int (xs (i + 1))]) (rest := [.int (aLose (fun z => tg z 0) (xs (i + 1)))]) (wz := fun u => (wX cI cZ xq xa xg xh ++ (wA cO (xa 0) ys ++ (wC cI cZ (xa 1) ca cg cF ++ (wC cI cZ (xa 2) da dg dF ++ (wR cI cZ (xa 3) ra rg rF rE ++ (wS cI cZ (xa 4) za zg zh zk zF ++ (wT cI cZ (ys 0) (ta 0) (tg 0) ++ (wB cI ((ta 0) 3) (tf 0) ++ (wT cI cZ (ys 1) (ta 1) (sF (tg 1) 0 (onR (xs (i + 1)) 4 (((tg 1) 0)) (fun _ => 0))) ++ (wB cI ((ta 1) 3) (tf 1) ++ (wT cI cZ (ys 2) (ta 2) (tg 2) ++ (wB cI ((ta 2) 3) (tf 2) ++ (wT cI cZ (ys 3) (ta 3) (tg 3) ++ (wB cI ((ta 3) 3) (tf 3) ++ (wM cI cZ mq ma mg mh mF (sF mE 25 (onR (xs (i + 1)) 4 ((mE 25)) (fun j => sF ((mE 25)) j (-1)))))))))))))))))))) (wX cI cZ xq xa xg xh ++ (wA cO (xa 0) ys ++ (wC cI cZ (xa 1) ca cg cF ++ (wC cI cZ (xa 2) da dg dF ++ (wR cI cZ (xa 3) ra rg rF rE ++ (wS cI cZ (xa 4) za zg zh zk zF ++ (wT cI cZ (ys 0) (ta 0) (tg 0) ++ (wB cI ((ta 0) 3) (tf 0) ++ (wT cI cZ (ys 1) (ta 1) (sF (tg 1) 0 (onR (xs (i + 1)) 4 (((tg 1) 0)) (fun _ => 0))) ++ (wB cI ((ta 1) 3) (tf 1) ++ (wT cI cZ (ys 2) (ta 2) (tg 2) ++ (wB cI ((ta 2) 3) (tf 2) ++ (wT cI cZ (ys 3) (ta 3) (tg 3) ++ (wB cI ((ta 3) 3) (tf 3))))))))))))))) (c_X6_lose l D cI cZ cO mq ma mg mh mF mE _ (xs (i + 1)) (fun z => tg z 0) (fun z => tg z 2) (show ∀ z, z < 4 → ((fun z => tg z 0) z = 0 ∧ (mE 25) z = (-1 : Int32)) ∨ ((fun z => tg z 0) z = 1 ∧ (mE 25) z = nI ((fun z => tg z 2) z)) from hts) (show ∀ z0, (fun z => tg z 2) z0 ≤ 60 from ht2)) (cwV 1 X.2.2.2.2.2.1 gL_law_X6_lose rfl rfl rfl (by decide +kernel) ⟨Nat.le_of_ble_eq_true rfl, Nat.le_of_ble_eq_true rfl⟩) 5 rfl rfl rfl (ap1 (mf (mf (mf (mf (mf (mf (mf (mf (mf (mf (mf (mf (mf mf0)))))))))))))) (fun u => (ap1 (mf (mf (mf (mf (mf (mf (mf (mf (mf (mf (mf (mf (mf mf0))))))))))))))) rfl hl.1 rfl (Nat.le_of_ble_eq_true rfl) ⟨Nat.le_of_ble_eq_true rfl, Nat.le_of_ble_eq_true rfl⟩ dL_law_759 (fun r3 u4 H locs w759 hW => ?_)
  have hW : Wd D A s.heap H locs (wX cI cZ xq xa xg xh ++ (wA cO (xa 0) ys ++ (wC cI cZ (xa 1) ca cg cF ++ (wC cI cZ (xa 2) da dg dF ++ (wR cI cZ (xa 3) ra rg rF rE ++ (wS cI cZ (xa 4) za zg zh zk zF ++ (wT cI cZ (ys 0) (ta 0) (tg 0) ++ (wB cI ((ta 0) 3) (tf 0) ++ (wT cI cZ (ys 1) (ta 1) (sF (tg 1) 0 (onR (xs (i + 1)) 4 (((tg 1) 0)) (fun _ => 0))) ++ (wB cI ((ta 1) 3) (tf 1) ++ (wT cI cZ (ys 2) (ta 2) (tg 2) ++ (wB cI ((ta 2) 3) (tf 2) ++ (wT cI cZ (ys 3) (ta 3) (tg 3) ++ (wB cI ((ta 3) 3) (tf 3) ++ (wM cI cZ mq ma mg mh mF (sF mE 25 (onR (xs (i + 1)) 4 ((mE 25)) (fun j => sF ((mE 25)) j (-1))))))))))))))))))) := hW
  replace w759 : r3 = aLose (fun z => tg z 0) (xs (i + 1)) := w759
  subst w759
  refine x_icmp_eq X 1045 dL_law_762 (by decide) (fun c762 => ?_) (fun c762 => by exact absurd (by (try rw [e1]); (try rw [e2]); (try rw [e3]); (try rw [e4]); (try rw [e5]); (try rw [f1]); (try rw [f2]); (try rw [f3]); (try rw [f4]); (try rfl)) c762)
  exact next _ _ _ ⟨xa, xg, xh, ys, ca, cg, cF, da, dg, dF, ra, rg, rF, rE, za, zg, zh, zk, zF, ma, mg, mh, mF, (sF mE 25 (onR (xs (i + 1)) 4 ((mE 25)) (fun j => sF ((mE 25)) j (-1)))), ta, (sF tg 1 (sF (tg 1) 0 (onR (xs (i + 1)) 4 (((tg 1) 0)) (fun _ => 0)))), tf, hW, hRC, hRR, hRD, hSK, RT_lose hRT (by decide) hkj, hRX, hRM⟩ (lv_sub hl [0, 1, 2, 3] rfl)
set_option maxHeartbeats 4000000 in
set_option maxRecDepth 100000 in
theorem law_lose_2 {p : Program} {e : Env} {s : State} {m : MethodId} {below : List Frame} {meth : Method} {c : Code} {D : va_G} {cI cZ cO : ClassId} {A : Nat → Prop} {Q : State → Prop} {l : Launch} {b L xq mq i : Nat} {xs : Nat → Int32} {H : Heap} {locs : List Loc} {ls : Array Slot} (X : Fx p s m #[Value.ref b] meth c code 4 ret wsL_law RL D (ty3 cI cZ cO) A) (hX : va_X b L xs s s.heap) (hbl : b < s.heap.size) (hbA : ¬ A b) (hL : L ≤ 3072) (hi : i + 6 ≤ L) (hI : lw_I D cI cZ cO A s.heap xq mq H locs) (hl : lv_has ls 4 [(3, .int (nI i)), (2, .ref mq), (1, .ref xq), (0, .ref b)]) (hkj : ¬ inR (xs (i + 1)) 4 ∨ xs (i + 1) = nI 2) (next : ∀ (H : Heap) (locs : List Loc) (ls : Array Slot), lw_I D cI cZ cO A s.heap xq mq H locs → lv_has ls 4 [(3, .int (nI i)), (2, .ref mq), (1, .ref xq), (0, .ref b)] → W p l e room_1 s m #[Value.ref b] below meth c H locs 600000 7302250 Q (F0 m 1045 ls [])) : W p l e room_1 s m #[Value.ref b] below meth c H locs 600000 7302250 Q (F0 m 744 ls []) := by
  obtain ⟨xa, xg, xh, ys, ca, cg, cF, da, dg, dF, ra, rg, rF, rE, za, zg, zh, zk, zF, ma, mg, mh, mF, mE, ta, tg, tf, hW, hRC, hRR, hRD, hSK, hRT, hRX, hRM⟩ := hI
  have hW : Wd D A s.heap H locs (wX cI cZ xq xa xg xh ++ (wA cO (xa 0) ys ++ (wC cI cZ (xa 1) ca cg cF ++ (wC cI cZ (xa 2) da dg dF ++ (wR cI cZ (xa 3) ra rg rF rE ++ (wS cI cZ (xa 4) za zg zh zk zF ++ (wT cI cZ (ys 0) (ta 0) (tg 0) ++ (wB cI ((ta 0) 3) (tf 0) ++ (wT cI cZ (ys 1) (ta 1) (tg 1) ++ (wB cI ((ta 1) 3) (tf 1) ++ (wT cI cZ (ys 2) (ta 2) (tg 2) ++ (wB cI ((ta 2) 3) (tf 2) ++ (wT cI cZ (ys 3) (ta 3) (tg 3) ++ (wB cI ((ta 3) 3) (tf 3) ++ (wM cI cZ mq ma mg mh mF mE))))))))))))))) := hW
  obtain ⟨h02, hn, hrn, hk, hlv, hm, e2, e1, e3, e4, e5⟩ := id hRC
  obtain ⟨hrc, hro, hra, hrd, f1, f2, f3, f4⟩ := id hRR
  obtain ⟨hdn, hdr, hdk, hdl, hdm⟩ := id hRD
  obtain ⟨ht0, ht1, ht2, htl, hts, htc⟩ := id hRT
  refine x_aload_n X dL_law_744 rfl (lv_at hl 2 rfl) ?_
  refine x_aload_n X dL_law_745 rfl (lv_at hl 3 rfl) ?_
  refine x_iload_n X dL_law_746 rfl (lv_at hl 0 rfl) ?_
  refine x_iconst (v := nI 1) X dL_law_747 (by decide) ?_
  refine n_iadd X dL_law_748 ?_
  refine x_sld X hW hX hbl hbA (j := i + 1) (by omega) (by omega) dL_law_749 ?_
  refine x_pcallVi X hW (As := [.int (xs (i + 1))]) (rest := []) (wz := fun u => (wX cI cZ xq xa xg xh ++ (wA cO (xa 0) ys ++ (wC cI cZ (xa 1) ca cg cF ++ (wC cI cZ (xa 2) da dg dF ++ (wR cI cZ (xa 3) ra rg rF rE ++ (wS cI cZ (xa 4) za zg zh zk zF ++ (wT cI cZ (ys 0) (ta 0) (tg 0) ++ (wB cI ((ta 0) 3) (tf 0) ++ (wT cI cZ (ys 1) (ta 1) (tg 1) ++ (wB cI ((ta 1) 3) (tf 1) ++ (wT cI cZ (ys 2) (ta 2) (sF (tg 2) 0 (onR (xs (i + 1)) 4 (((tg 2) 0)) (fun _ => 0))) ++ (wB cI ((ta 2) 3) (tf 2) ++ (wT cI cZ (ys 3) (ta 3) (tg 3) ++ (wB cI ((ta 3) 3) (tf 3) ++ (wM cI cZ mq ma mg mh mF mE)))))))))))))))) (wC cI cZ (xa 1) ca cg cF ++ (wC cI cZ (xa 2) da dg dF ++ (wR cI cZ (xa 3) ra rg rF rE ++ (wS cI cZ (xa 4) za zg zh zk zF ++ (wT cI cZ (ys 0) (ta 0) (tg 0) ++ (wB cI ((ta 0) 3) (tf 0) ++ (wT cI cZ (ys 1) (ta 1) (tg 1) ++ (wB cI ((ta 1) 3) (tf 1) ++ (wT cI cZ (ys 3) (ta 3) (tg 3) ++ (wB cI ((ta 3) 3) (tf 3) ++ (wM cI cZ mq ma mg mh mF mE))))))))))) (c_X5_lose l D cI cZ cO xq xa xg xh ys (ta 2) (tg 2) (tf 2) _ (xs (i + 1)) 2 (fun z => tg z 0) (show 2 < 4 from (by decide)) (show ¬ inR (xs (i + 1)) 4 ∨ (xs (i + 1)) = nI 2 from hkj) (show ((tg 2) 2) ≤ 60 from ht2 2) (show ((tg 2) 0) ≤ 1 from ht0 2) (show ((tg 2) 1) ≤ 2 from ht1 2) (show (fun z => tg z 0) 2 = ((tg 2) 0) from rfl)) (cwV 1 X.2.2.2.2.2.1 gL_law_X5_lose rfl rfl rfl (by decide +kernel) ⟨Nat.le_of_ble_eq_true rfl, Nat.le_of_ble_eq_true rfl⟩) 4 rfl rfl rfl (apn (mfr _ _) (apn (mfr _ _) (apn (mf (mf (mf (mf (mf (mf (mf (mf (mfr _ _))))))))) (mf (mf (mf (mf (mf (mf (mf (mf (mfr _ _)))))))))))) (fun u => (apn (mfr _ _) (apn (mfr _ _) (apn (mf (mf (mf (mf (mf (mf (mf (mf (mfr _ _))))))))) (mf (mf (mf (mf (mf (mf (mf (mf (mfr _ _))))))))))))) rfl hl.1 rfl (Nat.le_of_ble_eq_true rfl) ⟨Nat.le_of_ble_eq_true rfl, Nat.le_of_ble_eq_true rfl⟩ dL_law_750 (fun r1 u2 H locs w750 hW => ?_)
  have hW : Wd D A s.heap H locs (wX cI cZ xq xa xg xh ++ (wA cO (xa 0) ys ++ (wC cI cZ (xa 1) ca cg cF ++ (wC cI cZ (xa 2) da dg dF ++ (wR cI cZ (xa 3) ra rg rF rE ++ (wS cI cZ (xa 4) za zg zh zk zF ++ (wT cI cZ (ys 0) (ta 0) (tg 0) ++ (wB cI ((ta 0) 3) (tf 0) ++ (wT cI cZ (ys 1) (ta 1) (tg 1) ++ (wB cI ((ta 1) 3) (tf 1) ++ (wT cI cZ (ys 2) (ta 2) (sF (tg 2) 0 (onR (xs (i + 1)) 4 (((tg 2) 0)) (fun _ => 0))) ++ (wB cI ((ta 2) 3) (tf 2) ++ (wT cI cZ (ys 3) (ta 3) (tg 3) ++ (wB cI ((ta 3) 3) (tf 3) ++ (wM cI cZ mq ma mg mh mF mE))))))))))))))) := hW
  replace w750 : r1 = aLose (fun z => tg z 0) (xs (i + 1)) := w750
  subst w750
  refine x_aload_n X dL_law_753 rfl (lv_at hl 1 rfl) ?_
  refine x_aload_n X dL_law_754 rfl (lv_at hl 3 rfl) ?_
  refine x_iload_n X dL_law_755 rfl (lv_at hl 0 rfl) ?_
  refine x_iconst (v := nI 1) X dL_law_756 (by decide) ?_
  refine n_iadd X dL_law_757 ?_
  refine x_sld X hW hX hbl hbA (j := i + 1) (by omega) (by omega) dL_law_758 ?_
  refine x_pcallVi X hW (As := [.int (xs (i + 1))]) (rest := [.int (aLose (fun z => tg z 0) (xs (i + 1)))]) (wz := fun u => (wX cI cZ xq xa xg xh ++ (wA cO (xa 0) ys ++ (wC cI cZ (xa 1) ca cg cF ++ (wC cI cZ (xa 2) da dg dF ++ (wR cI cZ (xa 3) ra rg rF rE ++ (wS cI cZ (xa 4) za zg zh zk zF ++ (wT cI cZ (ys 0) (ta 0) (tg 0) ++ (wB cI ((ta 0) 3) (tf 0) ++ (wT cI cZ (ys 1) (ta 1) (tg 1) ++ (wB cI ((ta 1) 3) (tf 1) ++ (wT cI cZ (ys 2) (ta 2) (sF (tg 2) 0 (onR (xs (i + 1)) 4 (((tg 2) 0)) (fun _ => 0))) ++ (wB cI ((ta 2) 3) (tf 2) ++ (wT cI cZ (ys 3) (ta 3) (tg 3) ++ (wB cI ((ta 3) 3) (tf 3) ++ (wM cI cZ mq ma mg mh mF (sF mE 25 (onR (xs (i + 1)) 4 ((mE 25)) (fun j => sF ((mE 25)) j (-1)))))))))))))))))))) (wX cI cZ xq xa xg xh ++ (wA cO (xa 0) ys ++ (wC cI cZ (xa 1) ca cg cF ++ (wC cI cZ (xa 2) da dg dF ++ (wR cI cZ (xa 3) ra rg rF rE ++ (wS cI cZ (xa 4) za zg zh zk zF ++ (wT cI cZ (ys 0) (ta 0) (tg 0) ++ (wB cI ((ta 0) 3) (tf 0) ++ (wT cI cZ (ys 1) (ta 1) (tg 1) ++ (wB cI ((ta 1) 3) (tf 1) ++ (wT cI cZ (ys 2) (ta 2) (sF (tg 2) 0 (onR (xs (i + 1)) 4 (((tg 2) 0)) (fun _ => 0))) ++ (wB cI ((ta 2) 3) (tf 2) ++ (wT cI cZ (ys 3) (ta 3) (tg 3) ++ (wB cI ((ta 3) 3) (tf 3))))))))))))))) (c_X6_lose l D cI cZ cO mq ma mg mh mF mE _ (xs (i + 1)) (fun z => tg z 0) (fun z => tg z 2) (show ∀ z, z < 4 → ((fun z => tg z 0) z = 0 ∧ (mE 25) z = (-1 : Int32)) ∨ ((fun z => tg z 0) z = 1 ∧ (mE 25) z = nI ((fun z => tg z 2) z)) from hts) (show ∀ z0, (fun z => tg z 2) z0 ≤ 60 from ht2)) (cwV 1 X.2.2.2.2.2.1 gL_law_X6_lose rfl rfl rfl (by decide +kernel) ⟨Nat.le_of_ble_eq_true rfl, Nat.le_of_ble_eq_true rfl⟩) 5 rfl rfl rfl (ap1 (mf (mf (mf (mf (mf (mf (mf (mf (mf (mf (mf (mf (mf mf0)))))))))))))) (fun u => (ap1 (mf (mf (mf (mf (mf (mf (mf (mf (mf (mf (mf (mf (mf mf0))))))))))))))) rfl hl.1 rfl (Nat.le_of_ble_eq_true rfl) ⟨Nat.le_of_ble_eq_true rfl, Nat.le_of_ble_eq_true rfl⟩ dL_law_759 (fun r3 u4 H locs w759 hW => ?_)
  have hW : Wd D A s.heap H locs (wX cI cZ xq xa xg xh ++ (wA cO (xa 0) ys ++ (wC cI cZ (xa 1) ca cg cF ++ (wC cI cZ (xa 2) da dg dF ++ (wR cI cZ (xa 3) ra rg rF rE ++ (wS cI cZ (xa 4) za zg zh zk zF ++ (wT cI cZ (ys 0) (ta 0) (tg 0) ++ (wB cI ((ta 0) 3) (tf 0) ++ (wT cI cZ (ys 1) (ta 1) (tg 1) ++ (wB cI ((ta 1) 3) (tf 1) ++ (wT cI cZ (ys 2) (ta 2) (sF (tg 2) 0 (onR (xs (i + 1)) 4 (((tg 2) 0)) (fun _ => 0))) ++ (wB cI ((ta 2) 3) (tf 2) ++ (wT cI cZ (ys 3) (ta 3) (tg 3) ++ (wB cI ((ta 3) 3) (tf 3) ++ (wM cI cZ mq ma mg mh mF (sF mE 25 (onR (xs (i + 1)) 4 ((mE 25)) (fun j => sF ((mE 25)) j (-1))))))))))))))))))) := hW
  replace w759 : r3 = aLose (fun z => tg z 0) (xs (i + 1)) := w759
  subst w759
  refine x_icmp_eq X 1045 dL_law_762 (by decide) (fun c762 => ?_) (fun c762 => by exact absurd (by (try rw [e1]); (try rw [e2]); (try rw [e3]); (try rw [e4]); (try rw [e5]); (try rw [f1]); (try rw [f2]); (try rw [f3]); (try rw [f4]); (try rfl)) c762)
  exact next _ _ _ ⟨xa, xg, xh, ys, ca, cg, cF, da, dg, dF, ra, rg, rF, rE, za, zg, zh, zk, zF, ma, mg, mh, mF, (sF mE 25 (onR (xs (i + 1)) 4 ((mE 25)) (fun j => sF ((mE 25)) j (-1)))), ta, (sF tg 2 (sF (tg 2) 0 (onR (xs (i + 1)) 4 (((tg 2) 0)) (fun _ => 0)))), tf, hW, hRC, hRR, hRD, hSK, RT_lose hRT (by decide) hkj, hRX, hRM⟩ (lv_sub hl [0, 1, 2, 3] rfl)
set_option maxHeartbeats 4000000 in
set_option maxRecDepth 100000 in
theorem law_lose_3 {p : Program} {e : Env} {s : State} {m : MethodId} {below : List Frame} {meth : Method} {c : Code} {D : va_G} {cI cZ cO : ClassId} {A : Nat → Prop} {Q : State → Prop} {l : Launch} {b L xq mq i : Nat} {xs : Nat → Int32} {H : Heap} {locs : List Loc} {ls : Array Slot} (X : Fx p s m #[Value.ref b] meth c code 4 ret wsL_law RL D (ty3 cI cZ cO) A) (hX : va_X b L xs s s.heap) (hbl : b < s.heap.size) (hbA : ¬ A b) (hL : L ≤ 3072) (hi : i + 6 ≤ L) (hI : lw_I D cI cZ cO A s.heap xq mq H locs) (hl : lv_has ls 4 [(3, .int (nI i)), (2, .ref mq), (1, .ref xq), (0, .ref b)]) (hkj : ¬ inR (xs (i + 1)) 4 ∨ xs (i + 1) = nI 3) (next : ∀ (H : Heap) (locs : List Loc) (ls : Array Slot), lw_I D cI cZ cO A s.heap xq mq H locs → lv_has ls 4 [(3, .int (nI i)), (2, .ref mq), (1, .ref xq), (0, .ref b)] → W p l e room_1 s m #[Value.ref b] below meth c H locs 600000 7302250 Q (F0 m 1045 ls [])) : W p l e room_1 s m #[Value.ref b] below meth c H locs 600000 7302250 Q (F0 m 744 ls []) := by
  obtain ⟨xa, xg, xh, ys, ca, cg, cF, da, dg, dF, ra, rg, rF, rE, za, zg, zh, zk, zF, ma, mg, mh, mF, mE, ta, tg, tf, hW, hRC, hRR, hRD, hSK, hRT, hRX, hRM⟩ := hI
  have hW : Wd D A s.heap H locs (wX cI cZ xq xa xg xh ++ (wA cO (xa 0) ys ++ (wC cI cZ (xa 1) ca cg cF ++ (wC cI cZ (xa 2) da dg dF ++ (wR cI cZ (xa 3) ra rg rF rE ++ (wS cI cZ (xa 4) za zg zh zk zF ++ (wT cI cZ (ys 0) (ta 0) (tg 0) ++ (wB cI ((ta 0) 3) (tf 0) ++ (wT cI cZ (ys 1) (ta 1) (tg 1) ++ (wB cI ((ta 1) 3) (tf 1) ++ (wT cI cZ (ys 2) (ta 2) (tg 2) ++ (wB cI ((ta 2) 3) (tf 2) ++ (wT cI cZ (ys 3) (ta 3) (tg 3) ++ (wB cI ((ta 3) 3) (tf 3) ++ (wM cI cZ mq ma mg mh mF mE))))))))))))))) := hW
  obtain ⟨h02, hn, hrn, hk, hlv, hm, e2, e1, e3, e4, e5⟩ := id hRC
  obtain ⟨hrc, hro, hra, hrd, f1, f2, f3, f4⟩ := id hRR
  obtain ⟨hdn, hdr, hdk, hdl, hdm⟩ := id hRD
  obtain ⟨ht0, ht1, ht2, htl, hts, htc⟩ := id hRT
  refine x_aload_n X dL_law_744 rfl (lv_at hl 2 rfl) ?_
  refine x_aload_n X dL_law_745 rfl (lv_at hl 3 rfl) ?_
  refine x_iload_n X dL_law_746 rfl (lv_at hl 0 rfl) ?_
  refine x_iconst (v := nI 1) X dL_law_747 (by decide) ?_
  refine n_iadd X dL_law_748 ?_
  refine x_sld X hW hX hbl hbA (j := i + 1) (by omega) (by omega) dL_law_749 ?_
  refine x_pcallVi X hW (As := [.int (xs (i + 1))]) (rest := []) (wz := fun u => (wX cI cZ xq xa xg xh ++ (wA cO (xa 0) ys ++ (wC cI cZ (xa 1) ca cg cF ++ (wC cI cZ (xa 2) da dg dF ++ (wR cI cZ (xa 3) ra rg rF rE ++ (wS cI cZ (xa 4) za zg zh zk zF ++ (wT cI cZ (ys 0) (ta 0) (tg 0) ++ (wB cI ((ta 0) 3) (tf 0) ++ (wT cI cZ (ys 1) (ta 1) (tg 1) ++ (wB cI ((ta 1) 3) (tf 1) ++ (wT cI cZ (ys 2) (ta 2) (tg 2) ++ (wB cI ((ta 2) 3) (tf 2) ++ (wT cI cZ (ys 3) (ta 3) (sF (tg 3) 0 (onR (xs (i + 1)) 4 (((tg 3) 0)) (fun _ => 0))) ++ (wB cI ((ta 3) 3) (tf 3) ++ (wM cI cZ mq ma mg mh mF mE)))))))))))))))) (wC cI cZ (xa 1) ca cg cF ++ (wC cI cZ (xa 2) da dg dF ++ (wR cI cZ (xa 3) ra rg rF rE ++ (wS cI cZ (xa 4) za zg zh zk zF ++ (wT cI cZ (ys 0) (ta 0) (tg 0) ++ (wB cI ((ta 0) 3) (tf 0) ++ (wT cI cZ (ys 1) (ta 1) (tg 1) ++ (wB cI ((ta 1) 3) (tf 1) ++ (wT cI cZ (ys 2) (ta 2) (tg 2) ++ (wB cI ((ta 2) 3) (tf 2) ++ (wM cI cZ mq ma mg mh mF mE))))))))))) (c_X5_lose l D cI cZ cO xq xa xg xh ys (ta 3) (tg 3) (tf 3) _ (xs (i + 1)) 3 (fun z => tg z 0) (show 3 < 4 from (by decide)) (show ¬ inR (xs (i + 1)) 4 ∨ (xs (i + 1)) = nI 3 from hkj) (show ((tg 3) 2) ≤ 60 from ht2 3) (show ((tg 3) 0) ≤ 1 from ht0 3) (show ((tg 3) 1) ≤ 2 from ht1 3) (show (fun z => tg z 0) 3 = ((tg 3) 0) from rfl)) (cwV 1 X.2.2.2.2.2.1 gL_law_X5_lose rfl rfl rfl (by decide +kernel) ⟨Nat.le_of_ble_eq_true rfl, Nat.le_of_ble_eq_true rfl⟩) 4 rfl rfl rfl (apn (mfr _ _) (apn (mfr _ _) (apn (mf (mf (mf (mf (mf (mf (mf (mf (mf (mf (mfr _ _))))))))))) (mf (mf (mf (mf (mf (mf (mf (mf (mf (mf (mfr _ _)))))))))))))) (fun u => (apn (mfr _ _) (apn (mfr _ _) (apn (mf (mf (mf (mf (mf (mf (mf (mf (mf (mf (mfr _ _))))))))))) (mf (mf (mf (mf (mf (mf (mf (mf (mf (mf (mfr _ _))))))))))))))) rfl hl.1 rfl (Nat.le_of_ble_eq_true rfl) ⟨Nat.le_of_ble_eq_true rfl, Nat.le_of_ble_eq_true rfl⟩ dL_law_750 (fun r1 u2 H locs w750 hW => ?_)
  have hW : Wd D A s.heap H locs (wX cI cZ xq xa xg xh ++ (wA cO (xa 0) ys ++ (wC cI cZ (xa 1) ca cg cF ++ (wC cI cZ (xa 2) da dg dF ++ (wR cI cZ (xa 3) ra rg rF rE ++ (wS cI cZ (xa 4) za zg zh zk zF ++ (wT cI cZ (ys 0) (ta 0) (tg 0) ++ (wB cI ((ta 0) 3) (tf 0) ++ (wT cI cZ (ys 1) (ta 1) (tg 1) ++ (wB cI ((ta 1) 3) (tf 1) ++ (wT cI cZ (ys 2) (ta 2) (tg 2) ++ (wB cI ((ta 2) 3) (tf 2) ++ (wT cI cZ (ys 3) (ta 3) (sF (tg 3) 0 (onR (xs (i + 1)) 4 (((tg 3) 0)) (fun _ => 0))) ++ (wB cI ((ta 3) 3) (tf 3) ++ (wM cI cZ mq ma mg mh mF mE))))))))))))))) := hW
  replace w750 : r1 = aLose (fun z => tg z 0) (xs (i + 1)) := w750
  subst w750
  refine x_aload_n X dL_law_753 rfl (lv_at hl 1 rfl) ?_
  refine x_aload_n X dL_law_754 rfl (lv_at hl 3 rfl) ?_
  refine x_iload_n X dL_law_755 rfl (lv_at hl 0 rfl) ?_
  refine x_iconst (v := nI 1) X dL_law_756 (by decide) ?_
  refine n_iadd X dL_law_757 ?_
  refine x_sld X hW hX hbl hbA (j := i + 1) (by omega) (by omega) dL_law_758 ?_
  refine x_pcallVi X hW (As := [.int (xs (i + 1))]) (rest := [.int (aLose (fun z => tg z 0) (xs (i + 1)))]) (wz := fun u => (wX cI cZ xq xa xg xh ++ (wA cO (xa 0) ys ++ (wC cI cZ (xa 1) ca cg cF ++ (wC cI cZ (xa 2) da dg dF ++ (wR cI cZ (xa 3) ra rg rF rE ++ (wS cI cZ (xa 4) za zg zh zk zF ++ (wT cI cZ (ys 0) (ta 0) (tg 0) ++ (wB cI ((ta 0) 3) (tf 0) ++ (wT cI cZ (ys 1) (ta 1) (tg 1) ++ (wB cI ((ta 1) 3) (tf 1) ++ (wT cI cZ (ys 2) (ta 2) (tg 2) ++ (wB cI ((ta 2) 3) (tf 2) ++ (wT cI cZ (ys 3) (ta 3) (sF (tg 3) 0 (onR (xs (i + 1)) 4 (((tg 3) 0)) (fun _ => 0))) ++ (wB cI ((ta 3) 3) (tf 3) ++ (wM cI cZ mq ma mg mh mF (sF mE 25 (onR (xs (i + 1)) 4 ((mE 25)) (fun j => sF ((mE 25)) j (-1)))))))))))))))))))) (wX cI cZ xq xa xg xh ++ (wA cO (xa 0) ys ++ (wC cI cZ (xa 1) ca cg cF ++ (wC cI cZ (xa 2) da dg dF ++ (wR cI cZ (xa 3) ra rg rF rE ++ (wS cI cZ (xa 4) za zg zh zk zF ++ (wT cI cZ (ys 0) (ta 0) (tg 0) ++ (wB cI ((ta 0) 3) (tf 0) ++ (wT cI cZ (ys 1) (ta 1) (tg 1) ++ (wB cI ((ta 1) 3) (tf 1) ++ (wT cI cZ (ys 2) (ta 2) (tg 2) ++ (wB cI ((ta 2) 3) (tf 2) ++ (wT cI cZ (ys 3) (ta 3) (sF (tg 3) 0 (onR (xs (i + 1)) 4 (((tg 3) 0)) (fun _ => 0))) ++ (wB cI ((ta 3) 3) (tf 3))))))))))))))) (c_X6_lose l D cI cZ cO mq ma mg mh mF mE _ (xs (i + 1)) (fun z => tg z 0) (fun z => tg z 2) (show ∀ z, z < 4 → ((fun z => tg z 0) z = 0 ∧ (mE 25) z = (-1 : Int32)) ∨ ((fun z => tg z 0) z = 1 ∧ (mE 25) z = nI ((fun z => tg z 2) z)) from hts) (show ∀ z0, (fun z => tg z 2) z0 ≤ 60 from ht2)) (cwV 1 X.2.2.2.2.2.1 gL_law_X6_lose rfl rfl rfl (by decide +kernel) ⟨Nat.le_of_ble_eq_true rfl, Nat.le_of_ble_eq_true rfl⟩) 5 rfl rfl rfl (ap1 (mf (mf (mf (mf (mf (mf (mf (mf (mf (mf (mf (mf (mf mf0)))))))))))))) (fun u => (ap1 (mf (mf (mf (mf (mf (mf (mf (mf (mf (mf (mf (mf (mf mf0))))))))))))))) rfl hl.1 rfl (Nat.le_of_ble_eq_true rfl) ⟨Nat.le_of_ble_eq_true rfl, Nat.le_of_ble_eq_true rfl⟩ dL_law_759 (fun r3 u4 H locs w759 hW => ?_)
  have hW : Wd D A s.heap H locs (wX cI cZ xq xa xg xh ++ (wA cO (xa 0) ys ++ (wC cI cZ (xa 1) ca cg cF ++ (wC cI cZ (xa 2) da dg dF ++ (wR cI cZ (xa 3) ra rg rF rE ++ (wS cI cZ (xa 4) za zg zh zk zF ++ (wT cI cZ (ys 0) (ta 0) (tg 0) ++ (wB cI ((ta 0) 3) (tf 0) ++ (wT cI cZ (ys 1) (ta 1) (tg 1) ++ (wB cI ((ta 1) 3) (tf 1) ++ (wT cI cZ (ys 2) (ta 2) (tg 2) ++ (wB cI ((ta 2) 3) (tf 2) ++ (wT cI cZ (ys 3) (ta 3) (sF (tg 3) 0 (onR (xs (i + 1)) 4 (((tg 3) 0)) (fun _ => 0))) ++ (wB cI ((ta 3) 3) (tf 3) ++ (wM cI cZ mq ma mg mh mF (sF mE 25 (onR (xs (i + 1)) 4 ((mE 25)) (fun j => sF ((mE 25)) j (-1))))))))))))))))))) := hW
  replace w759 : r3 = aLose (fun z => tg z 0) (xs (i + 1)) := w759
  subst w759
  refine x_icmp_eq X 1045 dL_law_762 (by decide) (fun c762 => ?_) (fun c762 => by exact absurd (by (try rw [e1]); (try rw [e2]); (try rw [e3]); (try rw [e4]); (try rw [e5]); (try rw [f1]); (try rw [f2]); (try rw [f3]); (try rw [f4]); (try rfl)) c762)
  exact next _ _ _ ⟨xa, xg, xh, ys, ca, cg, cF, da, dg, dF, ra, rg, rF, rE, za, zg, zh, zk, zF, ma, mg, mh, mF, (sF mE 25 (onR (xs (i + 1)) 4 ((mE 25)) (fun j => sF ((mE 25)) j (-1)))), ta, (sF tg 3 (sF (tg 3) 0 (onR (xs (i + 1)) 4 (((tg 3) 0)) (fun _ => 0)))), tf, hW, hRC, hRR, hRD, hSK, RT_lose hRT (by decide) hkj, hRX, hRM⟩ (lv_sub hl [0, 1, 2, 3] rfl)
theorem law_lose {p : Program} {e : Env} {s : State} {m : MethodId} {below : List Frame} {meth : Method} {c : Code} {D : va_G} {cI cZ cO : ClassId} {A : Nat → Prop} {Q : State → Prop} {l : Launch} {b L xq mq i : Nat} {xs : Nat → Int32} {H : Heap} {locs : List Loc} {ls : Array Slot} (X : Fx p s m #[Value.ref b] meth c code 4 ret wsL_law RL D (ty3 cI cZ cO) A) (hX : va_X b L xs s s.heap) (hbl : b < s.heap.size) (hbA : ¬ A b) (hL : L ≤ 3072) (hi : i + 6 ≤ L) (hI : lw_I D cI cZ cO A s.heap xq mq H locs) (hl : lv_has ls 4 [(3, .int (nI i)), (2, .ref mq), (1, .ref xq), (0, .ref b)]) (next : ∀ (H : Heap) (locs : List Loc) (ls : Array Slot), lw_I D cI cZ cO A s.heap xq mq H locs → lv_has ls 4 [(3, .int (nI i)), (2, .ref mq), (1, .ref xq), (0, .ref b)] → W p l e room_1 s m #[Value.ref b] below meth c H locs 600000 7302250 Q (F0 m 1045 ls [])) : W p l e room_1 s m #[Value.ref b] below meth c H locs 600000 7302250 Q (F0 m 744 ls []) := by
  rcases k5 (xs (i + 1)) with h | h | h | h | h
  · exact law_lose_0 X hX hbl hbA hL hi hI hl (Or.inl h) next
  · exact law_lose_0 X hX hbl hbA hL hi hI hl (Or.inr h) next
  · exact law_lose_1 X hX hbl hbA hL hi hI hl (Or.inr h) next
  · exact law_lose_2 X hX hbl hbA hL hi hI hl (Or.inr h) next
  · exact law_lose_3 X hX hbl hbA hL hi hI hl (Or.inr h) next
set_option maxHeartbeats 4000000 in
set_option maxRecDepth 100000 in
theorem law_put_0 {p : Program} {e : Env} {s : State} {m : MethodId} {below : List Frame} {meth : Method} {c : Code} {D : va_G} {cI cZ cO : ClassId} {A : Nat → Prop} {Q : State → Prop} {l : Launch} {b L xq mq i : Nat} {xs : Nat → Int32} {H : Heap} {locs : List Loc} {ls : Array Slot} (X : Fx p s m #[Value.ref b] meth c code 4 ret wsL_law RL D (ty3 cI cZ cO) A) (hX : va_X b L xs s s.heap) (hbl : b < s.heap.size) (hbA : ¬ A b) (hL : L ≤ 3072) (hi : i + 6 ≤ L) (hI : lw_I D cI cZ cO A s.heap xq mq H locs) (hl : lv_has ls 4 [(3, .int (nI i)), (2, .ref mq), (1, .ref xq), (0, .ref b)]) (hkj : ¬ inR (xs (i + 1)) 4 ∨ xs (i + 1) = nI 0) (next : ∀ (H : Heap) (locs : List Loc) (ls : Array Slot), lw_I D cI cZ cO A s.heap xq mq H locs → lv_has ls 4 [(3, .int (nI i)), (2, .ref mq), (1, .ref xq), (0, .ref b)] → W p l e room_1 s m #[Value.ref b] below meth c H locs 600000 7302250 Q (F0 m 1045 ls [])) : W p l e room_1 s m #[Value.ref b] below meth c H locs 600000 7302250 Q (F0 m 767 ls []) := by
  obtain ⟨xa, xg, xh, ys, ca, cg, cF, da, dg, dF, ra, rg, rF, rE, za, zg, zh, zk, zF, ma, mg, mh, mF, mE, ta, tg, tf, hW, hRC, hRR, hRD, hSK, hRT, hRX, hRM⟩ := hI
  have hW : Wd D A s.heap H locs (wX cI cZ xq xa xg xh ++ (wA cO (xa 0) ys ++ (wC cI cZ (xa 1) ca cg cF ++ (wC cI cZ (xa 2) da dg dF ++ (wR cI cZ (xa 3) ra rg rF rE ++ (wS cI cZ (xa 4) za zg zh zk zF ++ (wT cI cZ (ys 0) (ta 0) (tg 0) ++ (wB cI ((ta 0) 3) (tf 0) ++ (wT cI cZ (ys 1) (ta 1) (tg 1) ++ (wB cI ((ta 1) 3) (tf 1) ++ (wT cI cZ (ys 2) (ta 2) (tg 2) ++ (wB cI ((ta 2) 3) (tf 2) ++ (wT cI cZ (ys 3) (ta 3) (tg 3) ++ (wB cI ((ta 3) 3) (tf 3) ++ (wM cI cZ mq ma mg mh mF mE))))))))))))))) := hW
  obtain ⟨h02, hn, hrn, hk, hlv, hm, e2, e1, e3, e4, e5⟩ := id hRC
  obtain ⟨hrc, hro, hra, hrd, f1, f2, f3, f4⟩ := id hRR
  obtain ⟨hdn, hdr, hdk, hdl, hdm⟩ := id hRD
  obtain ⟨ht0, ht1, ht2, htl, hts, htc⟩ := id hRT
  refine x_aload_n X dL_law_767 rfl (lv_at hl 2 rfl) ?_
  refine x_aload_n X dL_law_768 rfl (lv_at hl 3 rfl) ?_
  refine x_iload_n X dL_law_769 rfl (lv_at hl 0 rfl) ?_
  refine x_iconst (v := nI 1) X dL_law_770 (by decide) ?_
  refine n_iadd X dL_law_771 ?_
  refine x_sld X hW hX hbl hbA (j := i + 1) (by omega) (by omega) dL_law_772 ?_
  refine x_aload_n X dL_law_773 rfl (lv_at hl 3 rfl) ?_
  refine x_iload_n X dL_law_774 rfl (lv_at hl 0 rfl) ?_
  refine x_iconst (v := nI 2) X dL_law_775 (by decide) ?_
  refine n_iadd X dL_law_776 ?_
  refine x_sld X hW hX hbl hbA (j := i + 2) (by omega) (by omega) dL_law_777 ?_
  refine x_aload_n X dL_law_778 rfl (lv_at hl 3 rfl) ?_
  refine x_iload_n X dL_law_779 rfl (lv_at hl 0 rfl) ?_
  refine x_iconst (v := nI 3) X dL_law_780 (by decide) ?_
  refine n_iadd X dL_law_781 ?_
  refine x_sld X hW hX hbl hbA (j := i + 3) (by omega) (by omega) dL_law_782 ?_
  refine x_pcallVi X hW (As := [.int (xs (i + 1)), .int (xs (i + 2)), .int (xs (i + 3))]) (rest := []) (wz := fun u => (wX cI cZ xq xa (sF xg 6 (fPut (fun z => tg z 0) (fun z => tg z 2) (xs (i + 1)) (xs (i + 2)))) xh ++ (wA cO (xa 0) ys ++ (wC cI cZ (xa 1) ca cg cF ++ (wC cI cZ (xa 2) da dg dF ++ (wR cI cZ (xa 3) ra rg rF rE ++ (wS cI cZ (xa 4) za zg zh zk zF ++ (wT cI cZ (ys 0) (ta 0) (tg 0) ++ (wB cI ((ta 0) 3) (onR (xs (i + 1)) 4 (tf 0) (fun _ => if cellF (((tg 0) 0)) (((tg 0) 2)) (xs (i + 2)) = 0 then sF (tf 0) (xs (i + 2)).toNatClampNeg (cutI (((tg 0) 1)) (xs (i + 3))) else (tf 0))) ++ (wT cI cZ (ys 1) (ta 1) (tg 1) ++ (wB cI ((ta 1) 3) (tf 1) ++ (wT cI cZ (ys 2) (ta 2) (tg 2) ++ (wB cI ((ta 2) 3) (tf 2) ++ (wT cI cZ (ys 3) (ta 3) (tg 3) ++ (wB cI ((ta 3) 3) (tf 3) ++ (wM cI cZ mq ma mg mh mF mE)))))))))))))))) (wC cI cZ (xa 1) ca cg cF ++ (wC cI cZ (xa 2) da dg dF ++ (wR cI cZ (xa 3) ra rg rF rE ++ (wS cI cZ (xa 4) za zg zh zk zF ++ (wT cI cZ (ys 1) (ta 1) (tg 1) ++ (wB cI ((ta 1) 3) (tf 1) ++ (wT cI cZ (ys 2) (ta 2) (tg 2) ++ (wB cI ((ta 2) 3) (tf 2) ++ (wT cI cZ (ys 3) (ta 3) (tg 3) ++ (wB cI ((ta 3) 3) (tf 3) ++ (wM cI cZ mq ma mg mh mF mE))))))))))) (c_X5_put l D cI cZ cO xq xa xg xh ys (ta 0) (tg 0) (tf 0) _ (xs (i + 1)) (xs (i + 2)) (xs (i + 3)) 0 (fun z => tg z 0) (fun z => tg z 2) (show 0 < 4 from (by decide)) (show ¬ inR (xs (i + 1)) 4 ∨ (xs (i + 1)) = nI 0 from hkj) (show ((tg 0) 2) ≤ 60 from ht2 0) (show ((tg 0) 0) ≤ 1 from ht0 0) (show ((tg 0) 1) ≤ 2 from ht1 0) (show (fun z => tg z 0) 0 = ((tg 0) 0) from rfl) (show (fun z => tg z 2) 0 = ((tg 0) 2) from rfl)) (cwV 3 X.2.2.2.2.2.1 gL_law_X5_put rfl rfl rfl (by decide +kernel) ⟨Nat.le_of_ble_eq_true rfl, Nat.le_of_ble_eq_true rfl⟩) 4 rfl rfl rfl (apn (mfr _ _) (apn (mfr _ _) (apn (mf (mf (mf (mf (mfr _ _))))) (mf (mf (mf (mf (mfr _ _)))))))) (fun u => (apn (mfr _ _) (apn (mfr _ _) (apn (mf (mf (mf (mf (mfr _ _))))) (mf (mf (mf (mf (mfr _ _))))))))) rfl hl.1 rfl (Nat.le_of_ble_eq_true rfl) ⟨Nat.le_of_ble_eq_true rfl, Nat.le_of_ble_eq_true rfl⟩ dL_law_783 (fun r1 u2 H locs w783 hW => ?_)
  have hW : Wd D A s.heap H locs (wX cI cZ xq xa (sF xg 6 (fPut (fun z => tg z 0) (fun z => tg z 2) (xs (i + 1)) (xs (i + 2)))) xh ++ (wA cO (xa 0) ys ++ (wC cI cZ (xa 1) ca cg cF ++ (wC cI cZ (xa 2) da dg dF ++ (wR cI cZ (xa 3) ra rg rF rE ++ (wS cI cZ (xa 4) za zg zh zk zF ++ (wT cI cZ (ys 0) (ta 0) (tg 0) ++ (wB cI ((ta 0) 3) (onR (xs (i + 1)) 4 (tf 0) (fun _ => if cellF (((tg 0) 0)) (((tg 0) 2)) (xs (i + 2)) = 0 then sF (tf 0) (xs (i + 2)).toNatClampNeg (cutI (((tg 0) 1)) (xs (i + 3))) else (tf 0))) ++ (wT cI cZ (ys 1) (ta 1) (tg 1) ++ (wB cI ((ta 1) 3) (tf 1) ++ (wT cI cZ (ys 2) (ta 2) (tg 2) ++ (wB cI ((ta 2) 3) (tf 2) ++ (wT cI cZ (ys 3) (ta 3) (tg 3) ++ (wB cI ((ta 3) 3) (tf 3) ++ (wM cI cZ mq ma mg mh mF mE))))))))))))))) := hW
  replace w783 : r1 = aPut (fun z => tg z 0) (fun z => tg z 2) (xs (i + 1)) (xs (i + 2)) := w783
  subst w783
  refine x_aload_n X dL_law_786 rfl (lv_at hl 1 rfl) ?_
  refine x_aload_n X dL_law_787 rfl (lv_at hl 3 rfl) ?_
  refine x_iload_n X dL_law_788 rfl (lv_at hl 0 rfl) ?_
  refine x_iconst (v := nI 1) X dL_law_789 (by decide) ?_
  refine n_iadd X dL_law_790 ?_
  refine x_sld X hW hX hbl hbA (j := i + 1) (by omega) (by omega) dL_law_791 ?_
  refine x_aload_n X dL_law_792 rfl (lv_at hl 3 rfl) ?_
  refine x_iload_n X dL_law_793 rfl (lv_at hl 0 rfl) ?_
  refine x_iconst (v := nI 2) X dL_law_794 (by decide) ?_
  refine n_iadd X dL_law_795 ?_
  refine x_sld X hW hX hbl hbA (j := i + 2) (by omega) (by omega) dL_law_796 ?_
  refine x_aload_n X dL_law_797 rfl (lv_at hl 3 rfl) ?_
  refine x_iload_n X dL_law_798 rfl (lv_at hl 0 rfl) ?_
  refine x_iconst (v := nI 3) X dL_law_799 (by decide) ?_
  refine n_iadd X dL_law_800 ?_
  refine x_sld X hW hX hbl hbA (j := i + 3) (by omega) (by omega) dL_law_801 ?_
  refine x_pcallVi X hW (As := [.int (xs (i + 1)), .int (xs (i + 2)), .int (xs (i + 3))]) (rest := [.int (aPut (fun z => tg z 0) (fun z => tg z 2) (xs (i + 1)) (xs (i + 2)))]) (wz := fun u => (wX cI cZ xq xa (sF xg 6 (fPut (fun z => tg z 0) (fun z => tg z 2) (xs (i + 1)) (xs (i + 2)))) xh ++ (wA cO (xa 0) ys ++ (wC cI cZ (xa 1) ca cg cF ++ (wC cI cZ (xa 2) da dg dF ++ (wR cI cZ (xa 3) ra rg rF rE ++ (wS cI cZ (xa 4) za zg zh zk zF ++ (wT cI cZ (ys 0) (ta 0) (tg 0) ++ (wB cI ((ta 0) 3) (onR (xs (i + 1)) 4 (tf 0) (fun _ => if cellF (((tg 0) 0)) (((tg 0) 2)) (xs (i + 2)) = 0 then sF (tf 0) (xs (i + 2)).toNatClampNeg (cutI (((tg 0) 1)) (xs (i + 3))) else (tf 0))) ++ (wT cI cZ (ys 1) (ta 1) (tg 1) ++ (wB cI ((ta 1) 3) (tf 1) ++ (wT cI cZ (ys 2) (ta 2) (tg 2) ++ (wB cI ((ta 2) 3) (tf 2) ++ (wT cI cZ (ys 3) (ta 3) (tg 3) ++ (wB cI ((ta 3) 3) (tf 3) ++ (wM cI cZ mq ma (sF mg 0 (fPut (fun z => tg z 0) (fun z => tg z 2) (xs (i + 1)) (xs (i + 2)))) mh mF (sF mE 27 (sPut (fun z => tg z 0) (fun z => tg z 2) ((mF 26)) (xs (i + 1)) (xs (i + 2)) (xs (i + 3)) ((mE 27)) 60)))))))))))))))))) (wX cI cZ xq xa (sF xg 6 (fPut (fun z => tg z 0) (fun z => tg z 2) (xs (i + 1)) (xs (i + 2)))) xh ++ (wA cO (xa 0) ys ++ (wC cI cZ (xa 1) ca cg cF ++ (wC cI cZ (xa 2) da dg dF ++ (wR cI cZ (xa 3) ra rg rF rE ++ (wS cI cZ (xa 4) za zg zh zk zF ++ (wT cI cZ (ys 0) (ta 0) (tg 0) ++ (wB cI ((ta 0) 3) (onR (xs (i + 1)) 4 (tf 0) (fun _ => if cellF (((tg 0) 0)) (((tg 0) 2)) (xs (i + 2)) = 0 then sF (tf 0) (xs (i + 2)).toNatClampNeg (cutI (((tg 0) 1)) (xs (i + 3))) else (tf 0))) ++ (wT cI cZ (ys 1) (ta 1) (tg 1) ++ (wB cI ((ta 1) 3) (tf 1) ++ (wT cI cZ (ys 2) (ta 2) (tg 2) ++ (wB cI ((ta 2) 3) (tf 2) ++ (wT cI cZ (ys 3) (ta 3) (tg 3) ++ (wB cI ((ta 3) 3) (tf 3))))))))))))))) (c_X6_put l D cI cZ cO mq ma mg mh mF mE _ (xs (i + 1)) (xs (i + 2)) (xs (i + 3)) (fun z => tg z 0) (fun z => tg z 2) (show ∀ z, z < 4 → ((fun z => tg z 0) z = 0 ∧ (mE 25) z = (-1 : Int32)) ∨ ((fun z => tg z 0) z = 1 ∧ (mE 25) z = nI ((fun z => tg z 2) z)) from hts) (show ∀ z0, (fun z => tg z 2) z0 ≤ 60 from ht2) (show ∀ z0, (mF 26) z0 ≤ 2 from (fun z => by rw [htl]; exact ht1 z))) (cwV 3 X.2.2.2.2.2.1 gL_law_X6_put rfl rfl rfl (by decide +kernel) ⟨Nat.le_of_ble_eq_true rfl, Nat.le_of_ble_eq_true rfl⟩) 5 rfl rfl rfl (ap1 (mf (mf (mf (mf (mf (mf (mf (mf (mf (mf (mf (mf (mf mf0)))))))))))))) (fun u => (ap1 (mf (mf (mf (mf (mf (mf (mf (mf (mf (mf (mf (mf (mf mf0))))))))))))))) rfl hl.1 rfl (Nat.le_of_ble_eq_true rfl) ⟨Nat.le_of_ble_eq_true rfl, Nat.le_of_ble_eq_true rfl⟩ dL_law_802 (fun r3 u4 H locs w802 hW => ?_)
  have hW : Wd D A s.heap H locs (wX cI cZ xq xa (sF xg 6 (fPut (fun z => tg z 0) (fun z => tg z 2) (xs (i + 1)) (xs (i + 2)))) xh ++ (wA cO (xa 0) ys ++ (wC cI cZ (xa 1) ca cg cF ++ (wC cI cZ (xa 2) da dg dF ++ (wR cI cZ (xa 3) ra rg rF rE ++ (wS cI cZ (xa 4) za zg zh zk zF ++ (wT cI cZ (ys 0) (ta 0) (tg 0) ++ (wB cI ((ta 0) 3) (onR (xs (i + 1)) 4 (tf 0) (fun _ => if cellF (((tg 0) 0)) (((tg 0) 2)) (xs (i + 2)) = 0 then sF (tf 0) (xs (i + 2)).toNatClampNeg (cutI (((tg 0) 1)) (xs (i + 3))) else (tf 0))) ++ (wT cI cZ (ys 1) (ta 1) (tg 1) ++ (wB cI ((ta 1) 3) (tf 1) ++ (wT cI cZ (ys 2) (ta 2) (tg 2) ++ (wB cI ((ta 2) 3) (tf 2) ++ (wT cI cZ (ys 3) (ta 3) (tg 3) ++ (wB cI ((ta 3) 3) (tf 3) ++ (wM cI cZ mq ma (sF mg 0 (fPut (fun z => tg z 0) (fun z => tg z 2) (xs (i + 1)) (xs (i + 2)))) mh mF (sF mE 27 (sPut (fun z => tg z 0) (fun z => tg z 2) ((mF 26)) (xs (i + 1)) (xs (i + 2)) (xs (i + 3)) ((mE 27)) 60))))))))))))))))) := hW
  replace w802 : r3 = aPut (fun z => tg z 0) (fun z => tg z 2) (xs (i + 1)) (xs (i + 2)) := w802
  subst w802
  refine x_icmp_eq X 1045 dL_law_805 (by decide) (fun c805 => ?_) (fun c805 => by exact absurd (by (try rw [e1]); (try rw [e2]); (try rw [e3]); (try rw [e4]); (try rw [e5]); (try rw [f1]); (try rw [f2]); (try rw [f3]); (try rw [f4]); (try rfl)) c805)
  exact next _ _ _ ⟨xa, (sF xg 6 (fPut (fun z => tg z 0) (fun z => tg z 2) (xs (i + 1)) (xs (i + 2)))), xh, ys, ca, cg, cF, da, dg, dF, ra, rg, rF, rE, za, zg, zh, zk, zF, ma, (sF mg 0 (fPut (fun z => tg z 0) (fun z => tg z 2) (xs (i + 1)) (xs (i + 2)))), mh, mF, (sF mE 27 (sPut (fun z => tg z 0) (fun z => tg z 2) ((mF 26)) (xs (i + 1)) (xs (i + 2)) (xs (i + 3)) ((mE 27)) 60)), ta, tg, (sF tf 0 (onR (xs (i + 1)) 4 (tf 0) (fun _ => if cellF (((tg 0) 0)) (((tg 0) 2)) (xs (i + 2)) = 0 then sF (tf 0) (xs (i + 2)).toNatClampNeg (cutI (((tg 0) 1)) (xs (i + 3))) else (tf 0)))), hW, hRC, hRR, hRD, hSK, RT_put hRT (by decide) hkj, ⟨hRX.1, rfl⟩, hRM⟩ (lv_sub hl [0, 1, 2, 3] rfl)
set_option maxHeartbeats 4000000 in
set_option maxRecDepth 100000 in
theorem law_put_1 {p : Program} {e : Env} {s : State} {m : MethodId} {below : List Frame} {meth : Method} {c : Code} {D : va_G} {cI cZ cO : ClassId} {A : Nat → Prop} {Q : State → Prop} {l : Launch} {b L xq mq i : Nat} {xs : Nat → Int32} {H : Heap} {locs : List Loc} {ls : Array Slot} (X : Fx p s m #[Value.ref b] meth c code 4 ret wsL_law RL D (ty3 cI cZ cO) A) (hX : va_X b L xs s s.heap) (hbl : b < s.heap.size) (hbA : ¬ A b) (hL : L ≤ 3072) (hi : i + 6 ≤ L) (hI : lw_I D cI cZ cO A s.heap xq mq H locs) (hl : lv_has ls 4 [(3, .int (nI i)), (2, .ref mq), (1, .ref xq), (0, .ref b)]) (hkj : ¬ inR (xs (i + 1)) 4 ∨ xs (i + 1) = nI 1) (next : ∀ (H : Heap) (locs : List Loc) (ls : Array Slot), lw_I D cI cZ cO A s.heap xq mq H locs → lv_has ls 4 [(3, .int (nI i)), (2, .ref mq), (1, .ref xq), (0, .ref b)] → W p l e room_1 s m #[Value.ref b] below meth c H locs 600000 7302250 Q (F0 m 1045 ls [])) : W p l e room_1 s m #[Value.ref b] below meth c H locs 600000 7302250 Q (F0 m 767 ls []) := by
  obtain ⟨xa, xg, xh, ys, ca, cg, cF, da, dg, dF, ra, rg, rF, rE, za, zg, zh, zk, zF, ma, mg, mh, mF, mE, ta, tg, tf, hW, hRC, hRR, hRD, hSK, hRT, hRX, hRM⟩ := hI
  have hW : Wd D A s.heap H locs (wX cI cZ xq xa xg xh ++ (wA cO (xa 0) ys ++ (wC cI cZ (xa 1) ca cg cF ++ (wC cI cZ (xa 2) da dg dF ++ (wR cI cZ (xa 3) ra rg rF rE ++ (wS cI cZ (xa 4) za zg zh zk zF ++ (wT cI cZ (ys 0) (ta 0) (tg 0) ++ (wB cI ((ta 0) 3) (tf 0) ++ (wT cI cZ (ys 1) (ta 1) (tg 1) ++ (wB cI ((ta 1) 3) (tf 1) ++ (wT cI cZ (ys 2) (ta 2) (tg 2) ++ (wB cI ((ta 2) 3) (tf 2) ++ (wT cI cZ (ys 3) (ta 3) (tg 3) ++ (wB cI ((ta 3) 3) (tf 3) ++ (wM cI cZ mq ma mg mh mF mE))))))))))))))) := hW
  obtain ⟨h02, hn, hrn, hk, hlv, hm, e2, e1, e3, e4, e5⟩ := id hRC
  obtain ⟨hrc, hro, hra, hrd, f1, f2, f3, f4⟩ := id hRR
  obtain ⟨hdn, hdr, hdk, hdl, hdm⟩ := id hRD
  obtain ⟨ht0, ht1, ht2, htl, hts, htc⟩ := id hRT
  refine x_aload_n X dL_law_767 rfl (lv_at hl 2 rfl) ?_
  refine x_aload_n X dL_law_768 rfl (lv_at hl 3 rfl) ?_
  refine x_iload_n X dL_law_769 rfl (lv_at hl 0 rfl) ?_
  refine x_iconst (v := nI 1) X dL_law_770 (by decide) ?_
  refine n_iadd X dL_law_771 ?_
  refine x_sld X hW hX hbl hbA (j := i + 1) (by omega) (by omega) dL_law_772 ?_
  refine x_aload_n X dL_law_773 rfl (lv_at hl 3 rfl) ?_
  refine x_iload_n X dL_law_774 rfl (lv_at hl 0 rfl) ?_
  refine x_iconst (v := nI 2) X dL_law_775 (by decide) ?_
  refine n_iadd X dL_law_776 ?_
  refine x_sld X hW hX hbl hbA (j := i + 2) (by omega) (by omega) dL_law_777 ?_
  refine x_aload_n X dL_law_778 rfl (lv_at hl 3 rfl) ?_
  refine x_iload_n X dL_law_779 rfl (lv_at hl 0 rfl) ?_
  refine x_iconst (v := nI 3) X dL_law_780 (by decide) ?_
  refine n_iadd X dL_law_781 ?_
  refine x_sld X hW hX hbl hbA (j := i + 3) (by omega) (by omega) dL_law_782 ?_
  refine x_pcallVi X hW (As := [.int (xs (i + 1)), .int (xs (i + 2)), .int (xs (i + 3))]) (rest := []) (wz := fun u => (wX cI cZ xq xa (sF xg 6 (fPut (fun z => tg z 0) (fun z => tg z 2) (xs (i + 1)) (xs (i + 2)))) xh ++ (wA cO (xa 0) ys ++ (wC cI cZ (xa 1) ca cg cF ++ (wC cI cZ (xa 2) da dg dF ++ (wR cI cZ (xa 3) ra rg rF rE ++ (wS cI cZ (xa 4) za zg zh zk zF ++ (wT cI cZ (ys 0) (ta 0) (tg 0) ++ (wB cI ((ta 0) 3) (tf 0) ++ (wT cI cZ (ys 1) (ta 1) (tg 1) ++ (wB cI ((ta 1) 3) (onR (xs (i + 1)) 4 (tf 1) (fun _ => if cellF (((tg 1) 0)) (((tg 1) 2)) (xs (i + 2)) = 0 then sF (tf 1) (xs (i + 2)).toNatClampNeg (cutI (((tg 1) 1)) (xs (i + 3))) else (tf 1))) ++ (wT cI cZ (ys 2) (ta 2) (tg 2) ++ (wB cI ((ta 2) 3) (tf 2) ++ (wT cI cZ (ys 3) (ta 3) (tg 3) ++ (wB cI ((ta 3) 3) (tf 3) ++ (wM cI cZ mq ma mg mh mF mE)))))))))))))))) (wC cI cZ (xa 1) ca cg cF ++ (wC cI cZ (xa 2) da dg dF ++ (wR cI cZ (xa 3) ra rg rF rE ++ (wS cI cZ (xa 4) za zg zh zk zF ++ (wT cI cZ (ys 0) (ta 0) (tg 0) ++ (wB cI ((ta 0) 3) (tf 0) ++ (wT cI cZ (ys 2) (ta 2) (tg 2) ++ (wB cI ((ta 2) 3) (tf 2) ++ (wT cI cZ (ys 3) (ta 3) (tg 3) ++ (wB cI ((ta 3) 3) (tf 3) ++ (wM cI cZ mq ma mg mh mF mE))))))))))) (c_X5_put l D cI cZ cO xq xa xg xh ys (ta 1) (tg 1) (tf 1) _ (xs (i + 1)) (xs (i + 2)) (xs (i + 3)) 1 (fun z => tg z 0) (fun z => tg z 2) (show 1 < 4 from (by decide)) (show ¬ inR (xs (i + 1)) 4 ∨ (xs (i + 1)) = nI 1 from hkj) (show ((tg 1) 2) ≤ 60 from ht2 1) (show ((tg 1) 0) ≤ 1 from ht0 1) (show ((tg 1) 1) ≤ 2 from ht1 1) (show (fun z => tg z 0) 1 = ((tg 1) 0) from rfl) (show (fun z => tg z 2) 1 = ((tg 1) 2) from rfl)) (cwV 3 X.2.2.2.2.2.1 gL_law_X5_put rfl rfl rfl (by decide +kernel) ⟨Nat.le_of_ble_eq_true rfl, Nat.le_of_ble_eq_true rfl⟩) 4 rfl rfl rfl (apn (mfr _ _) (apn (mfr _ _) (apn (mf (mf (mf (mf (mf (mf (mfr _ _))))))) (mf (mf (mf (mf (mf (mf (mfr _ _)))))))))) (fun u => (apn (mfr _ _) (apn (mfr _ _) (apn (mf (mf (mf (mf (mf (mf (mfr _ _))))))) (mf (mf (mf (mf (mf (mf (mfr _ _))))))))))) rfl hl.1 rfl (Nat.le_of_ble_eq_true rfl) ⟨Nat.le_of_ble_eq_true rfl, Nat.le_of_ble_eq_true rfl⟩ dL_law_783 (fun r1 u2 H locs w783 hW => ?_)
  have hW : Wd D A s.heap H locs (wX cI cZ xq xa (sF xg 6 (fPut (fun z => tg z 0) (fun z => tg z 2) (xs (i + 1)) (xs (i + 2)))) xh ++ (wA cO (xa 0) ys ++ (wC cI cZ (xa 1) ca cg cF ++ (wC cI cZ (xa 2) da dg dF ++ (wR cI cZ (xa 3) ra rg rF rE ++ (wS cI cZ (xa 4) za zg zh zk zF ++ (wT cI cZ (ys 0) (ta 0) (tg 0) ++ (wB cI ((ta 0) 3) (tf 0) ++ (wT cI cZ (ys 1) (ta 1) (tg 1) ++ (wB cI ((ta 1) 3) (onR (xs (i + 1)) 4 (tf 1) (fun _ => if cellF (((tg 1) 0)) (((tg 1) 2)) (xs (i + 2)) = 0 then sF (tf 1) (xs (i + 2)).toNatClampNeg (cutI (((tg 1) 1)) (xs (i + 3))) else (tf 1))) ++ (wT cI cZ (ys 2) (ta 2) (tg 2) ++ (wB cI ((ta 2) 3) (tf 2) ++ (wT cI cZ (ys 3) (ta 3) (tg 3) ++ (wB cI ((ta 3) 3) (tf 3) ++ (wM cI cZ mq ma mg mh mF mE))))))))))))))) := hW
  replace w783 : r1 = aPut (fun z => tg z 0) (fun z => tg z 2) (xs (i + 1)) (xs (i + 2)) := w783
  subst w783
  refine x_aload_n X dL_law_786 rfl (lv_at hl 1 rfl) ?_
  refine x_aload_n X dL_law_787 rfl (lv_at hl 3 rfl) ?_
  refine x_iload_n X dL_law_788 rfl (lv_at hl 0 rfl) ?_
  refine x_iconst (v := nI 1) X dL_law_789 (by decide) ?_
  refine n_iadd X dL_law_790 ?_
  refine x_sld X hW hX hbl hbA (j := i + 1) (by omega) (by omega) dL_law_791 ?_
  refine x_aload_n X dL_law_792 rfl (lv_at hl 3 rfl) ?_
  refine x_iload_n X dL_law_793 rfl (lv_at hl 0 rfl) ?_
  refine x_iconst (v := nI 2) X dL_law_794 (by decide) ?_
  refine n_iadd X dL_law_795 ?_
  refine x_sld X hW hX hbl hbA (j := i + 2) (by omega) (by omega) dL_law_796 ?_
  refine x_aload_n X dL_law_797 rfl (lv_at hl 3 rfl) ?_
  refine x_iload_n X dL_law_798 rfl (lv_at hl 0 rfl) ?_
  refine x_iconst (v := nI 3) X dL_law_799 (by decide) ?_
  refine n_iadd X dL_law_800 ?_
  refine x_sld X hW hX hbl hbA (j := i + 3) (by omega) (by omega) dL_law_801 ?_
  refine x_pcallVi X hW (As := [.int (xs (i + 1)), .int (xs (i + 2)), .int (xs (i + 3))]) (rest := [.int (aPut (fun z => tg z 0) (fun z => tg z 2) (xs (i + 1)) (xs (i + 2)))]) (wz := fun u => (wX cI cZ xq xa (sF xg 6 (fPut (fun z => tg z 0) (fun z => tg z 2) (xs (i + 1)) (xs (i + 2)))) xh ++ (wA cO (xa 0) ys ++ (wC cI cZ (xa 1) ca cg cF ++ (wC cI cZ (xa 2) da dg dF ++ (wR cI cZ (xa 3) ra rg rF rE ++ (wS cI cZ (xa 4) za zg zh zk zF ++ (wT cI cZ (ys 0) (ta 0) (tg 0) ++ (wB cI ((ta 0) 3) (tf 0) ++ (wT cI cZ (ys 1) (ta 1) (tg 1) ++ (wB cI ((ta 1) 3) (onR (xs (i + 1)) 4 (tf 1) (fun _ => if cellF (((tg 1) 0)) (((tg 1) 2)) (xs (i + 2)) = 0 then sF (tf 1) (xs (i + 2)).toNatClampNeg (cutI (((tg 1) 1)) (xs (i + 3))) else (tf 1))) ++ (wT cI cZ (ys 2) (ta 2) (tg 2) ++ (wB cI ((ta 2) 3) (tf 2) ++ (wT cI cZ (ys 3) (ta 3) (tg 3) ++ (wB cI ((ta 3) 3) (tf 3) ++ (wM cI cZ mq ma (sF mg 0 (fPut (fun z => tg z 0) (fun z => tg z 2) (xs (i + 1)) (xs (i + 2)))) mh mF (sF mE 27 (sPut (fun z => tg z 0) (fun z => tg z 2) ((mF 26)) (xs (i + 1)) (xs (i + 2)) (xs (i + 3)) ((mE 27)) 60)))))))))))))))))) (wX cI cZ xq xa (sF xg 6 (fPut (fun z => tg z 0) (fun z => tg z 2) (xs (i + 1)) (xs (i + 2)))) xh ++ (wA cO (xa 0) ys ++ (wC cI cZ (xa 1) ca cg cF ++ (wC cI cZ (xa 2) da dg dF ++ (wR cI cZ (xa 3) ra rg rF rE ++ (wS cI cZ (xa 4) za zg zh zk zF ++ (wT cI cZ (ys 0) (ta 0) (tg 0) ++ (wB cI ((ta 0) 3) (tf 0) ++ (wT cI cZ (ys 1) (ta 1) (tg 1) ++ (wB cI ((ta 1) 3) (onR (xs (i + 1)) 4 (tf 1) (fun _ => if cellF (((tg 1) 0)) (((tg 1) 2)) (xs (i + 2)) = 0 then sF (tf 1) (xs (i + 2)).toNatClampNeg (cutI (((tg 1) 1)) (xs (i + 3))) else (tf 1))) ++ (wT cI cZ (ys 2) (ta 2) (tg 2) ++ (wB cI ((ta 2) 3) (tf 2) ++ (wT cI cZ (ys 3) (ta 3) (tg 3) ++ (wB cI ((ta 3) 3) (tf 3))))))))))))))) (c_X6_put l D cI cZ cO mq ma mg mh mF mE _ (xs (i + 1)) (xs (i + 2)) (xs (i + 3)) (fun z => tg z 0) (fun z => tg z 2) (show ∀ z, z < 4 → ((fun z => tg z 0) z = 0 ∧ (mE 25) z = (-1 : Int32)) ∨ ((fun z => tg z 0) z = 1 ∧ (mE 25) z = nI ((fun z => tg z 2) z)) from hts) (show ∀ z0, (fun z => tg z 2) z0 ≤ 60 from ht2) (show ∀ z0, (mF 26) z0 ≤ 2 from (fun z => by rw [htl]; exact ht1 z))) (cwV 3 X.2.2.2.2.2.1 gL_law_X6_put rfl rfl rfl (by decide +kernel) ⟨Nat.le_of_ble_eq_true rfl, Nat.le_of_ble_eq_true rfl⟩) 5 rfl rfl rfl (ap1 (mf (mf (mf (mf (mf (mf (mf (mf (mf (mf (mf (mf (mf mf0)))))))))))))) (fun u => (ap1 (mf (mf (mf (mf (mf (mf (mf (mf (mf (mf (mf (mf (mf mf0))))))))))))))) rfl hl.1 rfl (Nat.le_of_ble_eq_true rfl) ⟨Nat.le_of_ble_eq_true rfl, Nat.le_of_ble_eq_true rfl⟩ dL_law_802 (fun r3 u4 H locs w802 hW => ?_)
  have hW : Wd D A s.heap H locs (wX cI cZ xq xa (sF xg 6 (fPut (fun z => tg z 0) (fun z => tg z 2) (xs (i + 1)) (xs (i + 2)))) xh ++ (wA cO (xa 0) ys ++ (wC cI cZ (xa 1) ca cg cF ++ (wC cI cZ (xa 2) da dg dF ++ (wR cI cZ (xa 3) ra rg rF rE ++ (wS cI cZ (xa 4) za zg zh zk zF ++ (wT cI cZ (ys 0) (ta 0) (tg 0) ++ (wB cI ((ta 0) 3) (tf 0) ++ (wT cI cZ (ys 1) (ta 1) (tg 1) ++ (wB cI ((ta 1) 3) (onR (xs (i + 1)) 4 (tf 1) (fun _ => if cellF (((tg 1) 0)) (((tg 1) 2)) (xs (i + 2)) = 0 then sF (tf 1) (xs (i + 2)).toNatClampNeg (cutI (((tg 1) 1)) (xs (i + 3))) else (tf 1))) ++ (wT cI cZ (ys 2) (ta 2) (tg 2) ++ (wB cI ((ta 2) 3) (tf 2) ++ (wT cI cZ (ys 3) (ta 3) (tg 3) ++ (wB cI ((ta 3) 3) (tf 3) ++ (wM cI cZ mq ma (sF mg 0 (fPut (fun z => tg z 0) (fun z => tg z 2) (xs (i + 1)) (xs (i + 2)))) mh mF (sF mE 27 (sPut (fun z => tg z 0) (fun z => tg z 2) ((mF 26)) (xs (i + 1)) (xs (i + 2)) (xs (i + 3)) ((mE 27)) 60))))))))))))))))) := hW
  replace w802 : r3 = aPut (fun z => tg z 0) (fun z => tg z 2) (xs (i + 1)) (xs (i + 2)) := w802
  subst w802
  refine x_icmp_eq X 1045 dL_law_805 (by decide) (fun c805 => ?_) (fun c805 => by exact absurd (by (try rw [e1]); (try rw [e2]); (try rw [e3]); (try rw [e4]); (try rw [e5]); (try rw [f1]); (try rw [f2]); (try rw [f3]); (try rw [f4]); (try rfl)) c805)
  exact next _ _ _ ⟨xa, (sF xg 6 (fPut (fun z => tg z 0) (fun z => tg z 2) (xs (i + 1)) (xs (i + 2)))), xh, ys, ca, cg, cF, da, dg, dF, ra, rg, rF, rE, za, zg, zh, zk, zF, ma, (sF mg 0 (fPut (fun z => tg z 0) (fun z => tg z 2) (xs (i + 1)) (xs (i + 2)))), mh, mF, (sF mE 27 (sPut (fun z => tg z 0) (fun z => tg z 2) ((mF 26)) (xs (i + 1)) (xs (i + 2)) (xs (i + 3)) ((mE 27)) 60)), ta, tg, (sF tf 1 (onR (xs (i + 1)) 4 (tf 1) (fun _ => if cellF (((tg 1) 0)) (((tg 1) 2)) (xs (i + 2)) = 0 then sF (tf 1) (xs (i + 2)).toNatClampNeg (cutI (((tg 1) 1)) (xs (i + 3))) else (tf 1)))), hW, hRC, hRR, hRD, hSK, RT_put hRT (by decide) hkj, ⟨hRX.1, rfl⟩, hRM⟩ (lv_sub hl [0, 1, 2, 3] rfl)
set_option maxHeartbeats 4000000 in
set_option maxRecDepth 100000 in
theorem law_put_2 {p : Program} {e : Env} {s : State} {m : MethodId} {below : List Frame} {meth : Method} {c : Code} {D : va_G} {cI cZ cO : ClassId} {A : Nat → Prop} {Q : State → Prop} {l : Launch} {b L xq mq i : Nat} {xs : Nat → Int32} {H : Heap} {locs : List Loc} {ls : Array Slot} (X : Fx p s m #[Value.ref b] meth c code 4 ret wsL_law RL D (ty3 cI cZ cO) A) (hX : va_X b L xs s s.heap) (hbl : b < s.heap.size) (hbA : ¬ A b) (hL : L ≤ 3072) (hi : i + 6 ≤ L) (hI : lw_I D cI cZ cO A s.heap xq mq H locs) (hl : lv_has ls 4 [(3, .int (nI i)), (2, .ref mq), (1, .ref xq), (0, .ref b)]) (hkj : ¬ inR (xs (i + 1)) 4 ∨ xs (i + 1) = nI 2) (next : ∀ (H : Heap) (locs : List Loc) (ls : Array Slot), lw_I D cI cZ cO A s.heap xq mq H locs → lv_has ls 4 [(3, .int (nI i)), (2, .ref mq), (1, .ref xq), (0, .ref b)] → W p l e room_1 s m #[Value.ref b] below meth c H locs 600000 7302250 Q (F0 m 1045 ls [])) : W p l e room_1 s m #[Value.ref b] below meth c H locs 600000 7302250 Q (F0 m 767 ls []) := by
  obtain ⟨xa, xg, xh, ys, ca, cg, cF, da, dg, dF, ra, rg, rF, rE, za, zg, zh, zk, zF, ma, mg, mh, mF, mE, ta, tg, tf, hW, hRC, hRR, hRD, hSK, hRT, hRX, hRM⟩ := hI
  have hW : Wd D A s.heap H locs (wX cI cZ xq xa xg xh ++ (wA cO (xa 0) ys ++ (wC cI cZ (xa 1) ca cg cF ++ (wC cI cZ (xa 2) da dg dF ++ (wR cI cZ (xa 3) ra rg rF rE ++ (wS cI cZ (xa 4) za zg zh zk zF ++ (wT cI cZ (ys 0) (ta 0) (tg 0) ++ (wB cI ((ta 0) 3) (tf 0) ++ (wT cI cZ (ys 1) (ta 1) (tg 1) ++ (wB cI ((ta 1) 3) (tf 1) ++ (wT cI cZ (ys 2) (ta 2) (tg 2) ++ (wB cI ((ta 2) 3) (tf 2) ++ (wT cI cZ (ys 3) (ta 3) (tg 3) ++ (wB cI ((ta 3) 3) (tf 3) ++ (wM cI cZ mq ma mg mh mF mE))))))))))))))) := hW
  obtain ⟨h02, hn, hrn, hk, hlv, hm, e2, e1, e3, e4, e5⟩ := id hRC
  obtain ⟨hrc, hro, hra, hrd, f1, f2, f3, f4⟩ := id hRR
  obtain ⟨hdn, hdr, hdk, hdl, hdm⟩ := id hRD
  obtain ⟨ht0, ht1, ht2, htl, hts, htc⟩ := id hRT
  refine x_aload_n X dL_law_767 rfl (lv_at hl 2 rfl) ?_
  refine x_aload_n X dL_law_768 rfl (lv_at hl 3 rfl) ?_
  refine x_iload_n X dL_law_769 rfl (lv_at hl 0 rfl) ?_
  refine x_iconst (v := nI 1) X dL_law_770 (by decide) ?_
  refine n_iadd X dL_law_771 ?_
  refine x_sld X hW hX hbl hbA (j := i + 1) (by omega) (by omega) dL_law_772 ?_
  refine x_aload_n X dL_law_773 rfl (lv_at hl 3 rfl) ?_
  refine x_iload_n X dL_law_774 rfl (lv_at hl 0 rfl) ?_
  refine x_iconst (v := nI 2) X dL_law_775 (by decide) ?_
  refine n_iadd X dL_law_776 ?_
  refine x_sld X hW hX hbl hbA (j := i + 2) (by omega) (by omega) dL_law_777 ?_
  refine x_aload_n X dL_law_778 rfl (lv_at hl 3 rfl) ?_
  refine x_iload_n X dL_law_779 rfl (lv_at hl 0 rfl) ?_
  refine x_iconst (v := nI 3) X dL_law_780 (by decide) ?_
  refine n_iadd X dL_law_781 ?_
  refine x_sld X hW hX hbl hbA (j := i + 3) (by omega) (by omega) dL_law_782 ?_
  refine x_pcallVi X hW (As := [.int (xs (i + 1)), .int (xs (i + 2)), .int (xs (i + 3))]) (rest := []) (wz := fun u => (wX cI cZ xq xa (sF xg 6 (fPut (fun z => tg z 0) (fun z => tg z 2) (xs (i + 1)) (xs (i + 2)))) xh ++ (wA cO (xa 0) ys ++ (wC cI cZ (xa 1) ca cg cF ++ (wC cI cZ (xa 2) da dg dF ++ (wR cI cZ (xa 3) ra rg rF rE ++ (wS cI cZ (xa 4) za zg zh zk zF ++ (wT cI cZ (ys 0) (ta 0) (tg 0) ++ (wB cI ((ta 0) 3) (tf 0) ++ (wT cI cZ (ys 1) (ta 1) (tg 1) ++ (wB cI ((ta 1) 3) (tf 1) ++ (wT cI cZ (ys 2) (ta 2) (tg 2) ++ (wB cI ((ta 2) 3) (onR (xs (i + 1)) 4 (tf 2) (fun _ => if cellF (((tg 2) 0)) (((tg 2) 2)) (xs (i + 2)) = 0 then sF (tf 2) (xs (i + 2)).toNatClampNeg (cutI (((tg 2) 1)) (xs (i + 3))) else (tf 2))) ++ (wT cI cZ (ys 3) (ta 3) (tg 3) ++ (wB cI ((ta 3) 3) (tf 3) ++ (wM cI cZ mq ma mg mh mF mE)))))))))))))))) (wC cI cZ (xa 1) ca cg cF ++ (wC cI cZ (xa 2) da dg dF ++ (wR cI cZ (xa 3) ra rg rF rE ++ (wS cI cZ (xa 4) za zg zh zk zF ++ (wT cI cZ (ys 0) (ta 0) (tg 0) ++ (wB cI ((ta 0) 3) (tf 0) ++ (wT cI cZ (ys 1) (ta 1) (tg 1) ++ (wB cI ((ta 1) 3) (tf 1) ++ (wT cI cZ (ys 3) (ta 3) (tg 3) ++ (wB cI ((ta 3) 3) (tf 3) ++ (wM cI cZ mq ma mg mh mF mE))))))))))) (c_X5_put l D cI cZ cO xq xa xg xh ys (ta 2) (tg 2) (tf 2) _ (xs (i + 1)) (xs (i + 2)) (xs (i + 3)) 2 (fun z => tg z 0) (fun z => tg z 2) (show 2 < 4 from (by decide)) (show ¬ inR (xs (i + 1)) 4 ∨ (xs (i + 1)) = nI 2 from hkj) (show ((tg 2) 2) ≤ 60 from ht2 2) (show ((tg 2) 0) ≤ 1 from ht0 2) (show ((tg 2) 1) ≤ 2 from ht1 2) (show (fun z => tg z 0) 2 = ((tg 2) 0) from rfl) (show (fun z => tg z 2) 2 = ((tg 2) 2) from rfl)) (cwV 3 X.2.2.2.2.2.1 gL_law_X5_put rfl rfl rfl (by decide +kernel) ⟨Nat.le_of_ble_eq_true rfl, Nat.le_of_ble_eq_true rfl⟩) 4 rfl rfl rfl (apn (mfr _ _) (apn (mfr _ _) (apn (mf (mf (mf (mf (mf (mf (mf (mf (mfr _ _))))))))) (mf (mf (mf (mf (mf (mf (mf (mf (mfr _ _)))))))))))) (fun u => (apn (mfr _ _) (apn (mfr _ _) (apn (mf (mf (mf (mf (mf (mf (mf (mf (mfr _ _))))))))) (mf (mf (mf (mf (mf (mf (mf (mf (mfr _ _))))))))))))) rfl hl.1 rfl (Nat.le_of_ble_eq_true rfl) ⟨Nat.le_of_ble_eq_true rfl, Nat.le_of_ble_eq_true rfl⟩ dL_law_783 (fun r1 u2 H locs w783 hW => ?_)
  have hW : Wd D A s.heap H locs (wX cI cZ xq xa (sF xg 6 (fPut (fun z => tg z 0) (fun z => tg z 2) (xs (i + 1)) (xs (i + 2)))) xh ++ (wA cO (xa 0) ys ++ (wC cI cZ (xa 1) ca cg cF ++ (wC cI cZ (xa 2) da dg dF ++ (wR cI cZ (xa 3) ra rg rF rE ++ (wS cI cZ (xa 4) za zg zh zk zF ++ (wT cI cZ (ys 0) (ta 0) (tg 0) ++ (wB cI ((ta 0) 3) (tf 0) ++ (wT cI cZ (ys 1) (ta 1) (tg 1) ++ (wB cI ((ta 1) 3) (tf 1) ++ (wT cI cZ (ys 2) (ta 2) (tg 2) ++ (wB cI ((ta 2) 3) (onR (xs (i + 1)) 4 (tf 2) (fun _ => if cellF (((tg 2) 0)) (((tg 2) 2)) (xs (i + 2)) = 0 then sF (tf 2) (xs (i + 2)).toNatClampNeg (cutI (((tg 2) 1)) (xs (i + 3))) else (tf 2))) ++ (wT cI cZ (ys 3) (ta 3) (tg 3) ++ (wB cI ((ta 3) 3) (tf 3) ++ (wM cI cZ mq ma mg mh mF mE))))))))))))))) := hW
  replace w783 : r1 = aPut (fun z => tg z 0) (fun z => tg z 2) (xs (i + 1)) (xs (i + 2)) := w783
  subst w783
  refine x_aload_n X dL_law_786 rfl (lv_at hl 1 rfl) ?_
  refine x_aload_n X dL_law_787 rfl (lv_at hl 3 rfl) ?_
  refine x_iload_n X dL_law_788 rfl (lv_at hl 0 rfl) ?_
  refine x_iconst (v := nI 1) X dL_law_789 (by decide) ?_
  refine n_iadd X dL_law_790 ?_
  refine x_sld X hW hX hbl hbA (j := i + 1) (by omega) (by omega) dL_law_791 ?_
  refine x_aload_n X dL_law_792 rfl (lv_at hl 3 rfl) ?_
  refine x_iload_n X dL_law_793 rfl (lv_at hl 0 rfl) ?_
  refine x_iconst (v := nI 2) X dL_law_794 (by decide) ?_
  refine n_iadd X dL_law_795 ?_
  refine x_sld X hW hX hbl hbA (j := i + 2) (by omega) (by omega) dL_law_796 ?_
  refine x_aload_n X dL_law_797 rfl (lv_at hl 3 rfl) ?_
  refine x_iload_n X dL_law_798 rfl (lv_at hl 0 rfl) ?_
  refine x_iconst (v := nI 3) X dL_law_799 (by decide) ?_
  refine n_iadd X dL_law_800 ?_
  refine x_sld X hW hX hbl hbA (j := i + 3) (by omega) (by omega) dL_law_801 ?_
  refine x_pcallVi X hW (As := [.int (xs (i + 1)), .int (xs (i + 2)), .int (xs (i + 3))]) (rest := [.int (aPut (fun z => tg z 0) (fun z => tg z 2) (xs (i + 1)) (xs (i + 2)))]) (wz := fun u => (wX cI cZ xq xa (sF xg 6 (fPut (fun z => tg z 0) (fun z => tg z 2) (xs (i + 1)) (xs (i + 2)))) xh ++ (wA cO (xa 0) ys ++ (wC cI cZ (xa 1) ca cg cF ++ (wC cI cZ (xa 2) da dg dF ++ (wR cI cZ (xa 3) ra rg rF rE ++ (wS cI cZ (xa 4) za zg zh zk zF ++ (wT cI cZ (ys 0) (ta 0) (tg 0) ++ (wB cI ((ta 0) 3) (tf 0) ++ (wT cI cZ (ys 1) (ta 1) (tg 1) ++ (wB cI ((ta 1) 3) (tf 1) ++ (wT cI cZ (ys 2) (ta 2) (tg 2) ++ (wB cI ((ta 2) 3) (onR (xs (i + 1)) 4 (tf 2) (fun _ => if cellF (((tg 2) 0)) (((tg 2) 2)) (xs (i + 2)) = 0 then sF (tf 2) (xs (i + 2)).toNatClampNeg (cutI (((tg 2) 1)) (xs (i + 3))) else (tf 2))) ++ (wT cI cZ (ys 3) (ta 3) (tg 3) ++ (wB cI ((ta 3) 3) (tf 3) ++ (wM cI cZ mq ma (sF mg 0 (fPut (fun z => tg z 0) (fun z => tg z 2) (xs (i + 1)) (xs (i + 2)))) mh mF (sF mE 27 (sPut (fun z => tg z 0) (fun z => tg z 2) ((mF 26)) (xs (i + 1)) (xs (i + 2)) (xs (i + 3)) ((mE 27)) 60)))))))))))))))))) (wX cI cZ xq xa (sF xg 6 (fPut (fun z => tg z 0) (fun z => tg z 2) (xs (i + 1)) (xs (i + 2)))) xh ++ (wA cO (xa 0) ys ++ (wC cI cZ (xa 1) ca cg cF ++ (wC cI cZ (xa 2) da dg dF ++ (wR cI cZ (xa 3) ra rg rF rE ++ (wS cI cZ (xa 4) za zg zh zk zF ++ (wT cI cZ (ys 0) (ta 0) (tg 0) ++ (wB cI ((ta 0) 3) (tf 0) ++ (wT cI cZ (ys 1) (ta 1) (tg 1) ++ (wB cI ((ta 1) 3) (tf 1) ++ (wT cI cZ (ys 2) (ta 2) (tg 2) ++ (wB cI ((ta 2) 3) (onR (xs (i + 1)) 4 (tf 2) (fun _ => if cellF (((tg 2) 0)) (((tg 2) 2)) (xs (i + 2)) = 0 then sF (tf 2) (xs (i + 2)).toNatClampNeg (cutI (((tg 2) 1)) (xs (i + 3))) else (tf 2))) ++ (wT cI cZ (ys 3) (ta 3) (tg 3) ++ (wB cI ((ta 3) 3) (tf 3))))))))))))))) (c_X6_put l D cI cZ cO mq ma mg mh mF mE _ (xs (i + 1)) (xs (i + 2)) (xs (i + 3)) (fun z => tg z 0) (fun z => tg z 2) (show ∀ z, z < 4 → ((fun z => tg z 0) z = 0 ∧ (mE 25) z = (-1 : Int32)) ∨ ((fun z => tg z 0) z = 1 ∧ (mE 25) z = nI ((fun z => tg z 2) z)) from hts) (show ∀ z0, (fun z => tg z 2) z0 ≤ 60 from ht2) (show ∀ z0, (mF 26) z0 ≤ 2 from (fun z => by rw [htl]; exact ht1 z))) (cwV 3 X.2.2.2.2.2.1 gL_law_X6_put rfl rfl rfl (by decide +kernel) ⟨Nat.le_of_ble_eq_true rfl, Nat.le_of_ble_eq_true rfl⟩) 5 rfl rfl rfl (ap1 (mf (mf (mf (mf (mf (mf (mf (mf (mf (mf (mf (mf (mf mf0)))))))))))))) (fun u => (ap1 (mf (mf (mf (mf (mf (mf (mf (mf (mf (mf (mf (mf (mf mf0))))))))))))))) rfl hl.1 rfl (Nat.le_of_ble_eq_true rfl) ⟨Nat.le_of_ble_eq_true rfl, Nat.le_of_ble_eq_true rfl⟩ dL_law_802 (fun r3 u4 H locs w802 hW => ?_)
  have hW : Wd D A s.heap H locs (wX cI cZ xq xa (sF xg 6 (fPut (fun z => tg z 0) (fun z => tg z 2) (xs (i + 1)) (xs (i + 2)))) xh ++ (wA cO (xa 0) ys ++ (wC cI cZ (xa 1) ca cg cF ++ (wC cI cZ (xa 2) da dg dF ++ (wR cI cZ (xa 3) ra rg rF rE ++ (wS cI cZ (xa 4) za zg zh zk zF ++ (wT cI cZ (ys 0) (ta 0) (tg 0) ++ (wB cI ((ta 0) 3) (tf 0) ++ (wT cI cZ (ys 1) (ta 1) (tg 1) ++ (wB cI ((ta 1) 3) (tf 1) ++ (wT cI cZ (ys 2) (ta 2) (tg 2) ++ (wB cI ((ta 2) 3) (onR (xs (i + 1)) 4 (tf 2) (fun _ => if cellF (((tg 2) 0)) (((tg 2) 2)) (xs (i + 2)) = 0 then sF (tf 2) (xs (i + 2)).toNatClampNeg (cutI (((tg 2) 1)) (xs (i + 3))) else (tf 2))) ++ (wT cI cZ (ys 3) (ta 3) (tg 3) ++ (wB cI ((ta 3) 3) (tf 3) ++ (wM cI cZ mq ma (sF mg 0 (fPut (fun z => tg z 0) (fun z => tg z 2) (xs (i + 1)) (xs (i + 2)))) mh mF (sF mE 27 (sPut (fun z => tg z 0) (fun z => tg z 2) ((mF 26)) (xs (i + 1)) (xs (i + 2)) (xs (i + 3)) ((mE 27)) 60))))))))))))))))) := hW
  replace w802 : r3 = aPut (fun z => tg z 0) (fun z => tg z 2) (xs (i + 1)) (xs (i + 2)) := w802
  subst w802
  refine x_icmp_eq X 1045 dL_law_805 (by decide) (fun c805 => ?_) (fun c805 => by exact absurd (by (try rw [e1]); (try rw [e2]); (try rw [e3]); (try rw [e4]); (try rw [e5]); (try rw [f1]); (try rw [f2]); (try rw [f3]); (try rw [f4]); (try rfl)) c805)
  exact next _ _ _ ⟨xa, (sF xg 6 (fPut (fun z => tg z 0) (fun z => tg z 2) (xs (i + 1)) (xs (i + 2)))), xh, ys, ca, cg, cF, da, dg, dF, ra, rg, rF, rE, za, zg, zh, zk, zF, ma, (sF mg 0 (fPut (fun z => tg z 0) (fun z => tg z 2) (xs (i + 1)) (xs (i + 2)))), mh, mF, (sF mE 27 (sPut (fun z => tg z 0) (fun z => tg z 2) ((mF 26)) (xs (i + 1)) (xs (i + 2)) (xs (i + 3)) ((mE 27)) 60)), ta, tg, (sF tf 2 (onR (xs (i + 1)) 4 (tf 2) (fun _ => if cellF (((tg 2) 0)) (((tg 2) 2)) (xs (i + 2)) = 0 then sF (tf 2) (xs (i + 2)).toNatClampNeg (cutI (((tg 2) 1)) (xs (i + 3))) else (tf 2)))), hW, hRC, hRR, hRD, hSK, RT_put hRT (by decide) hkj, ⟨hRX.1, rfl⟩, hRM⟩ (lv_sub hl [0, 1, 2, 3] rfl)
set_option maxHeartbeats 4000000 in
set_option maxRecDepth 100000 in
theorem law_put_3 {p : Program} {e : Env} {s : State} {m : MethodId} {below : List Frame} {meth : Method} {c : Code} {D : va_G} {cI cZ cO : ClassId} {A : Nat → Prop} {Q : State → Prop} {l : Launch} {b L xq mq i : Nat} {xs : Nat → Int32} {H : Heap} {locs : List Loc} {ls : Array Slot} (X : Fx p s m #[Value.ref b] meth c code 4 ret wsL_law RL D (ty3 cI cZ cO) A) (hX : va_X b L xs s s.heap) (hbl : b < s.heap.size) (hbA : ¬ A b) (hL : L ≤ 3072) (hi : i + 6 ≤ L) (hI : lw_I D cI cZ cO A s.heap xq mq H locs) (hl : lv_has ls 4 [(3, .int (nI i)), (2, .ref mq), (1, .ref xq), (0, .ref b)]) (hkj : ¬ inR (xs (i + 1)) 4 ∨ xs (i + 1) = nI 3) (next : ∀ (H : Heap) (locs : List Loc) (ls : Array Slot), lw_I D cI cZ cO A s.heap xq mq H locs → lv_has ls 4 [(3, .int (nI i)), (2, .ref mq), (1, .ref xq), (0, .ref b)] → W p l e room_1 s m #[Value.ref b] below meth c H locs 600000 7302250 Q (F0 m 1045 ls [])) : W p l e room_1 s m #[Value.ref b] below meth c H locs 600000 7302250 Q (F0 m 767 ls []) := by
  obtain ⟨xa, xg, xh, ys, ca, cg, cF, da, dg, dF, ra, rg, rF, rE, za, zg, zh, zk, zF, ma, mg, mh, mF, mE, ta, tg, tf, hW, hRC, hRR, hRD, hSK, hRT, hRX, hRM⟩ := hI
  have hW : Wd D A s.heap H locs (wX cI cZ xq xa xg xh ++ (wA cO (xa 0) ys ++ (wC cI cZ (xa 1) ca cg cF ++ (wC cI cZ (xa 2) da dg dF ++ (wR cI cZ (xa 3) ra rg rF rE ++ (wS cI cZ (xa 4) za zg zh zk zF ++ (wT cI cZ (ys 0) (ta 0) (tg 0) ++ (wB cI ((ta 0) 3) (tf 0) ++ (wT cI cZ (ys 1) (ta 1) (tg 1) ++ (wB cI ((ta 1) 3) (tf 1) ++ (wT cI cZ (ys 2) (ta 2) (tg 2) ++ (wB cI ((ta 2) 3) (tf 2) ++ (wT cI cZ (ys 3) (ta 3) (tg 3) ++ (wB cI ((ta 3) 3) (tf 3) ++ (wM cI cZ mq ma mg mh mF mE))))))))))))))) := hW
  obtain ⟨h02, hn, hrn, hk, hlv, hm, e2, e1, e3, e4, e5⟩ := id hRC
  obtain ⟨hrc, hro, hra, hrd, f1, f2, f3, f4⟩ := id hRR
  obtain ⟨hdn, hdr, hdk, hdl, hdm⟩ := id hRD
  obtain ⟨ht0, ht1, ht2, htl, hts, htc⟩ := id hRT
  refine x_aload_n X dL_law_767 rfl (lv_at hl 2 rfl) ?_
  refine x_aload_n X dL_law_768 rfl (lv_at hl 3 rfl) ?_
  refine x_iload_n X dL_law_769 rfl (lv_at hl 0 rfl) ?_
  refine x_iconst (v := nI 1) X dL_law_770 (by decide) ?_
  refine n_iadd X dL_law_771 ?_
  refine x_sld X hW hX hbl hbA (j := i + 1) (by omega) (by omega) dL_law_772 ?_
  refine x_aload_n X dL_law_773 rfl (lv_at hl 3 rfl) ?_
  refine x_iload_n X dL_law_774 rfl (lv_at hl 0 rfl) ?_
  refine x_iconst (v := nI 2) X dL_law_775 (by decide) ?_
  refine n_iadd X dL_law_776 ?_
  refine x_sld X hW hX hbl hbA (j := i + 2) (by omega) (by omega) dL_law_777 ?_
  refine x_aload_n X dL_law_778 rfl (lv_at hl 3 rfl) ?_
  refine x_iload_n X dL_law_779 rfl (lv_at hl 0 rfl) ?_
  refine x_iconst (v := nI 3) X dL_law_780 (by decide) ?_
  refine n_iadd X dL_law_781 ?_
  refine x_sld X hW hX hbl hbA (j := i + 3) (by omega) (by omega) dL_law_782 ?_
  refine x_pcallVi X hW (As := [.int (xs (i + 1)), .int (xs (i + 2)), .int (xs (i + 3))]) (rest := []) (wz := fun u => (wX cI cZ xq xa (sF xg 6 (fPut (fun z => tg z 0) (fun z => tg z 2) (xs (i + 1)) (xs (i + 2)))) xh ++ (wA cO (xa 0) ys ++ (wC cI cZ (xa 1) ca cg cF ++ (wC cI cZ (xa 2) da dg dF ++ (wR cI cZ (xa 3) ra rg rF rE ++ (wS cI cZ (xa 4) za zg zh zk zF ++ (wT cI cZ (ys 0) (ta 0) (tg 0) ++ (wB cI ((ta 0) 3) (tf 0) ++ (wT cI cZ (ys 1) (ta 1) (tg 1) ++ (wB cI ((ta 1) 3) (tf 1) ++ (wT cI cZ (ys 2) (ta 2) (tg 2) ++ (wB cI ((ta 2) 3) (tf 2) ++ (wT cI cZ (ys 3) (ta 3) (tg 3) ++ (wB cI ((ta 3) 3) (onR (xs (i + 1)) 4 (tf 3) (fun _ => if cellF (((tg 3) 0)) (((tg 3) 2)) (xs (i + 2)) = 0 then sF (tf 3) (xs (i + 2)).toNatClampNeg (cutI (((tg 3) 1)) (xs (i + 3))) else (tf 3))) ++ (wM cI cZ mq ma mg mh mF mE)))))))))))))))) (wC cI cZ (xa 1) ca cg cF ++ (wC cI cZ (xa 2) da dg dF ++ (wR cI cZ (xa 3) ra rg rF rE ++ (wS cI cZ (xa 4) za zg zh zk zF ++ (wT cI cZ (ys 0) (ta 0) (tg 0) ++ (wB cI ((ta 0) 3) (tf 0) ++ (wT cI cZ (ys 1) (ta 1) (tg 1) ++ (wB cI ((ta 1) 3) (tf 1) ++ (wT cI cZ (ys 2) (ta 2) (tg 2) ++ (wB cI ((ta 2) 3) (tf 2) ++ (wM cI cZ mq ma mg mh mF mE))))))))))) (c_X5_put l D cI cZ cO xq xa xg xh ys (ta 3) (tg 3) (tf 3) _ (xs (i + 1)) (xs (i + 2)) (xs (i + 3)) 3 (fun z => tg z 0) (fun z => tg z 2) (show 3 < 4 from (by decide)) (show ¬ inR (xs (i + 1)) 4 ∨ (xs (i + 1)) = nI 3 from hkj) (show ((tg 3) 2) ≤ 60 from ht2 3) (show ((tg 3) 0) ≤ 1 from ht0 3) (show ((tg 3) 1) ≤ 2 from ht1 3) (show (fun z => tg z 0) 3 = ((tg 3) 0) from rfl) (show (fun z => tg z 2) 3 = ((tg 3) 2) from rfl)) (cwV 3 X.2.2.2.2.2.1 gL_law_X5_put rfl rfl rfl (by decide +kernel) ⟨Nat.le_of_ble_eq_true rfl, Nat.le_of_ble_eq_true rfl⟩) 4 rfl rfl rfl (apn (mfr _ _) (apn (mfr _ _) (apn (mf (mf (mf (mf (mf (mf (mf (mf (mf (mf (mfr _ _))))))))))) (mf (mf (mf (mf (mf (mf (mf (mf (mf (mf (mfr _ _)))))))))))))) (fun u => (apn (mfr _ _) (apn (mfr _ _) (apn (mf (mf (mf (mf (mf (mf (mf (mf (mf (mf (mfr _ _))))))))))) (mf (mf (mf (mf (mf (mf (mf (mf (mf (mf (mfr _ _))))))))))))))) rfl hl.1 rfl (Nat.le_of_ble_eq_true rfl) ⟨Nat.le_of_ble_eq_true rfl, Nat.le_of_ble_eq_true rfl⟩ dL_law_783 (fun r1 u2 H locs w783 hW => ?_)
  have hW : Wd D A s.heap H locs (wX cI cZ xq xa (sF xg 6 (fPut (fun z => tg z 0) (fun z => tg z 2) (xs (i + 1)) (xs (i + 2)))) xh ++ (wA cO (xa 0) ys ++ (wC cI cZ (xa 1) ca cg cF ++ (wC cI cZ (xa 2) da dg dF ++ (wR cI cZ (xa 3) ra rg rF rE ++ (wS cI cZ (xa 4) za zg zh zk zF ++ (wT cI cZ (ys 0) (ta 0) (tg 0) ++ (wB cI ((ta 0) 3) (tf 0) ++ (wT cI cZ (ys 1) (ta 1) (tg 1) ++ (wB cI ((ta 1) 3) (tf 1) ++ (wT cI cZ (ys 2) (ta 2) (tg 2) ++ (wB cI ((ta 2) 3) (tf 2) ++ (wT cI cZ (ys 3) (ta 3) (tg 3) ++ (wB cI ((ta 3) 3) (onR (xs (i + 1)) 4 (tf 3) (fun _ => if cellF (((tg 3) 0)) (((tg 3) 2)) (xs (i + 2)) = 0 then sF (tf 3) (xs (i + 2)).toNatClampNeg (cutI (((tg 3) 1)) (xs (i + 3))) else (tf 3))) ++ (wM cI cZ mq ma mg mh mF mE))))))))))))))) := hW
  replace w783 : r1 = aPut (fun z => tg z 0) (fun z => tg z 2) (xs (i + 1)) (xs (i + 2)) := w783
  subst w783
  refine x_aload_n X dL_law_786 rfl (lv_at hl 1 rfl) ?_
  refine x_aload_n X dL_law_787 rfl (lv_at hl 3 rfl) ?_
  refine x_iload_n X dL_law_788 rfl (lv_at hl 0 rfl) ?_
  refine x_iconst (v := nI 1) X dL_law_789 (by decide) ?_
  refine n_iadd X dL_law_790 ?_
  refine x_sld X hW hX hbl hbA (j := i + 1) (by omega) (by omega) dL_law_791 ?_
  refine x_aload_n X dL_law_792 rfl (lv_at hl 3 rfl) ?_
  refine x_iload_n X dL_law_793 rfl (lv_at hl 0 rfl) ?_
  refine x_iconst (v := nI 2) X dL_law_794 (by decide) ?_
  refine n_iadd X dL_law_795 ?_
  refine x_sld X hW hX hbl hbA (j := i + 2) (by omega) (by omega) dL_law_796 ?_
  refine x_aload_n X dL_law_797 rfl (lv_at hl 3 rfl) ?_
  refine x_iload_n X dL_law_798 rfl (lv_at hl 0 rfl) ?_
  refine x_iconst (v := nI 3) X dL_law_799 (by decide) ?_
  refine n_iadd X dL_law_800 ?_
  refine x_sld X hW hX hbl hbA (j := i + 3) (by omega) (by omega) dL_law_801 ?_
  refine x_pcallVi X hW (As := [.int (xs (i + 1)), .int (xs (i + 2)), .int (xs (i + 3))]) (rest := [.int (aPut (fun z => tg z 0) (fun z => tg z 2) (xs (i + 1)) (xs (i + 2)))]) (wz := fun u => (wX cI cZ xq xa (sF xg 6 (fPut (fun z => tg z 0) (fun z => tg z 2) (xs (i + 1)) (xs (i + 2)))) xh ++ (wA cO (xa 0) ys ++ (wC cI cZ (xa 1) ca cg cF ++ (wC cI cZ (xa 2) da dg dF ++ (wR cI cZ (xa 3) ra rg rF rE ++ (wS cI cZ (xa 4) za zg zh zk zF ++ (wT cI cZ (ys 0) (ta 0) (tg 0) ++ (wB cI ((ta 0) 3) (tf 0) ++ (wT cI cZ (ys 1) (ta 1) (tg 1) ++ (wB cI ((ta 1) 3) (tf 1) ++ (wT cI cZ (ys 2) (ta 2) (tg 2) ++ (wB cI ((ta 2) 3) (tf 2) ++ (wT cI cZ (ys 3) (ta 3) (tg 3) ++ (wB cI ((ta 3) 3) (onR (xs (i + 1)) 4 (tf 3) (fun _ => if cellF (((tg 3) 0)) (((tg 3) 2)) (xs (i + 2)) = 0 then sF (tf 3) (xs (i + 2)).toNatClampNeg (cutI (((tg 3) 1)) (xs (i + 3))) else (tf 3))) ++ (wM cI cZ mq ma (sF mg 0 (fPut (fun z => tg z 0) (fun z => tg z 2) (xs (i + 1)) (xs (i + 2)))) mh mF (sF mE 27 (sPut (fun z => tg z 0) (fun z => tg z 2) ((mF 26)) (xs (i + 1)) (xs (i + 2)) (xs (i + 3)) ((mE 27)) 60)))))))))))))))))) (wX cI cZ xq xa (sF xg 6 (fPut (fun z => tg z 0) (fun z => tg z 2) (xs (i + 1)) (xs (i + 2)))) xh ++ (wA cO (xa 0) ys ++ (wC cI cZ (xa 1) ca cg cF ++ (wC cI cZ (xa 2) da dg dF ++ (wR cI cZ (xa 3) ra rg rF rE ++ (wS cI cZ (xa 4) za zg zh zk zF ++ (wT cI cZ (ys 0) (ta 0) (tg 0) ++ (wB cI ((ta 0) 3) (tf 0) ++ (wT cI cZ (ys 1) (ta 1) (tg 1) ++ (wB cI ((ta 1) 3) (tf 1) ++ (wT cI cZ (ys 2) (ta 2) (tg 2) ++ (wB cI ((ta 2) 3) (tf 2) ++ (wT cI cZ (ys 3) (ta 3) (tg 3) ++ (wB cI ((ta 3) 3) (onR (xs (i + 1)) 4 (tf 3) (fun _ => if cellF (((tg 3) 0)) (((tg 3) 2)) (xs (i + 2)) = 0 then sF (tf 3) (xs (i + 2)).toNatClampNeg (cutI (((tg 3) 1)) (xs (i + 3))) else (tf 3))))))))))))))))) (c_X6_put l D cI cZ cO mq ma mg mh mF mE _ (xs (i + 1)) (xs (i + 2)) (xs (i + 3)) (fun z => tg z 0) (fun z => tg z 2) (show ∀ z, z < 4 → ((fun z => tg z 0) z = 0 ∧ (mE 25) z = (-1 : Int32)) ∨ ((fun z => tg z 0) z = 1 ∧ (mE 25) z = nI ((fun z => tg z 2) z)) from hts) (show ∀ z0, (fun z => tg z 2) z0 ≤ 60 from ht2) (show ∀ z0, (mF 26) z0 ≤ 2 from (fun z => by rw [htl]; exact ht1 z))) (cwV 3 X.2.2.2.2.2.1 gL_law_X6_put rfl rfl rfl (by decide +kernel) ⟨Nat.le_of_ble_eq_true rfl, Nat.le_of_ble_eq_true rfl⟩) 5 rfl rfl rfl (ap1 (mf (mf (mf (mf (mf (mf (mf (mf (mf (mf (mf (mf (mf mf0)))))))))))))) (fun u => (ap1 (mf (mf (mf (mf (mf (mf (mf (mf (mf (mf (mf (mf (mf mf0))))))))))))))) rfl hl.1 rfl (Nat.le_of_ble_eq_true rfl) ⟨Nat.le_of_ble_eq_true rfl, Nat.le_of_ble_eq_true rfl⟩ dL_law_802 (fun r3 u4 H locs w802 hW => ?_)
  have hW : Wd D A s.heap H locs (wX cI cZ xq xa (sF xg 6 (fPut (fun z => tg z 0) (fun z => tg z 2) (xs (i + 1)) (xs (i + 2)))) xh ++ (wA cO (xa 0) ys ++ (wC cI cZ (xa 1) ca cg cF ++ (wC cI cZ (xa 2) da dg dF ++ (wR cI cZ (xa 3) ra rg rF rE ++ (wS cI cZ (xa 4) za zg zh zk zF ++ (wT cI cZ (ys 0) (ta 0) (tg 0) ++ (wB cI ((ta 0) 3) (tf 0) ++ (wT cI cZ (ys 1) (ta 1) (tg 1) ++ (wB cI ((ta 1) 3) (tf 1) ++ (wT cI cZ (ys 2) (ta 2) (tg 2) ++ (wB cI ((ta 2) 3) (tf 2) ++ (wT cI cZ (ys 3) (ta 3) (tg 3) ++ (wB cI ((ta 3) 3) (onR (xs (i + 1)) 4 (tf 3) (fun _ => if cellF (((tg 3) 0)) (((tg 3) 2)) (xs (i + 2)) = 0 then sF (tf 3) (xs (i + 2)).toNatClampNeg (cutI (((tg 3) 1)) (xs (i + 3))) else (tf 3))) ++ (wM cI cZ mq ma (sF mg 0 (fPut (fun z => tg z 0) (fun z => tg z 2) (xs (i + 1)) (xs (i + 2)))) mh mF (sF mE 27 (sPut (fun z => tg z 0) (fun z => tg z 2) ((mF 26)) (xs (i + 1)) (xs (i + 2)) (xs (i + 3)) ((mE 27)) 60))))))))))))))))) := hW
  replace w802 : r3 = aPut (fun z => tg z 0) (fun z => tg z 2) (xs (i + 1)) (xs (i + 2)) := w802
  subst w802
  refine x_icmp_eq X 1045 dL_law_805 (by decide) (fun c805 => ?_) (fun c805 => by exact absurd (by (try rw [e1]); (try rw [e2]); (try rw [e3]); (try rw [e4]); (try rw [e5]); (try rw [f1]); (try rw [f2]); (try rw [f3]); (try rw [f4]); (try rfl)) c805)
  exact next _ _ _ ⟨xa, (sF xg 6 (fPut (fun z => tg z 0) (fun z => tg z 2) (xs (i + 1)) (xs (i + 2)))), xh, ys, ca, cg, cF, da, dg, dF, ra, rg, rF, rE, za, zg, zh, zk, zF, ma, (sF mg 0 (fPut (fun z => tg z 0) (fun z => tg z 2) (xs (i + 1)) (xs (i + 2)))), mh, mF, (sF mE 27 (sPut (fun z => tg z 0) (fun z => tg z 2) ((mF 26)) (xs (i + 1)) (xs (i + 2)) (xs (i + 3)) ((mE 27)) 60)), ta, tg, (sF tf 3 (onR (xs (i + 1)) 4 (tf 3) (fun _ => if cellF (((tg 3) 0)) (((tg 3) 2)) (xs (i + 2)) = 0 then sF (tf 3) (xs (i + 2)).toNatClampNeg (cutI (((tg 3) 1)) (xs (i + 3))) else (tf 3)))), hW, hRC, hRR, hRD, hSK, RT_put hRT (by decide) hkj, ⟨hRX.1, rfl⟩, hRM⟩ (lv_sub hl [0, 1, 2, 3] rfl)
theorem law_put {p : Program} {e : Env} {s : State} {m : MethodId} {below : List Frame} {meth : Method} {c : Code} {D : va_G} {cI cZ cO : ClassId} {A : Nat → Prop} {Q : State → Prop} {l : Launch} {b L xq mq i : Nat} {xs : Nat → Int32} {H : Heap} {locs : List Loc} {ls : Array Slot} (X : Fx p s m #[Value.ref b] meth c code 4 ret wsL_law RL D (ty3 cI cZ cO) A) (hX : va_X b L xs s s.heap) (hbl : b < s.heap.size) (hbA : ¬ A b) (hL : L ≤ 3072) (hi : i + 6 ≤ L) (hI : lw_I D cI cZ cO A s.heap xq mq H locs) (hl : lv_has ls 4 [(3, .int (nI i)), (2, .ref mq), (1, .ref xq), (0, .ref b)]) (next : ∀ (H : Heap) (locs : List Loc) (ls : Array Slot), lw_I D cI cZ cO A s.heap xq mq H locs → lv_has ls 4 [(3, .int (nI i)), (2, .ref mq), (1, .ref xq), (0, .ref b)] → W p l e room_1 s m #[Value.ref b] below meth c H locs 600000 7302250 Q (F0 m 1045 ls [])) : W p l e room_1 s m #[Value.ref b] below meth c H locs 600000 7302250 Q (F0 m 767 ls []) := by
  rcases k5 (xs (i + 1)) with h | h | h | h | h
  · exact law_put_0 X hX hbl hbA hL hi hI hl (Or.inl h) next
  · exact law_put_0 X hX hbl hbA hL hi hI hl (Or.inr h) next
  · exact law_put_1 X hX hbl hbA hL hi hI hl (Or.inr h) next
  · exact law_put_2 X hX hbl hbA hL hi hI hl (Or.inr h) next
  · exact law_put_3 X hX hbl hbA hL hi hI hl (Or.inr h) next
set_option maxHeartbeats 4000000 in
set_option maxRecDepth 100000 in
theorem law_cell_0 {p : Program} {e : Env} {s : State} {m : MethodId} {below : List Frame} {meth : Method} {c : Code} {D : va_G} {cI cZ cO : ClassId} {A : Nat → Prop} {Q : State → Prop} {l : Launch} {b L xq mq i : Nat} {xs : Nat → Int32} {H : Heap} {locs : List Loc} {ls : Array Slot} (X : Fx p s m #[Value.ref b] meth c code 4 ret wsL_law RL D (ty3 cI cZ cO) A) (hX : va_X b L xs s s.heap) (hbl : b < s.heap.size) (hbA : ¬ A b) (hL : L ≤ 3072) (hi : i + 6 ≤ L) (hI : lw_I D cI cZ cO A s.heap xq mq H locs) (hl : lv_has ls 4 [(3, .int (nI i)), (2, .ref mq), (1, .ref xq), (0, .ref b)]) (hkj : ¬ inR (xs (i + 1)) 4 ∨ xs (i + 1) = nI 0) (next : ∀ (H : Heap) (locs : List Loc) (ls : Array Slot), lw_I D cI cZ cO A s.heap xq mq H locs → lv_has ls 4 [(3, .int (nI i)), (2, .ref mq), (1, .ref xq), (0, .ref b)] → W p l e room_1 s m #[Value.ref b] below meth c H locs 600000 7302250 Q (F0 m 1045 ls [])) : W p l e room_1 s m #[Value.ref b] below meth c H locs 600000 7302250 Q (F0 m 810 ls []) := by
  obtain ⟨xa, xg, xh, ys, ca, cg, cF, da, dg, dF, ra, rg, rF, rE, za, zg, zh, zk, zF, ma, mg, mh, mF, mE, ta, tg, tf, hW, hRC, hRR, hRD, hSK, hRT, hRX, hRM⟩ := hI
  have hW : Wd D A s.heap H locs (wX cI cZ xq xa xg xh ++ (wA cO (xa 0) ys ++ (wC cI cZ (xa 1) ca cg cF ++ (wC cI cZ (xa 2) da dg dF ++ (wR cI cZ (xa 3) ra rg rF rE ++ (wS cI cZ (xa 4) za zg zh zk zF ++ (wT cI cZ (ys 0) (ta 0) (tg 0) ++ (wB cI ((ta 0) 3) (tf 0) ++ (wT cI cZ (ys 1) (ta 1) (tg 1) ++ (wB cI ((ta 1) 3) (tf 1) ++ (wT cI cZ (ys 2) (ta 2) (tg 2) ++ (wB cI ((ta 2) 3) (tf 2) ++ (wT cI cZ (ys 3) (ta 3) (tg 3) ++ (wB cI ((ta 3) 3) (tf 3) ++ (wM cI cZ mq ma mg mh mF mE))))))))))))))) := hW
  obtain ⟨h02, hn, hrn, hk, hlv, hm, e2, e1, e3, e4, e5⟩ := id hRC
  obtain ⟨hrc, hro, hra, hrd, f1, f2, f3, f4⟩ := id hRR
  obtain ⟨hdn, hdr, hdk, hdl, hdm⟩ := id hRD
  obtain ⟨ht0, ht1, ht2, htl, hts, htc⟩ := id hRT
  refine x_aload_n X dL_law_810 rfl (lv_at hl 2 rfl) ?_
  refine x_aload_n X dL_law_811 rfl (lv_at hl 3 rfl) ?_
  refine x_iload_n X dL_law_812 rfl (lv_at hl 0 rfl) ?_
  refine x_iconst (v := nI 1) X dL_law_813 (by decide) ?_
  refine n_iadd X dL_law_814 ?_
  refine x_sld X hW hX hbl hbA (j := i + 1) (by omega) (by omega) dL_law_815 ?_
  refine x_aload_n X dL_law_816 rfl (lv_at hl 3 rfl) ?_
  refine x_iload_n X dL_law_817 rfl (lv_at hl 0 rfl) ?_
  refine x_iconst (v := nI 2) X dL_law_818 (by decide) ?_
  refine n_iadd X dL_law_819 ?_
  refine x_sld X hW hX hbl hbA (j := i + 2) (by omega) (by omega) dL_law_820 ?_
  refine x_aload_n X dL_law_821 rfl (lv_at hl 3 rfl) ?_
  refine x_iload_n X dL_law_822 rfl (lv_at hl 0 rfl) ?_
  refine x_iconst (v := nI 3) X dL_law_823 (by decide) ?_
  refine n_iadd X dL_law_824 ?_
  refine x_sld X hW hX hbl hbA (j := i + 3) (by omega) (by omega) dL_law_825 ?_
  refine x_pcallVl X hW (As := [.int (xs (i + 1)), .int (xs (i + 2)), .int (xs (i + 3))]) (rest := []) (wz := fun u => (wX cI cZ xq xa (sF xg 6 (fCell (fun z => tg z 0) (mF 26) (fun z => tg z 2) (xs (i + 1)) (xs (i + 2)) (xs (i + 3)))) xh ++ (wA cO (xa 0) ys ++ (wC cI cZ (xa 1) ca cg cF ++ (wC cI cZ (xa 2) da dg dF ++ (wR cI cZ (xa 3) ra rg rF rE ++ (wS cI cZ (xa 4) za zg zh zk zF ++ (wT cI cZ (ys 0) (ta 0) (tg 0) ++ (wB cI ((ta 0) 3) (tf 0) ++ (wT cI cZ (ys 1) (ta 1) (tg 1) ++ (wB cI ((ta 1) 3) (tf 1) ++ (wT cI cZ (ys 2) (ta 2) (tg 2) ++ (wB cI ((ta 2) 3) (tf 2) ++ (wT cI cZ (ys 3) (ta 3) (tg 3) ++ (wB cI ((ta 3) 3) (tf 3) ++ (wM cI cZ mq ma mg mh mF mE)))))))))))))))) (wC cI cZ (xa 1) ca cg cF ++ (wC cI cZ (xa 2) da dg dF ++ (wR cI cZ (xa 3) ra rg rF rE ++ (wS cI cZ (xa 4) za zg zh zk zF ++ (wT cI cZ (ys 1) (ta 1) (tg 1) ++ (wB cI ((ta 1) 3) (tf 1) ++ (wT cI cZ (ys 2) (ta 2) (tg 2) ++ (wB cI ((ta 2) 3) (tf 2) ++ (wT cI cZ (ys 3) (ta 3) (tg 3) ++ (wB cI ((ta 3) 3) (tf 3) ++ (wM cI cZ mq ma mg mh mF mE))))))))))) (c_X5_cell l D cI cZ cO xq xa xg xh ys (ta 0) (tg 0) (tf 0) _ (xs (i + 1)) (xs (i + 2)) (xs (i + 3)) 0 (fun z => tg z 0) (mF 26) (fun z => tg z 2) (fun j y => (mE 27) (60 * j + y)) (show 0 < 4 from (by decide)) (show ¬ inR (xs (i + 1)) 4 ∨ (xs (i + 1)) = nI 0 from hkj) (show ((tg 0) 2) ≤ 60 from ht2 0) (show ((tg 0) 0) ≤ 1 from ht0 0) (show ((tg 0) 1) ≤ 2 from ht1 0) (show (fun z => tg z 0) 0 = ((tg 0) 0) from rfl) (show (fun z => tg z 2) 0 = ((tg 0) 2) from rfl) (show (mF 26) 0 = ((tg 0) 1) from htl 0) (show ((tg 0) 0) = 1 → ∀ z0, z0 < ((tg 0) 2) → (tf 0) z0 = (fun j y => (mE 27) (60 * j + y)) 0 z0 from (fun q => htc 0 (by decide) q))) (cwV 3 X.2.2.2.2.2.1 gL_law_X5_cell rfl rfl rfl (by decide +kernel) ⟨Nat.le_of_ble_eq_true rfl, Nat.le_of_ble_eq_true rfl⟩) 4 rfl rfl rfl (apn (mfr _ _) (apn (mfr _ _) (apn (mf (mf (mf (mf (mfr _ _))))) (mf (mf (mf (mf (mfr _ _)))))))) (fun u => (apn (mfr _ _) (apn (mfr _ _) (apn (mf (mf (mf (mf (mfr _ _))))) (mf (mf (mf (mf (mfr _ _))))))))) rfl hl.1 rfl (Nat.le_of_ble_eq_true rfl) ⟨Nat.le_of_ble_eq_true rfl, Nat.le_of_ble_eq_true rfl⟩ dL_law_826 (fun r1 u2 H locs w826 hW => ?_)
  have hW : Wd D A s.heap H locs (wX cI cZ xq xa (sF xg 6 (fCell (fun z => tg z 0) (mF 26) (fun z => tg z 2) (xs (i + 1)) (xs (i + 2)) (xs (i + 3)))) xh ++ (wA cO (xa 0) ys ++ (wC cI cZ (xa 1) ca cg cF ++ (wC cI cZ (xa 2) da dg dF ++ (wR cI cZ (xa 3) ra rg rF rE ++ (wS cI cZ (xa 4) za zg zh zk zF ++ (wT cI cZ (ys 0) (ta 0) (tg 0) ++ (wB cI ((ta 0) 3) (tf 0) ++ (wT cI cZ (ys 1) (ta 1) (tg 1) ++ (wB cI ((ta 1) 3) (tf 1) ++ (wT cI cZ (ys 2) (ta 2) (tg 2) ++ (wB cI ((ta 2) 3) (tf 2) ++ (wT cI cZ (ys 3) (ta 3) (tg 3) ++ (wB cI ((ta 3) 3) (tf 3) ++ (wM cI cZ mq ma mg mh mF mE))))))))))))))) := hW
  replace w826 : r1 = aCell (fun z => tg z 0) (mF 26) (fun z => tg z 2) (fun j y => (mE 27) (60 * j + y)) (xs (i + 1)) (xs (i + 2)) (xs (i + 3)) := w826
  subst w826
  refine x_aload_n X dL_law_829 rfl (lv_at hl 1 rfl) ?_
  refine x_aload_n X dL_law_830 rfl (lv_at hl 3 rfl) ?_
  refine x_iload_n X dL_law_831 rfl (lv_at hl 0 rfl) ?_
  refine x_iconst (v := nI 1) X dL_law_832 (by decide) ?_
  refine n_iadd X dL_law_833 ?_
  refine x_sld X hW hX hbl hbA (j := i + 1) (by omega) (by omega) dL_law_834 ?_
  refine x_aload_n X dL_law_835 rfl (lv_at hl 3 rfl) ?_
  refine x_iload_n X dL_law_836 rfl (lv_at hl 0 rfl) ?_
  refine x_iconst (v := nI 2) X dL_law_837 (by decide) ?_
  refine n_iadd X dL_law_838 ?_
  refine x_sld X hW hX hbl hbA (j := i + 2) (by omega) (by omega) dL_law_839 ?_
  refine x_aload_n X dL_law_840 rfl (lv_at hl 3 rfl) ?_
  refine x_iload_n X dL_law_841 rfl (lv_at hl 0 rfl) ?_
  refine x_iconst (v := nI 3) X dL_law_842 (by decide) ?_
  refine n_iadd X dL_law_843 ?_
  refine x_sld X hW hX hbl hbA (j := i + 3) (by omega) (by omega) dL_law_844 ?_
  refine x_pcallVl X hW (As := [.int (xs (i + 1)), .int (xs (i + 2)), .int (xs (i + 3))]) (rest := [.long (aCell (fun z => tg z 0) (mF 26) (fun z => tg z 2) (fun j y => (mE 27) (60 * j + y)) (xs (i + 1)) (xs (i + 2)) (xs (i + 3)))]) (wz := fun u => (wX cI cZ xq xa (sF xg 6 (fCell (fun z => tg z 0) (mF 26) (fun z => tg z 2) (xs (i + 1)) (xs (i + 2)) (xs (i + 3)))) xh ++ (wA cO (xa 0) ys ++ (wC cI cZ (xa 1) ca cg cF ++ (wC cI cZ (xa 2) da dg dF ++ (wR cI cZ (xa 3) ra rg rF rE ++ (wS cI cZ (xa 4) za zg zh zk zF ++ (wT cI cZ (ys 0) (ta 0) (tg 0) ++ (wB cI ((ta 0) 3) (tf 0) ++ (wT cI cZ (ys 1) (ta 1) (tg 1) ++ (wB cI ((ta 1) 3) (tf 1) ++ (wT cI cZ (ys 2) (ta 2) (tg 2) ++ (wB cI ((ta 2) 3) (tf 2) ++ (wT cI cZ (ys 3) (ta 3) (tg 3) ++ (wB cI ((ta 3) 3) (tf 3) ++ (wM cI cZ mq ma (sF mg 0 (fCell (fun z => tg z 0) ((mF 26)) (fun z => tg z 2) (xs (i + 1)) (xs (i + 2)) (xs (i + 3)))) mh mF mE)))))))))))))))) (wX cI cZ xq xa (sF xg 6 (fCell (fun z => tg z 0) (mF 26) (fun z => tg z 2) (xs (i + 1)) (xs (i + 2)) (xs (i + 3)))) xh ++ (wA cO (xa 0) ys ++ (wC cI cZ (xa 1) ca cg cF ++ (wC cI cZ (xa 2) da dg dF ++ (wR cI cZ (xa 3) ra rg rF rE ++ (wS cI cZ (xa 4) za zg zh zk zF ++ (wT cI cZ (ys 0) (ta 0) (tg 0) ++ (wB cI ((ta 0) 3) (tf 0) ++ (wT cI cZ (ys 1) (ta 1) (tg 1) ++ (wB cI ((ta 1) 3) (tf 1) ++ (wT cI cZ (ys 2) (ta 2) (tg 2) ++ (wB cI ((ta 2) 3) (tf 2) ++ (wT cI cZ (ys 3) (ta 3) (tg 3) ++ (wB cI ((ta 3) 3) (tf 3))))))))))))))) (c_X6_cell l D cI cZ cO mq ma mg mh mF mE _ (xs (i + 1)) (xs (i + 2)) (xs (i + 3)) (fun z => tg z 0) (fun z => tg z 2) (show ∀ z, z < 4 → ((fun z => tg z 0) z = 0 ∧ (mE 25) z = (-1 : Int32)) ∨ ((fun z => tg z 0) z = 1 ∧ (mE 25) z = nI ((fun z => tg z 2) z)) from hts) (show ∀ z0, (fun z => tg z 2) z0 ≤ 60 from ht2) (show ∀ z0, (mF 26) z0 ≤ 2 from (fun z => by rw [htl]; exact ht1 z))) (cwV 3 X.2.2.2.2.2.1 gL_law_X6_cell rfl rfl rfl (by decide +kernel) ⟨Nat.le_of_ble_eq_true rfl, Nat.le_of_ble_eq_true rfl⟩) 5 rfl rfl rfl (ap1 (mf (mf (mf (mf (mf (mf (mf (mf (mf (mf (mf (mf (mf mf0)))))))))))))) (fun u => (ap1 (mf (mf (mf (mf (mf (mf (mf (mf (mf (mf (mf (mf (mf mf0))))))))))))))) rfl hl.1 rfl (Nat.le_of_ble_eq_true rfl) ⟨Nat.le_of_ble_eq_true rfl, Nat.le_of_ble_eq_true rfl⟩ dL_law_845 (fun r3 u4 H locs w845 hW => ?_)
  have hW : Wd D A s.heap H locs (wX cI cZ xq xa (sF xg 6 (fCell (fun z => tg z 0) (mF 26) (fun z => tg z 2) (xs (i + 1)) (xs (i + 2)) (xs (i + 3)))) xh ++ (wA cO (xa 0) ys ++ (wC cI cZ (xa 1) ca cg cF ++ (wC cI cZ (xa 2) da dg dF ++ (wR cI cZ (xa 3) ra rg rF rE ++ (wS cI cZ (xa 4) za zg zh zk zF ++ (wT cI cZ (ys 0) (ta 0) (tg 0) ++ (wB cI ((ta 0) 3) (tf 0) ++ (wT cI cZ (ys 1) (ta 1) (tg 1) ++ (wB cI ((ta 1) 3) (tf 1) ++ (wT cI cZ (ys 2) (ta 2) (tg 2) ++ (wB cI ((ta 2) 3) (tf 2) ++ (wT cI cZ (ys 3) (ta 3) (tg 3) ++ (wB cI ((ta 3) 3) (tf 3) ++ (wM cI cZ mq ma (sF mg 0 (fCell (fun z => tg z 0) ((mF 26)) (fun z => tg z 2) (xs (i + 1)) (xs (i + 2)) (xs (i + 3)))) mh mF mE))))))))))))))) := hW
  replace w845 : r3 = aCell (fun z => tg z 0) ((mF 26)) (fun z => tg z 2) (fun j y => (mE 27) (60 * j + y)) (xs (i + 1)) (xs (i + 2)) (xs (i + 3)) := w845
  subst w845
  refine x_lcmp X dL_law_848 ?_
  refine x_if_eq X 1045 dL_law_849 (by decide) (fun c849 => ?_) (fun c849 => by exact absurd (lcmp_eq.mpr (by (try rw [e1]); (try rw [e2]); (try rw [e3]); (try rw [e4]); (try rw [e5]); (try rw [f1]); (try rw [f2]); (try rw [f3]); (try rw [f4]); (try rfl))) c849)
  exact next _ _ _ ⟨xa, (sF xg 6 (fCell (fun z => tg z 0) (mF 26) (fun z => tg z 2) (xs (i + 1)) (xs (i + 2)) (xs (i + 3)))), xh, ys, ca, cg, cF, da, dg, dF, ra, rg, rF, rE, za, zg, zh, zk, zF, ma, (sF mg 0 (fCell (fun z => tg z 0) ((mF 26)) (fun z => tg z 2) (xs (i + 1)) (xs (i + 2)) (xs (i + 3)))), mh, mF, mE, ta, tg, tf, hW, hRC, hRR, hRD, hSK, hRT, ⟨hRX.1, rfl⟩, hRM⟩ (lv_sub hl [0, 1, 2, 3] rfl)
set_option maxHeartbeats 4000000 in
set_option maxRecDepth 100000 in
theorem law_cell_1 {p : Program} {e : Env} {s : State} {m : MethodId} {below : List Frame} {meth : Method} {c : Code} {D : va_G} {cI cZ cO : ClassId} {A : Nat → Prop} {Q : State → Prop} {l : Launch} {b L xq mq i : Nat} {xs : Nat → Int32} {H : Heap} {locs : List Loc} {ls : Array Slot} (X : Fx p s m #[Value.ref b] meth c code 4 ret wsL_law RL D (ty3 cI cZ cO) A) (hX : va_X b L xs s s.heap) (hbl : b < s.heap.size) (hbA : ¬ A b) (hL : L ≤ 3072) (hi : i + 6 ≤ L) (hI : lw_I D cI cZ cO A s.heap xq mq H locs) (hl : lv_has ls 4 [(3, .int (nI i)), (2, .ref mq), (1, .ref xq), (0, .ref b)]) (hkj : ¬ inR (xs (i + 1)) 4 ∨ xs (i + 1) = nI 1) (next : ∀ (H : Heap) (locs : List Loc) (ls : Array Slot), lw_I D cI cZ cO A s.heap xq mq H locs → lv_has ls 4 [(3, .int (nI i)), (2, .ref mq), (1, .ref xq), (0, .ref b)] → W p l e room_1 s m #[Value.ref b] below meth c H locs 600000 7302250 Q (F0 m 1045 ls [])) : W p l e room_1 s m #[Value.ref b] below meth c H locs 600000 7302250 Q (F0 m 810 ls []) := by
  obtain ⟨xa, xg, xh, ys, ca, cg, cF, da, dg, dF, ra, rg, rF, rE, za, zg, zh, zk, zF, ma, mg, mh, mF, mE, ta, tg, tf, hW, hRC, hRR, hRD, hSK, hRT, hRX, hRM⟩ := hI
  have hW : Wd D A s.heap H locs (wX cI cZ xq xa xg xh ++ (wA cO (xa 0) ys ++ (wC cI cZ (xa 1) ca cg cF ++ (wC cI cZ (xa 2) da dg dF ++ (wR cI cZ (xa 3) ra rg rF rE ++ (wS cI cZ (xa 4) za zg zh zk zF ++ (wT cI cZ (ys 0) (ta 0) (tg 0) ++ (wB cI ((ta 0) 3) (tf 0) ++ (wT cI cZ (ys 1) (ta 1) (tg 1) ++ (wB cI ((ta 1) 3) (tf 1) ++ (wT cI cZ (ys 2) (ta 2) (tg 2) ++ (wB cI ((ta 2) 3) (tf 2) ++ (wT cI cZ (ys 3) (ta 3) (tg 3) ++ (wB cI ((ta 3) 3) (tf 3) ++ (wM cI cZ mq ma mg mh mF mE))))))))))))))) := hW
  obtain ⟨h02, hn, hrn, hk, hlv, hm, e2, e1, e3, e4, e5⟩ := id hRC
  obtain ⟨hrc, hro, hra, hrd, f1, f2, f3, f4⟩ := id hRR
  obtain ⟨hdn, hdr, hdk, hdl, hdm⟩ := id hRD
  obtain ⟨ht0, ht1, ht2, htl, hts, htc⟩ := id hRT
  refine x_aload_n X dL_law_810 rfl (lv_at hl 2 rfl) ?_
  refine x_aload_n X dL_law_811 rfl (lv_at hl 3 rfl) ?_
  refine x_iload_n X dL_law_812 rfl (lv_at hl 0 rfl) ?_
  refine x_iconst (v := nI 1) X dL_law_813 (by decide) ?_
  refine n_iadd X dL_law_814 ?_
  refine x_sld X hW hX hbl hbA (j := i + 1) (by omega) (by omega) dL_law_815 ?_
  refine x_aload_n X dL_law_816 rfl (lv_at hl 3 rfl) ?_
  refine x_iload_n X dL_law_817 rfl (lv_at hl 0 rfl) ?_
  refine x_iconst (v := nI 2) X dL_law_818 (by decide) ?_
  refine n_iadd X dL_law_819 ?_
  refine x_sld X hW hX hbl hbA (j := i + 2) (by omega) (by omega) dL_law_820 ?_
  refine x_aload_n X dL_law_821 rfl (lv_at hl 3 rfl) ?_
  refine x_iload_n X dL_law_822 rfl (lv_at hl 0 rfl) ?_
  refine x_iconst (v := nI 3) X dL_law_823 (by decide) ?_
  refine n_iadd X dL_law_824 ?_
  refine x_sld X hW hX hbl hbA (j := i + 3) (by omega) (by omega) dL_law_825 ?_
  refine x_pcallVl X hW (As := [.int (xs (i + 1)), .int (xs (i + 2)), .int (xs (i + 3))]) (rest := []) (wz := fun u => (wX cI cZ xq xa (sF xg 6 (fCell (fun z => tg z 0) (mF 26) (fun z => tg z 2) (xs (i + 1)) (xs (i + 2)) (xs (i + 3)))) xh ++ (wA cO (xa 0) ys ++ (wC cI cZ (xa 1) ca cg cF ++ (wC cI cZ (xa 2) da dg dF ++ (wR cI cZ (xa 3) ra rg rF rE ++ (wS cI cZ (xa 4) za zg zh zk zF ++ (wT cI cZ (ys 0) (ta 0) (tg 0) ++ (wB cI ((ta 0) 3) (tf 0) ++ (wT cI cZ (ys 1) (ta 1) (tg 1) ++ (wB cI ((ta 1) 3) (tf 1) ++ (wT cI cZ (ys 2) (ta 2) (tg 2) ++ (wB cI ((ta 2) 3) (tf 2) ++ (wT cI cZ (ys 3) (ta 3) (tg 3) ++ (wB cI ((ta 3) 3) (tf 3) ++ (wM cI cZ mq ma mg mh mF mE)))))))))))))))) (wC cI cZ (xa 1) ca cg cF ++ (wC cI cZ (xa 2) da dg dF ++ (wR cI cZ (xa 3) ra rg rF rE ++ (wS cI cZ (xa 4) za zg zh zk zF ++ (wT cI cZ (ys 0) (ta 0) (tg 0) ++ (wB cI ((ta 0) 3) (tf 0) ++ (wT cI cZ (ys 2) (ta 2) (tg 2) ++ (wB cI ((ta 2) 3) (tf 2) ++ (wT cI cZ (ys 3) (ta 3) (tg 3) ++ (wB cI ((ta 3) 3) (tf 3) ++ (wM cI cZ mq ma mg mh mF mE))))))))))) (c_X5_cell l D cI cZ cO xq xa xg xh ys (ta 1) (tg 1) (tf 1) _ (xs (i + 1)) (xs (i + 2)) (xs (i + 3)) 1 (fun z => tg z 0) (mF 26) (fun z => tg z 2) (fun j y => (mE 27) (60 * j + y)) (show 1 < 4 from (by decide)) (show ¬ inR (xs (i + 1)) 4 ∨ (xs (i + 1)) = nI 1 from hkj) (show ((tg 1) 2) ≤ 60 from ht2 1) (show ((tg 1) 0) ≤ 1 from ht0 1) (show ((tg 1) 1) ≤ 2 from ht1 1) (show (fun z => tg z 0) 1 = ((tg 1) 0) from rfl) (show (fun z => tg z 2) 1 = ((tg 1) 2) from rfl) (show (mF 26) 1 = ((tg 1) 1) from htl 1) (show ((tg 1) 0) = 1 → ∀ z0, z0 < ((tg 1) 2) → (tf 1) z0 = (fun j y => (mE 27) (60 * j + y)) 1 z0 from (fun q => htc 1 (by decide) q))) (cwV 3 X.2.2.2.2.2.1 gL_law_X5_cell rfl rfl rfl (by decide +kernel) ⟨Nat.le_of_ble_eq_true rfl, Nat.le_of_ble_eq_true rfl⟩) 4 rfl rfl rfl (apn (mfr _ _) (apn (mfr _ _) (apn (mf (mf (mf (mf (mf (mf (mfr _ _))))))) (mf (mf (mf (mf (mf (mf (mfr _ _)))))))))) (fun u => (apn (mfr _ _) (apn (mfr _ _) (apn (mf (mf (mf (mf (mf (mf (mfr _ _))))))) (mf (mf (mf (mf (mf (mf (mfr _ _))))))))))) rfl hl.1 rfl (Nat.le_of_ble_eq_true rfl) ⟨Nat.le_of_ble_eq_true rfl, Nat.le_of_ble_eq_true rfl⟩ dL_law_826 (fun r1 u2 H locs w826 hW => ?_)
  have hW : Wd D A s.heap H locs (wX cI cZ xq xa (sF xg 6 (fCell (fun z => tg z 0) (mF 26) (fun z => tg z 2) (xs (i + 1)) (xs (i + 2)) (xs (i + 3)))) xh ++ (wA cO (xa 0) ys ++ (wC cI cZ (xa 1) ca cg cF ++ (wC cI cZ (xa 2) da dg dF ++ (wR cI cZ (xa 3) ra rg rF rE ++ (wS cI cZ (xa 4) za zg zh zk zF ++ (wT cI cZ (ys 0) (ta 0) (tg 0) ++ (wB cI ((ta 0) 3) (tf 0) ++ (wT cI cZ (ys 1) (ta 1) (tg 1) ++ (wB cI ((ta 1) 3) (tf 1) ++ (wT cI cZ (ys 2) (ta 2) (tg 2) ++ (wB cI ((ta 2) 3) (tf 2) ++ (wT cI cZ (ys 3) (ta 3) (tg 3) ++ (wB cI ((ta 3) 3) (tf 3) ++ (wM cI cZ mq ma mg mh mF mE))))))))))))))) := hW
  replace w826 : r1 = aCell (fun z => tg z 0) (mF 26) (fun z => tg z 2) (fun j y => (mE 27) (60 * j + y)) (xs (i + 1)) (xs (i + 2)) (xs (i + 3)) := w826
  subst w826
  refine x_aload_n X dL_law_829 rfl (lv_at hl 1 rfl) ?_
  refine x_aload_n X dL_law_830 rfl (lv_at hl 3 rfl) ?_
  refine x_iload_n X dL_law_831 rfl (lv_at hl 0 rfl) ?_
  refine x_iconst (v := nI 1) X dL_law_832 (by decide) ?_
  refine n_iadd X dL_law_833 ?_
  refine x_sld X hW hX hbl hbA (j := i + 1) (by omega) (by omega) dL_law_834 ?_
  refine x_aload_n X dL_law_835 rfl (lv_at hl 3 rfl) ?_
  refine x_iload_n X dL_law_836 rfl (lv_at hl 0 rfl) ?_
  refine x_iconst (v := nI 2) X dL_law_837 (by decide) ?_
  refine n_iadd X dL_law_838 ?_
  refine x_sld X hW hX hbl hbA (j := i + 2) (by omega) (by omega) dL_law_839 ?_
  refine x_aload_n X dL_law_840 rfl (lv_at hl 3 rfl) ?_
  refine x_iload_n X dL_law_841 rfl (lv_at hl 0 rfl) ?_
  refine x_iconst (v := nI 3) X dL_law_842 (by decide) ?_
  refine n_iadd X dL_law_843 ?_
  refine x_sld X hW hX hbl hbA (j := i + 3) (by omega) (by omega) dL_law_844 ?_
  refine x_pcallVl X hW (As := [.int (xs (i + 1)), .int (xs (i + 2)), .int (xs (i + 3))]) (rest := [.long (aCell (fun z => tg z 0) (mF 26) (fun z => tg z 2) (fun j y => (mE 27) (60 * j + y)) (xs (i + 1)) (xs (i + 2)) (xs (i + 3)))]) (wz := fun u => (wX cI cZ xq xa (sF xg 6 (fCell (fun z => tg z 0) (mF 26) (fun z => tg z 2) (xs (i + 1)) (xs (i + 2)) (xs (i + 3)))) xh ++ (wA cO (xa 0) ys ++ (wC cI cZ (xa 1) ca cg cF ++ (wC cI cZ (xa 2) da dg dF ++ (wR cI cZ (xa 3) ra rg rF rE ++ (wS cI cZ (xa 4) za zg zh zk zF ++ (wT cI cZ (ys 0) (ta 0) (tg 0) ++ (wB cI ((ta 0) 3) (tf 0) ++ (wT cI cZ (ys 1) (ta 1) (tg 1) ++ (wB cI ((ta 1) 3) (tf 1) ++ (wT cI cZ (ys 2) (ta 2) (tg 2) ++ (wB cI ((ta 2) 3) (tf 2) ++ (wT cI cZ (ys 3) (ta 3) (tg 3) ++ (wB cI ((ta 3) 3) (tf 3) ++ (wM cI cZ mq ma (sF mg 0 (fCell (fun z => tg z 0) ((mF 26)) (fun z => tg z 2) (xs (i + 1)) (xs (i + 2)) (xs (i + 3)))) mh mF mE)))))))))))))))) (wX cI cZ xq xa (sF xg 6 (fCell (fun z => tg z 0) (mF 26) (fun z => tg z 2) (xs (i + 1)) (xs (i + 2)) (xs (i + 3)))) xh ++ (wA cO (xa 0) ys ++ (wC cI cZ (xa 1) ca cg cF ++ (wC cI cZ (xa 2) da dg dF ++ (wR cI cZ (xa 3) ra rg rF rE ++ (wS cI cZ (xa 4) za zg zh zk zF ++ (wT cI cZ (ys 0) (ta 0) (tg 0) ++ (wB cI ((ta 0) 3) (tf 0) ++ (wT cI cZ (ys 1) (ta 1) (tg 1) ++ (wB cI ((ta 1) 3) (tf 1) ++ (wT cI cZ (ys 2) (ta 2) (tg 2) ++ (wB cI ((ta 2) 3) (tf 2) ++ (wT cI cZ (ys 3) (ta 3) (tg 3) ++ (wB cI ((ta 3) 3) (tf 3))))))))))))))) (c_X6_cell l D cI cZ cO mq ma mg mh mF mE _ (xs (i + 1)) (xs (i + 2)) (xs (i + 3)) (fun z => tg z 0) (fun z => tg z 2) (show ∀ z, z < 4 → ((fun z => tg z 0) z = 0 ∧ (mE 25) z = (-1 : Int32)) ∨ ((fun z => tg z 0) z = 1 ∧ (mE 25) z = nI ((fun z => tg z 2) z)) from hts) (show ∀ z0, (fun z => tg z 2) z0 ≤ 60 from ht2) (show ∀ z0, (mF 26) z0 ≤ 2 from (fun z => by rw [htl]; exact ht1 z))) (cwV 3 X.2.2.2.2.2.1 gL_law_X6_cell rfl rfl rfl (by decide +kernel) ⟨Nat.le_of_ble_eq_true rfl, Nat.le_of_ble_eq_true rfl⟩) 5 rfl rfl rfl (ap1 (mf (mf (mf (mf (mf (mf (mf (mf (mf (mf (mf (mf (mf mf0)))))))))))))) (fun u => (ap1 (mf (mf (mf (mf (mf (mf (mf (mf (mf (mf (mf (mf (mf mf0))))))))))))))) rfl hl.1 rfl (Nat.le_of_ble_eq_true rfl) ⟨Nat.le_of_ble_eq_true rfl, Nat.le_of_ble_eq_true rfl⟩ dL_law_845 (fun r3 u4 H locs w845 hW => ?_)
  have hW : Wd D A s.heap H locs (wX cI cZ xq xa (sF xg 6 (fCell (fun z => tg z 0) (mF 26) (fun z => tg z 2) (xs (i + 1)) (xs (i + 2)) (xs (i + 3)))) xh ++ (wA cO (xa 0) ys ++ (wC cI cZ (xa 1) ca cg cF ++ (wC cI cZ (xa 2) da dg dF ++ (wR cI cZ (xa 3) ra rg rF rE ++ (wS cI cZ (xa 4) za zg zh zk zF ++ (wT cI cZ (ys 0) (ta 0) (tg 0) ++ (wB cI ((ta 0) 3) (tf 0) ++ (wT cI cZ (ys 1) (ta 1) (tg 1) ++ (wB cI ((ta 1) 3) (tf 1) ++ (wT cI cZ (ys 2) (ta 2) (tg 2) ++ (wB cI ((ta 2) 3) (tf 2) ++ (wT cI cZ (ys 3) (ta 3) (tg 3) ++ (wB cI ((ta 3) 3) (tf 3) ++ (wM cI cZ mq ma (sF mg 0 (fCell (fun z => tg z 0) ((mF 26)) (fun z => tg z 2) (xs (i + 1)) (xs (i + 2)) (xs (i + 3)))) mh mF mE))))))))))))))) := hW
  replace w845 : r3 = aCell (fun z => tg z 0) ((mF 26)) (fun z => tg z 2) (fun j y => (mE 27) (60 * j + y)) (xs (i + 1)) (xs (i + 2)) (xs (i + 3)) := w845
  subst w845
  refine x_lcmp X dL_law_848 ?_
  refine x_if_eq X 1045 dL_law_849 (by decide) (fun c849 => ?_) (fun c849 => by exact absurd (lcmp_eq.mpr (by (try rw [e1]); (try rw [e2]); (try rw [e3]); (try rw [e4]); (try rw [e5]); (try rw [f1]); (try rw [f2]); (try rw [f3]); (try rw [f4]); (try rfl))) c849)
  exact next _ _ _ ⟨xa, (sF xg 6 (fCell (fun z => tg z 0) (mF 26) (fun z => tg z 2) (xs (i + 1)) (xs (i + 2)) (xs (i + 3)))), xh, ys, ca, cg, cF, da, dg, dF, ra, rg, rF, rE, za, zg, zh, zk, zF, ma, (sF mg 0 (fCell (fun z => tg z 0) ((mF 26)) (fun z => tg z 2) (xs (i + 1)) (xs (i + 2)) (xs (i + 3)))), mh, mF, mE, ta, tg, tf, hW, hRC, hRR, hRD, hSK, hRT, ⟨hRX.1, rfl⟩, hRM⟩ (lv_sub hl [0, 1, 2, 3] rfl)
set_option maxHeartbeats 4000000 in
set_option maxRecDepth 100000 in
theorem law_cell_2 {p : Program} {e : Env} {s : State} {m : MethodId} {below : List Frame} {meth : Method} {c : Code} {D : va_G} {cI cZ cO : ClassId} {A : Nat → Prop} {Q : State → Prop} {l : Launch} {b L xq mq i : Nat} {xs : Nat → Int32} {H : Heap} {locs : List Loc} {ls : Array Slot} (X : Fx p s m #[Value.ref b] meth c code 4 ret wsL_law RL D (ty3 cI cZ cO) A) (hX : va_X b L xs s s.heap) (hbl : b < s.heap.size) (hbA : ¬ A b) (hL : L ≤ 3072) (hi : i + 6 ≤ L) (hI : lw_I D cI cZ cO A s.heap xq mq H locs) (hl : lv_has ls 4 [(3, .int (nI i)), (2, .ref mq), (1, .ref xq), (0, .ref b)]) (hkj : ¬ inR (xs (i + 1)) 4 ∨ xs (i + 1) = nI 2) (next : ∀ (H : Heap) (locs : List Loc) (ls : Array Slot), lw_I D cI cZ cO A s.heap xq mq H locs → lv_has ls 4 [(3, .int (nI i)), (2, .ref mq), (1, .ref xq), (0, .ref b)] → W p l e room_1 s m #[Value.ref b] below meth c H locs 600000 7302250 Q (F0 m 1045 ls [])) : W p l e room_1 s m #[Value.ref b] below meth c H locs 600000 7302250 Q (F0 m 810 ls []) := by
  obtain ⟨xa, xg, xh, ys, ca, cg, cF, da, dg, dF, ra, rg, rF, rE, za, zg, zh, zk, zF, ma, mg, mh, mF, mE, ta, tg, tf, hW, hRC, hRR, hRD, hSK, hRT, hRX, hRM⟩ := hI
  have hW : Wd D A s.heap H locs (wX cI cZ xq xa xg xh ++ (wA cO (xa 0) ys ++ (wC cI cZ (xa 1) ca cg cF ++ (wC cI cZ (xa 2) da dg dF ++ (wR cI cZ (xa 3) ra rg rF rE ++ (wS cI cZ (xa 4) za zg zh zk zF ++ (wT cI cZ (ys 0) (ta 0) (tg 0) ++ (wB cI ((ta 0) 3) (tf 0) ++ (wT cI cZ (ys 1) (ta 1) (tg 1) ++ (wB cI ((ta 1) 3) (tf 1) ++ (wT cI cZ (ys 2) (ta 2) (tg 2) ++ (wB cI ((ta 2) 3) (tf 2) ++ (wT cI cZ (ys 3) (ta 3) (tg 3) ++ (wB cI ((ta 3) 3) (tf 3) ++ (wM cI cZ mq ma mg mh mF mE))))))))))))))) := hW
  obtain ⟨h02, hn, hrn, hk, hlv, hm, e2, e1, e3, e4, e5⟩ := id hRC
  obtain ⟨hrc, hro, hra, hrd, f1, f2, f3, f4⟩ := id hRR
  obtain ⟨hdn, hdr, hdk, hdl, hdm⟩ := id hRD
  obtain ⟨ht0, ht1, ht2, htl, hts, htc⟩ := id hRT
  refine x_aload_n X dL_law_810 rfl (lv_at hl 2 rfl) ?_
  refine x_aload_n X dL_law_811 rfl (lv_at hl 3 rfl) ?_
  refine x_iload_n X dL_law_812 rfl (lv_at hl 0 rfl) ?_
  refine x_iconst (v := nI 1) X dL_law_813 (by decide) ?_
  refine n_iadd X dL_law_814 ?_
  refine x_sld X hW hX hbl hbA (j := i + 1) (by omega) (by omega) dL_law_815 ?_
  refine x_aload_n X dL_law_816 rfl (lv_at hl 3 rfl) ?_
  refine x_iload_n X dL_law_817 rfl (lv_at hl 0 rfl) ?_
  refine x_iconst (v := nI 2) X dL_law_818 (by decide) ?_
  refine n_iadd X dL_law_819 ?_
  refine x_sld X hW hX hbl hbA (j := i + 2) (by omega) (by omega) dL_law_820 ?_
  refine x_aload_n X dL_law_821 rfl (lv_at hl 3 rfl) ?_
  refine x_iload_n X dL_law_822 rfl (lv_at hl 0 rfl) ?_
  refine x_iconst (v := nI 3) X dL_law_823 (by decide) ?_
  refine n_iadd X dL_law_824 ?_
  refine x_sld X hW hX hbl hbA (j := i + 3) (by omega) (by omega) dL_law_825 ?_
  refine x_pcallVl X hW (As := [.int (xs (i + 1)), .int (xs (i + 2)), .int (xs (i + 3))]) (rest := []) (wz := fun u => (wX cI cZ xq xa (sF xg 6 (fCell (fun z => tg z 0) (mF 26) (fun z => tg z 2) (xs (i + 1)) (xs (i + 2)) (xs (i + 3)))) xh ++ (wA cO (xa 0) ys ++ (wC cI cZ (xa 1) ca cg cF ++ (wC cI cZ (xa 2) da dg dF ++ (wR cI cZ (xa 3) ra rg rF rE ++ (wS cI cZ (xa 4) za zg zh zk zF ++ (wT cI cZ (ys 0) (ta 0) (tg 0) ++ (wB cI ((ta 0) 3) (tf 0) ++ (wT cI cZ (ys 1) (ta 1) (tg 1) ++ (wB cI ((ta 1) 3) (tf 1) ++ (wT cI cZ (ys 2) (ta 2) (tg 2) ++ (wB cI ((ta 2) 3) (tf 2) ++ (wT cI cZ (ys 3) (ta 3) (tg 3) ++ (wB cI ((ta 3) 3) (tf 3) ++ (wM cI cZ mq ma mg mh mF mE)))))))))))))))) (wC cI cZ (xa 1) ca cg cF ++ (wC cI cZ (xa 2) da dg dF ++ (wR cI cZ (xa 3) ra rg rF rE ++ (wS cI cZ (xa 4) za zg zh zk zF ++ (wT cI cZ (ys 0) (ta 0) (tg 0) ++ (wB cI ((ta 0) 3) (tf 0) ++ (wT cI cZ (ys 1) (ta 1) (tg 1) ++ (wB cI ((ta 1) 3) (tf 1) ++ (wT cI cZ (ys 3) (ta 3) (tg 3) ++ (wB cI ((ta 3) 3) (tf 3) ++ (wM cI cZ mq ma mg mh mF mE))))))))))) (c_X5_cell l D cI cZ cO xq xa xg xh ys (ta 2) (tg 2) (tf 2) _ (xs (i + 1)) (xs (i + 2)) (xs (i + 3)) 2 (fun z => tg z 0) (mF 26) (fun z => tg z 2) (fun j y => (mE 27) (60 * j + y)) (show 2 < 4 from (by decide)) (show ¬ inR (xs (i + 1)) 4 ∨ (xs (i + 1)) = nI 2 from hkj) (show ((tg 2) 2) ≤ 60 from ht2 2) (show ((tg 2) 0) ≤ 1 from ht0 2) (show ((tg 2) 1) ≤ 2 from ht1 2) (show (fun z => tg z 0) 2 = ((tg 2) 0) from rfl) (show (fun z => tg z 2) 2 = ((tg 2) 2) from rfl) (show (mF 26) 2 = ((tg 2) 1) from htl 2) (show ((tg 2) 0) = 1 → ∀ z0, z0 < ((tg 2) 2) → (tf 2) z0 = (fun j y => (mE 27) (60 * j + y)) 2 z0 from (fun q => htc 2 (by decide) q))) (cwV 3 X.2.2.2.2.2.1 gL_law_X5_cell rfl rfl rfl (by decide +kernel) ⟨Nat.le_of_ble_eq_true rfl, Nat.le_of_ble_eq_true rfl⟩) 4 rfl rfl rfl (apn (mfr _ _) (apn (mfr _ _) (apn (mf (mf (mf (mf (mf (mf (mf (mf (mfr _ _))))))))) (mf (mf (mf (mf (mf (mf (mf (mf (mfr _ _)))))))))))) (fun u => (apn (mfr _ _) (apn (mfr _ _) (apn (mf (mf (mf (mf (mf (mf (mf (mf (mfr _ _))))))))) (mf (mf (mf (mf (mf (mf (mf (mf (mfr _ _))))))))))))) rfl hl.1 rfl (Nat.le_of_ble_eq_true rfl) ⟨Nat.le_of_ble_eq_true rfl, Nat.le_of_ble_eq_true rfl⟩ dL_law_826 (fun r1 u2 H locs w826 hW => ?_)
  have hW : Wd D A s.heap H locs (wX cI cZ xq xa (sF xg 6 (fCell (fun z => tg z 0) (mF 26) (fun z => tg z 2) (xs (i + 1)) (xs (i + 2)) (xs (i + 3)))) xh ++ (wA cO (xa 0) ys ++ (wC cI cZ (xa 1) ca cg cF ++ (wC cI cZ (xa 2) da dg dF ++ (wR cI cZ (xa 3) ra rg rF rE ++ (wS cI cZ (xa 4) za zg zh zk zF ++ (wT cI cZ (ys 0) (ta 0) (tg 0) ++ (wB cI ((ta 0) 3) (tf 0) ++ (wT cI cZ (ys 1) (ta 1) (tg 1) ++ (wB cI ((ta 1) 3) (tf 1) ++ (wT cI cZ (ys 2) (ta 2) (tg 2) ++ (wB cI ((ta 2) 3) (tf 2) ++ (wT cI cZ (ys 3) (ta 3) (tg 3) ++ (wB cI ((ta 3) 3) (tf 3) ++ (wM cI cZ mq ma mg mh mF mE))))))))))))))) := hW
  replace w826 : r1 = aCell (fun z => tg z 0) (mF 26) (fun z => tg z 2) (fun j y => (mE 27) (60 * j + y)) (xs (i + 1)) (xs (i + 2)) (xs (i + 3)) := w826
  subst w826
  refine x_aload_n X dL_law_829 rfl (lv_at hl 1 rfl) ?_
  refine x_aload_n X dL_law_830 rfl (lv_at hl 3 rfl) ?_
  refine x_iload_n X dL_law_831 rfl (lv_at hl 0 rfl) ?_
  refine x_iconst (v := nI 1) X dL_law_832 (by decide) ?_
  refine n_iadd X dL_law_833 ?_
  refine x_sld X hW hX hbl hbA (j := i + 1) (by omega) (by omega) dL_law_834 ?_
  refine x_aload_n X dL_law_835 rfl (lv_at hl 3 rfl) ?_
  refine x_iload_n X dL_law_836 rfl (lv_at hl 0 rfl) ?_
  refine x_iconst (v := nI 2) X dL_law_837 (by decide) ?_
  refine n_iadd X dL_law_838 ?_
  refine x_sld X hW hX hbl hbA (j := i + 2) (by omega) (by omega) dL_law_839 ?_
  refine x_aload_n X dL_law_840 rfl (lv_at hl 3 rfl) ?_
  refine x_iload_n X dL_law_841 rfl (lv_at hl 0 rfl) ?_
  refine x_iconst (v := nI 3) X dL_law_842 (by decide) ?_
  refine n_iadd X dL_law_843 ?_
  refine x_sld X hW hX hbl hbA (j := i + 3) (by omega) (by omega) dL_law_844 ?_
  refine x_pcallVl X hW (As := [.int (xs (i + 1)), .int (xs (i + 2)), .int (xs (i + 3))]) (rest := [.long (aCell (fun z => tg z 0) (mF 26) (fun z => tg z 2) (fun j y => (mE 27) (60 * j + y)) (xs (i + 1)) (xs (i + 2)) (xs (i + 3)))]) (wz := fun u => (wX cI cZ xq xa (sF xg 6 (fCell (fun z => tg z 0) (mF 26) (fun z => tg z 2) (xs (i + 1)) (xs (i + 2)) (xs (i + 3)))) xh ++ (wA cO (xa 0) ys ++ (wC cI cZ (xa 1) ca cg cF ++ (wC cI cZ (xa 2) da dg dF ++ (wR cI cZ (xa 3) ra rg rF rE ++ (wS cI cZ (xa 4) za zg zh zk zF ++ (wT cI cZ (ys 0) (ta 0) (tg 0) ++ (wB cI ((ta 0) 3) (tf 0) ++ (wT cI cZ (ys 1) (ta 1) (tg 1) ++ (wB cI ((ta 1) 3) (tf 1) ++ (wT cI cZ (ys 2) (ta 2) (tg 2) ++ (wB cI ((ta 2) 3) (tf 2) ++ (wT cI cZ (ys 3) (ta 3) (tg 3) ++ (wB cI ((ta 3) 3) (tf 3) ++ (wM cI cZ mq ma (sF mg 0 (fCell (fun z => tg z 0) ((mF 26)) (fun z => tg z 2) (xs (i + 1)) (xs (i + 2)) (xs (i + 3)))) mh mF mE)))))))))))))))) (wX cI cZ xq xa (sF xg 6 (fCell (fun z => tg z 0) (mF 26) (fun z => tg z 2) (xs (i + 1)) (xs (i + 2)) (xs (i + 3)))) xh ++ (wA cO (xa 0) ys ++ (wC cI cZ (xa 1) ca cg cF ++ (wC cI cZ (xa 2) da dg dF ++ (wR cI cZ (xa 3) ra rg rF rE ++ (wS cI cZ (xa 4) za zg zh zk zF ++ (wT cI cZ (ys 0) (ta 0) (tg 0) ++ (wB cI ((ta 0) 3) (tf 0) ++ (wT cI cZ (ys 1) (ta 1) (tg 1) ++ (wB cI ((ta 1) 3) (tf 1) ++ (wT cI cZ (ys 2) (ta 2) (tg 2) ++ (wB cI ((ta 2) 3) (tf 2) ++ (wT cI cZ (ys 3) (ta 3) (tg 3) ++ (wB cI ((ta 3) 3) (tf 3))))))))))))))) (c_X6_cell l D cI cZ cO mq ma mg mh mF mE _ (xs (i + 1)) (xs (i + 2)) (xs (i + 3)) (fun z => tg z 0) (fun z => tg z 2) (show ∀ z, z < 4 → ((fun z => tg z 0) z = 0 ∧ (mE 25) z = (-1 : Int32)) ∨ ((fun z => tg z 0) z = 1 ∧ (mE 25) z = nI ((fun z => tg z 2) z)) from hts) (show ∀ z0, (fun z => tg z 2) z0 ≤ 60 from ht2) (show ∀ z0, (mF 26) z0 ≤ 2 from (fun z => by rw [htl]; exact ht1 z))) (cwV 3 X.2.2.2.2.2.1 gL_law_X6_cell rfl rfl rfl (by decide +kernel) ⟨Nat.le_of_ble_eq_true rfl, Nat.le_of_ble_eq_true rfl⟩) 5 rfl rfl rfl (ap1 (mf (mf (mf (mf (mf (mf (mf (mf (mf (mf (mf (mf (mf mf0)))))))))))))) (fun u => (ap1 (mf (mf (mf (mf (mf (mf (mf (mf (mf (mf (mf (mf (mf mf0))))))))))))))) rfl hl.1 rfl (Nat.le_of_ble_eq_true rfl) ⟨Nat.le_of_ble_eq_true rfl, Nat.le_of_ble_eq_true rfl⟩ dL_law_845 (fun r3 u4 H locs w845 hW => ?_)
  have hW : Wd D A s.heap H locs (wX cI cZ xq xa (sF xg 6 (fCell (fun z => tg z 0) (mF 26) (fun z => tg z 2) (xs (i + 1)) (xs (i + 2)) (xs (i + 3)))) xh ++ (wA cO (xa 0) ys ++ (wC cI cZ (xa 1) ca cg cF ++ (wC cI cZ (xa 2) da dg dF ++ (wR cI cZ (xa 3) ra rg rF rE ++ (wS cI cZ (xa 4) za zg zh zk zF ++ (wT cI cZ (ys 0) (ta 0) (tg 0) ++ (wB cI ((ta 0) 3) (tf 0) ++ (wT cI cZ (ys 1) (ta 1) (tg 1) ++ (wB cI ((ta 1) 3) (tf 1) ++ (wT cI cZ (ys 2) (ta 2) (tg 2) ++ (wB cI ((ta 2) 3) (tf 2) ++ (wT cI cZ (ys 3) (ta 3) (tg 3) ++ (wB cI ((ta 3) 3) (tf 3) ++ (wM cI cZ mq ma (sF mg 0 (fCell (fun z => tg z 0) ((mF 26)) (fun z => tg z 2) (xs (i + 1)) (xs (i + 2)) (xs (i + 3)))) mh mF mE))))))))))))))) := hW
  replace w845 : r3 = aCell (fun z => tg z 0) ((mF 26)) (fun z => tg z 2) (fun j y => (mE 27) (60 * j + y)) (xs (i + 1)) (xs (i + 2)) (xs (i + 3)) := w845
  subst w845
  refine x_lcmp X dL_law_848 ?_
  refine x_if_eq X 1045 dL_law_849 (by decide) (fun c849 => ?_) (fun c849 => by exact absurd (lcmp_eq.mpr (by (try rw [e1]); (try rw [e2]); (try rw [e3]); (try rw [e4]); (try rw [e5]); (try rw [f1]); (try rw [f2]); (try rw [f3]); (try rw [f4]); (try rfl))) c849)
  exact next _ _ _ ⟨xa, (sF xg 6 (fCell (fun z => tg z 0) (mF 26) (fun z => tg z 2) (xs (i + 1)) (xs (i + 2)) (xs (i + 3)))), xh, ys, ca, cg, cF, da, dg, dF, ra, rg, rF, rE, za, zg, zh, zk, zF, ma, (sF mg 0 (fCell (fun z => tg z 0) ((mF 26)) (fun z => tg z 2) (xs (i + 1)) (xs (i + 2)) (xs (i + 3)))), mh, mF, mE, ta, tg, tf, hW, hRC, hRR, hRD, hSK, hRT, ⟨hRX.1, rfl⟩, hRM⟩ (lv_sub hl [0, 1, 2, 3] rfl)
set_option maxHeartbeats 4000000 in
set_option maxRecDepth 100000 in
theorem law_cell_3 {p : Program} {e : Env} {s : State} {m : MethodId} {below : List Frame} {meth : Method} {c : Code} {D : va_G} {cI cZ cO : ClassId} {A : Nat → Prop} {Q : State → Prop} {l : Launch} {b L xq mq i : Nat} {xs : Nat → Int32} {H : Heap} {locs : List Loc} {ls : Array Slot} (X : Fx p s m #[Value.ref b] meth c code 4 ret wsL_law RL D (ty3 cI cZ cO) A) (hX : va_X b L xs s s.heap) (hbl : b < s.heap.size) (hbA : ¬ A b) (hL : L ≤ 3072) (hi : i + 6 ≤ L) (hI : lw_I D cI cZ cO A s.heap xq mq H locs) (hl : lv_has ls 4 [(3, .int (nI i)), (2, .ref mq), (1, .ref xq), (0, .ref b)]) (hkj : ¬ inR (xs (i + 1)) 4 ∨ xs (i + 1) = nI 3) (next : ∀ (H : Heap) (locs : List Loc) (ls : Array Slot), lw_I D cI cZ cO A s.heap xq mq H locs → lv_has ls 4 [(3, .int (nI i)), (2, .ref mq), (1, .ref xq), (0, .ref b)] → W p l e room_1 s m #[Value.ref b] below meth c H locs 600000 7302250 Q (F0 m 1045 ls [])) : W p l e room_1 s m #[Value.ref b] below meth c H locs 600000 7302250 Q (F0 m 810 ls []) := by
  obtain ⟨xa, xg, xh, ys, ca, cg, cF, da, dg, dF, ra, rg, rF, rE, za, zg, zh, zk, zF, ma, mg, mh, mF, mE, ta, tg, tf, hW, hRC, hRR, hRD, hSK, hRT, hRX, hRM⟩ := hI
  have hW : Wd D A s.heap H locs (wX cI cZ xq xa xg xh ++ (wA cO (xa 0) ys ++ (wC cI cZ (xa 1) ca cg cF ++ (wC cI cZ (xa 2) da dg dF ++ (wR cI cZ (xa 3) ra rg rF rE ++ (wS cI cZ (xa 4) za zg zh zk zF ++ (wT cI cZ (ys 0) (ta 0) (tg 0) ++ (wB cI ((ta 0) 3) (tf 0) ++ (wT cI cZ (ys 1) (ta 1) (tg 1) ++ (wB cI ((ta 1) 3) (tf 1) ++ (wT cI cZ (ys 2) (ta 2) (tg 2) ++ (wB cI ((ta 2) 3) (tf 2) ++ (wT cI cZ (ys 3) (ta 3) (tg 3) ++ (wB cI ((ta 3) 3) (tf 3) ++ (wM cI cZ mq ma mg mh mF mE))))))))))))))) := hW
  obtain ⟨h02, hn, hrn, hk, hlv, hm, e2, e1, e3, e4, e5⟩ := id hRC
  obtain ⟨hrc, hro, hra, hrd, f1, f2, f3, f4⟩ := id hRR
  obtain ⟨hdn, hdr, hdk, hdl, hdm⟩ := id hRD
  obtain ⟨ht0, ht1, ht2, htl, hts, htc⟩ := id hRT
  refine x_aload_n X dL_law_810 rfl (lv_at hl 2 rfl) ?_
  refine x_aload_n X dL_law_811 rfl (lv_at hl 3 rfl) ?_
  refine x_iload_n X dL_law_812 rfl (lv_at hl 0 rfl) ?_
  refine x_iconst (v := nI 1) X dL_law_813 (by decide) ?_
  refine n_iadd X dL_law_814 ?_
  refine x_sld X hW hX hbl hbA (j := i + 1) (by omega) (by omega) dL_law_815 ?_
  refine x_aload_n X dL_law_816 rfl (lv_at hl 3 rfl) ?_
  refine x_iload_n X dL_law_817 rfl (lv_at hl 0 rfl) ?_
  refine x_iconst (v := nI 2) X dL_law_818 (by decide) ?_
  refine n_iadd X dL_law_819 ?_
  refine x_sld X hW hX hbl hbA (j := i + 2) (by omega) (by omega) dL_law_820 ?_
  refine x_aload_n X dL_law_821 rfl (lv_at hl 3 rfl) ?_
  refine x_iload_n X dL_law_822 rfl (lv_at hl 0 rfl) ?_
  refine x_iconst (v := nI 3) X dL_law_823 (by decide) ?_
  refine n_iadd X dL_law_824 ?_
  refine x_sld X hW hX hbl hbA (j := i + 3) (by omega) (by omega) dL_law_825 ?_
  refine x_pcallVl X hW (As := [.int (xs (i + 1)), .int (xs (i + 2)), .int (xs (i + 3))]) (rest := []) (wz := fun u => (wX cI cZ xq xa (sF xg 6 (fCell (fun z => tg z 0) (mF 26) (fun z => tg z 2) (xs (i + 1)) (xs (i + 2)) (xs (i + 3)))) xh ++ (wA cO (xa 0) ys ++ (wC cI cZ (xa 1) ca cg cF ++ (wC cI cZ (xa 2) da dg dF ++ (wR cI cZ (xa 3) ra rg rF rE ++ (wS cI cZ (xa 4) za zg zh zk zF ++ (wT cI cZ (ys 0) (ta 0) (tg 0) ++ (wB cI ((ta 0) 3) (tf 0) ++ (wT cI cZ (ys 1) (ta 1) (tg 1) ++ (wB cI ((ta 1) 3) (tf 1) ++ (wT cI cZ (ys 2) (ta 2) (tg 2) ++ (wB cI ((ta 2) 3) (tf 2) ++ (wT cI cZ (ys 3) (ta 3) (tg 3) ++ (wB cI ((ta 3) 3) (tf 3) ++ (wM cI cZ mq ma mg mh mF mE)))))))))))))))) (wC cI cZ (xa 1) ca cg cF ++ (wC cI cZ (xa 2) da dg dF ++ (wR cI cZ (xa 3) ra rg rF rE ++ (wS cI cZ (xa 4) za zg zh zk zF ++ (wT cI cZ (ys 0) (ta 0) (tg 0) ++ (wB cI ((ta 0) 3) (tf 0) ++ (wT cI cZ (ys 1) (ta 1) (tg 1) ++ (wB cI ((ta 1) 3) (tf 1) ++ (wT cI cZ (ys 2) (ta 2) (tg 2) ++ (wB cI ((ta 2) 3) (tf 2) ++ (wM cI cZ mq ma mg mh mF mE))))))))))) (c_X5_cell l D cI cZ cO xq xa xg xh ys (ta 3) (tg 3) (tf 3) _ (xs (i + 1)) (xs (i + 2)) (xs (i + 3)) 3 (fun z => tg z 0) (mF 26) (fun z => tg z 2) (fun j y => (mE 27) (60 * j + y)) (show 3 < 4 from (by decide)) (show ¬ inR (xs (i + 1)) 4 ∨ (xs (i + 1)) = nI 3 from hkj) (show ((tg 3) 2) ≤ 60 from ht2 3) (show ((tg 3) 0) ≤ 1 from ht0 3) (show ((tg 3) 1) ≤ 2 from ht1 3) (show (fun z => tg z 0) 3 = ((tg 3) 0) from rfl) (show (fun z => tg z 2) 3 = ((tg 3) 2) from rfl) (show (mF 26) 3 = ((tg 3) 1) from htl 3) (show ((tg 3) 0) = 1 → ∀ z0, z0 < ((tg 3) 2) → (tf 3) z0 = (fun j y => (mE 27) (60 * j + y)) 3 z0 from (fun q => htc 3 (by decide) q))) (cwV 3 X.2.2.2.2.2.1 gL_law_X5_cell rfl rfl rfl (by decide +kernel) ⟨Nat.le_of_ble_eq_true rfl, Nat.le_of_ble_eq_true rfl⟩) 4 rfl rfl rfl (apn (mfr _ _) (apn (mfr _ _) (apn (mf (mf (mf (mf (mf (mf (mf (mf (mf (mf (mfr _ _))))))))))) (mf (mf (mf (mf (mf (mf (mf (mf (mf (mf (mfr _ _)))))))))))))) (fun u => (apn (mfr _ _) (apn (mfr _ _) (apn (mf (mf (mf (mf (mf (mf (mf (mf (mf (mf (mfr _ _))))))))))) (mf (mf (mf (mf (mf (mf (mf (mf (mf (mf (mfr _ _))))))))))))))) rfl hl.1 rfl (Nat.le_of_ble_eq_true rfl) ⟨Nat.le_of_ble_eq_true rfl, Nat.le_of_ble_eq_true rfl⟩ dL_law_826 (fun r1 u2 H locs w826 hW => ?_)
  have hW : Wd D A s.heap H locs (wX cI cZ xq xa (sF xg 6 (fCell (fun z => tg z 0) (mF 26) (fun z => tg z 2) (xs (i + 1)) (xs (i + 2)) (xs (i + 3)))) xh ++ (wA cO (xa 0) ys ++ (wC cI cZ (xa 1) ca cg cF ++ (wC cI cZ (xa 2) da dg dF ++ (wR cI cZ (xa 3) ra rg rF rE ++ (wS cI cZ (xa 4) za zg zh zk zF ++ (wT cI cZ (ys 0) (ta 0) (tg 0) ++ (wB cI ((ta 0) 3) (tf 0) ++ (wT cI cZ (ys 1) (ta 1) (tg 1) ++ (wB cI ((ta 1) 3) (tf 1) ++ (wT cI cZ (ys 2) (ta 2) (tg 2) ++ (wB cI ((ta 2) 3) (tf 2) ++ (wT cI cZ (ys 3) (ta 3) (tg 3) ++ (wB cI ((ta 3) 3) (tf 3) ++ (wM cI cZ mq ma mg mh mF mE))))))))))))))) := hW
  replace w826 : r1 = aCell (fun z => tg z 0) (mF 26) (fun z => tg z 2) (fun j y => (mE 27) (60 * j + y)) (xs (i + 1)) (xs (i + 2)) (xs (i + 3)) := w826
  subst w826
  refine x_aload_n X dL_law_829 rfl (lv_at hl 1 rfl) ?_
  refine x_aload_n X dL_law_830 rfl (lv_at hl 3 rfl) ?_
  refine x_iload_n X dL_law_831 rfl (lv_at hl 0 rfl) ?_
  refine x_iconst (v := nI 1) X dL_law_832 (by decide) ?_
  refine n_iadd X dL_law_833 ?_
  refine x_sld X hW hX hbl hbA (j := i + 1) (by omega) (by omega) dL_law_834 ?_
  refine x_aload_n X dL_law_835 rfl (lv_at hl 3 rfl) ?_
  refine x_iload_n X dL_law_836 rfl (lv_at hl 0 rfl) ?_
  refine x_iconst (v := nI 2) X dL_law_837 (by decide) ?_
  refine n_iadd X dL_law_838 ?_
  refine x_sld X hW hX hbl hbA (j := i + 2) (by omega) (by omega) dL_law_839 ?_
  refine x_aload_n X dL_law_840 rfl (lv_at hl 3 rfl) ?_
  refine x_iload_n X dL_law_841 rfl (lv_at hl 0 rfl) ?_
  refine x_iconst (v := nI 3) X dL_law_842 (by decide) ?_
  refine n_iadd X dL_law_843 ?_
  refine x_sld X hW hX hbl hbA (j := i + 3) (by omega) (by omega) dL_law_844 ?_
  refine x_pcallVl X hW (As := [.int (xs (i + 1)), .int (xs (i + 2)), .int (xs (i + 3))]) (rest := [.long (aCell (fun z => tg z 0) (mF 26) (fun z => tg z 2) (fun j y => (mE 27) (60 * j + y)) (xs (i + 1)) (xs (i + 2)) (xs (i + 3)))]) (wz := fun u => (wX cI cZ xq xa (sF xg 6 (fCell (fun z => tg z 0) (mF 26) (fun z => tg z 2) (xs (i + 1)) (xs (i + 2)) (xs (i + 3)))) xh ++ (wA cO (xa 0) ys ++ (wC cI cZ (xa 1) ca cg cF ++ (wC cI cZ (xa 2) da dg dF ++ (wR cI cZ (xa 3) ra rg rF rE ++ (wS cI cZ (xa 4) za zg zh zk zF ++ (wT cI cZ (ys 0) (ta 0) (tg 0) ++ (wB cI ((ta 0) 3) (tf 0) ++ (wT cI cZ (ys 1) (ta 1) (tg 1) ++ (wB cI ((ta 1) 3) (tf 1) ++ (wT cI cZ (ys 2) (ta 2) (tg 2) ++ (wB cI ((ta 2) 3) (tf 2) ++ (wT cI cZ (ys 3) (ta 3) (tg 3) ++ (wB cI ((ta 3) 3) (tf 3) ++ (wM cI cZ mq ma (sF mg 0 (fCell (fun z => tg z 0) ((mF 26)) (fun z => tg z 2) (xs (i + 1)) (xs (i + 2)) (xs (i + 3)))) mh mF mE)))))))))))))))) (wX cI cZ xq xa (sF xg 6 (fCell (fun z => tg z 0) (mF 26) (fun z => tg z 2) (xs (i + 1)) (xs (i + 2)) (xs (i + 3)))) xh ++ (wA cO (xa 0) ys ++ (wC cI cZ (xa 1) ca cg cF ++ (wC cI cZ (xa 2) da dg dF ++ (wR cI cZ (xa 3) ra rg rF rE ++ (wS cI cZ (xa 4) za zg zh zk zF ++ (wT cI cZ (ys 0) (ta 0) (tg 0) ++ (wB cI ((ta 0) 3) (tf 0) ++ (wT cI cZ (ys 1) (ta 1) (tg 1) ++ (wB cI ((ta 1) 3) (tf 1) ++ (wT cI cZ (ys 2) (ta 2) (tg 2) ++ (wB cI ((ta 2) 3) (tf 2) ++ (wT cI cZ (ys 3) (ta 3) (tg 3) ++ (wB cI ((ta 3) 3) (tf 3))))))))))))))) (c_X6_cell l D cI cZ cO mq ma mg mh mF mE _ (xs (i + 1)) (xs (i + 2)) (xs (i + 3)) (fun z => tg z 0) (fun z => tg z 2) (show ∀ z, z < 4 → ((fun z => tg z 0) z = 0 ∧ (mE 25) z = (-1 : Int32)) ∨ ((fun z => tg z 0) z = 1 ∧ (mE 25) z = nI ((fun z => tg z 2) z)) from hts) (show ∀ z0, (fun z => tg z 2) z0 ≤ 60 from ht2) (show ∀ z0, (mF 26) z0 ≤ 2 from (fun z => by rw [htl]; exact ht1 z))) (cwV 3 X.2.2.2.2.2.1 gL_law_X6_cell rfl rfl rfl (by decide +kernel) ⟨Nat.le_of_ble_eq_true rfl, Nat.le_of_ble_eq_true rfl⟩) 5 rfl rfl rfl (ap1 (mf (mf (mf (mf (mf (mf (mf (mf (mf (mf (mf (mf (mf mf0)))))))))))))) (fun u => (ap1 (mf (mf (mf (mf (mf (mf (mf (mf (mf (mf (mf (mf (mf mf0))))))))))))))) rfl hl.1 rfl (Nat.le_of_ble_eq_true rfl) ⟨Nat.le_of_ble_eq_true rfl, Nat.le_of_ble_eq_true rfl⟩ dL_law_845 (fun r3 u4 H locs w845 hW => ?_)
  have hW : Wd D A s.heap H locs (wX cI cZ xq xa (sF xg 6 (fCell (fun z => tg z 0) (mF 26) (fun z => tg z 2) (xs (i + 1)) (xs (i + 2)) (xs (i + 3)))) xh ++ (wA cO (xa 0) ys ++ (wC cI cZ (xa 1) ca cg cF ++ (wC cI cZ (xa 2) da dg dF ++ (wR cI cZ (xa 3) ra rg rF rE ++ (wS cI cZ (xa 4) za zg zh zk zF ++ (wT cI cZ (ys 0) (ta 0) (tg 0) ++ (wB cI ((ta 0) 3) (tf 0) ++ (wT cI cZ (ys 1) (ta 1) (tg 1) ++ (wB cI ((ta 1) 3) (tf 1) ++ (wT cI cZ (ys 2) (ta 2) (tg 2) ++ (wB cI ((ta 2) 3) (tf 2) ++ (wT cI cZ (ys 3) (ta 3) (tg 3) ++ (wB cI ((ta 3) 3) (tf 3) ++ (wM cI cZ mq ma (sF mg 0 (fCell (fun z => tg z 0) ((mF 26)) (fun z => tg z 2) (xs (i + 1)) (xs (i + 2)) (xs (i + 3)))) mh mF mE))))))))))))))) := hW
  replace w845 : r3 = aCell (fun z => tg z 0) ((mF 26)) (fun z => tg z 2) (fun j y => (mE 27) (60 * j + y)) (xs (i + 1)) (xs (i + 2)) (xs (i + 3)) := w845
  subst w845
  refine x_lcmp X dL_law_848 ?_
  refine x_if_eq X 1045 dL_law_849 (by decide) (fun c849 => ?_) (fun c849 => by exact absurd (lcmp_eq.mpr (by (try rw [e1]); (try rw [e2]); (try rw [e3]); (try rw [e4]); (try rw [e5]); (try rw [f1]); (try rw [f2]); (try rw [f3]); (try rw [f4]); (try rfl))) c849)
  exact next _ _ _ ⟨xa, (sF xg 6 (fCell (fun z => tg z 0) (mF 26) (fun z => tg z 2) (xs (i + 1)) (xs (i + 2)) (xs (i + 3)))), xh, ys, ca, cg, cF, da, dg, dF, ra, rg, rF, rE, za, zg, zh, zk, zF, ma, (sF mg 0 (fCell (fun z => tg z 0) ((mF 26)) (fun z => tg z 2) (xs (i + 1)) (xs (i + 2)) (xs (i + 3)))), mh, mF, mE, ta, tg, tf, hW, hRC, hRR, hRD, hSK, hRT, ⟨hRX.1, rfl⟩, hRM⟩ (lv_sub hl [0, 1, 2, 3] rfl)
theorem law_cell {p : Program} {e : Env} {s : State} {m : MethodId} {below : List Frame} {meth : Method} {c : Code} {D : va_G} {cI cZ cO : ClassId} {A : Nat → Prop} {Q : State → Prop} {l : Launch} {b L xq mq i : Nat} {xs : Nat → Int32} {H : Heap} {locs : List Loc} {ls : Array Slot} (X : Fx p s m #[Value.ref b] meth c code 4 ret wsL_law RL D (ty3 cI cZ cO) A) (hX : va_X b L xs s s.heap) (hbl : b < s.heap.size) (hbA : ¬ A b) (hL : L ≤ 3072) (hi : i + 6 ≤ L) (hI : lw_I D cI cZ cO A s.heap xq mq H locs) (hl : lv_has ls 4 [(3, .int (nI i)), (2, .ref mq), (1, .ref xq), (0, .ref b)]) (next : ∀ (H : Heap) (locs : List Loc) (ls : Array Slot), lw_I D cI cZ cO A s.heap xq mq H locs → lv_has ls 4 [(3, .int (nI i)), (2, .ref mq), (1, .ref xq), (0, .ref b)] → W p l e room_1 s m #[Value.ref b] below meth c H locs 600000 7302250 Q (F0 m 1045 ls [])) : W p l e room_1 s m #[Value.ref b] below meth c H locs 600000 7302250 Q (F0 m 810 ls []) := by
  rcases k5 (xs (i + 1)) with h | h | h | h | h
  · exact law_cell_0 X hX hbl hbA hL hi hI hl (Or.inl h) next
  · exact law_cell_0 X hX hbl hbA hL hi hI hl (Or.inr h) next
  · exact law_cell_1 X hX hbl hbA hL hi hI hl (Or.inr h) next
  · exact law_cell_2 X hX hbl hbA hL hi hI hl (Or.inr h) next
  · exact law_cell_3 X hX hbl hbA hL hi hI hl (Or.inr h) next

