
theorem isD_in {c : Int32} {k : Nat} (hk : k ≤ 9) (h1 : ¬ c < nI 48) (h2 : ¬ nI (48 + k) < c) : isD c k := by
  rw [i_lt, nI_toInt (by omega)] at h1 h2
  have r := rngI c
  refine ⟨c.toInt.toNat - 48, by omega, ?_⟩
  apply Int32.toInt_inj.mp
  rw [nI_toInt (by omega)]; omega
theorem isD_lo {c : Int32} {k : Nat} (hk : k ≤ 9) (h : c < nI 48) : ¬ isD c k := by
  intro ⟨v, hv, e⟩
  rw [e, i_lt, nI_toInt (by omega), nI_toInt (by omega)] at h; omega
theorem isD_hi {c : Int32} {k : Nat} (hk : k ≤ 9) (h : nI (48 + k) < c) : ¬ isD c k := by
  intro ⟨v, hv, e⟩
  rw [e, i_lt, nI_toInt (by omega), nI_toInt (by omega)] at h; omega
theorem dgt_sub {c : Int32} {k : Nat} (h : isD c k) (hk : k ≤ 9) : c - nI 48 = nI (dgt c) := by
  obtain ⟨v, hv, e⟩ := h
  rw [dgt_of e (by omega), e, sub48']
theorem dgt_k {c : Int32} {k : Nat} (h : isD c k) (hk : k ≤ 9) : dgt c ≤ k := by
  obtain ⟨v, hv, e⟩ := h
  rw [dgt_of e (by omega)]; exact hv
theorem kl_s {c : Int32} (h : c = nI 115) : kl c = 2 := by rw [h]; decide
theorem kl_p {c : Int32} (h : c = nI 112) : kl c = 1 := by rw [h]; decide
theorem kl_m {c : Int32} (h : isL c) (h1 : ¬ c = nI 115) (h2 : ¬ c = nI 112) : kl c = 0 := by
  rcases h with q | q | q
  · rw [q]; decide
  · exact absurd q h2
  · exact absurd q h1
def bcA (x : Int32) : Int32 := x - (((x.toUInt32 >>> ((nI 1).toUInt32 &&& Int32.toUInt32 31)).toInt32) &&& (nI 1431655765))
def bcB (x : Int32) : Int32 := (x &&& (nI 858993459)) + (((x.toUInt32 >>> ((nI 2).toUInt32 &&& Int32.toUInt32 31)).toInt32) &&& (nI 858993459))
def bcC (x : Int32) : Int32 := (x + ((x.toUInt32 >>> ((nI 4).toUInt32 &&& Int32.toUInt32 31)).toInt32)) &&& (nI 252645135)
def bcD (x : Int32) : Int32 := x + ((x.toUInt32 >>> ((nI 8).toUInt32 &&& Int32.toUInt32 31)).toInt32)
def bcE (x : Int32) : Int32 := x + ((x.toUInt32 >>> ((nI 16).toUInt32 &&& Int32.toUInt32 31)).toInt32)
theorem bc_all : ∀ kq, kq < 256 → (bcE (bcD (bcC (bcB (bcA (nI kq)))))) &&& (nI 63) = nI (bcnt kq 8) := by decide +kernel

set_option maxHeartbeats 4000000 in
set_option maxRecDepth 100000 in
theorem c_X4_goesOn (l : Launch) (D : va_G) (cI cZ cO : ClassId)  (sz : Nat) (pp : Nat) (cc0 : Int32)  (hp : pp < 18) : Met l yX4_goesOn wsX4_goesOn ({ frames := 0, cells := 0, slots := 0, locals := 0 }) (va_Pc [.int (nI pp), .int cc0] (st_W D (ty3 cI cZ cO) ([] : va_W) sz)) (va_Qi (fun (rr : Int32) (u : Unit) => (rr = nI 1 ∧ (goN pp cc0) ∨ rr = nI 0 ∧ ¬ (goN pp cc0))) (fun u t => at_W D (ty3 cI cZ cO) (va_A ([] : va_W) sz) ([] : va_W) t) (va_A ([] : va_W) sz)) 0 0 (va_A ([] : va_W) sz) := by
  refine Met.goi (cc := cX4_goesOn) (maxL := 2) (ret := (some .boolean)) (by decide) rfl (Nat.le_of_ble_eq_true rfl) (fun p e s m below meth c A ls X hW hl => ?_)
  have hl : lv_has ls 2 [(0, .int (nI pp)), (1, .int cc0)] := hl
  refine x_iload_n X dX4_goesOn_0 rfl (lv_at hl 0 rfl) ?_
  refine n_if_ne X 16 dX4_goesOn_1 (by decide) (by omega) (fun c1 => ?_) (fun c1 => ?_)
  · refine x_iload_n X dX4_goesOn_16 rfl (lv_at hl 0 rfl) ?_
    refine x_iconst (v := nI 1) X dX4_goesOn_17 (by decide) ?_
    refine n_icmp_ne X 39 dX4_goesOn_18 (by decide) (by omega) (by decide) (fun c18 => ?_) (fun c18 => ?_)
    · refine x_iload_n X dX4_goesOn_39 rfl (lv_at hl 0 rfl) ?_
      refine x_iconst (v := nI 2) X dX4_goesOn_40 (by decide) ?_
      refine n_isub X dX4_goesOn_41 (by omega) ?_
      refine x_iconst (v := nI 4) X dX4_goesOn_42 (by decide) ?_
      refine n_irem X dX4_goesOn_43 (by omega) (by omega) (by decide) ?_
      rcases (show (pp - 2) % 4 = 0 ∨ (pp - 2) % 4 = 1 ∨ (pp - 2) % 4 = 2 ∨ (pp - 2) % 4 = 3 by omega) with em | em | em | em
      · refine n_as0 (b := 0) em ?_
        refine lv_lookup (off := 28) (tgt := 72) X.1 X.2.1 dX4_goesOn_44 (by decide) (by decide) (by decide) ?_
        have eg : goN pp cc0 ↔ cc0 = nI 59 := by unfold goN; (repeat' (first | rw [if_pos (by omega)] | rw [if_neg (by omega)]))
        refine x_iload_n X dX4_goesOn_72 rfl (lv_at hl 1 rfl) ?_
        refine x_bipush (v := nI 59) X dX4_goesOn_73 (by decide) ?_
        refine x_icmp_ne X 82 dX4_goesOn_75 (by decide) (fun c75 => ?_) (fun c75 => ?_)
        · refine x_iconst (v := nI 0) X dX4_goesOn_82 (by decide) ?_
          exact x_zret X hW rfl (Or.inl (by decide)) () (Or.inr ⟨rfl, by rw [eg]; first | exact c7 | exact c75 | exact isD_in (by decide) c24 c30 | exact isD_lo (by decide) c24 | exact isD_hi (by decide) c30 | exact isD_in (by decide) c111 c117 | exact isD_lo (by decide) c111 | exact isD_hi (by decide) c117 | exact Or.inl c87 | exact Or.inr (Or.inl c93) | exact Or.inr (Or.inr c99) | exact fun q => q.elim c87 (fun q => q.elim c93 c99)⟩) rfl dX4_goesOn_83
        · refine x_iconst (v := nI 1) X dX4_goesOn_78 (by decide) ?_
          refine x_goto X 83 dX4_goesOn_79 (by decide) ?_
          exact x_zret X hW rfl (Or.inr (by decide)) () (Or.inl ⟨rfl, by rw [eg]; first | exact c7 | exact c75 | exact isD_in (by decide) c24 c30 | exact isD_lo (by decide) c24 | exact isD_hi (by decide) c30 | exact isD_in (by decide) c111 c117 | exact isD_lo (by decide) c111 | exact isD_hi (by decide) c117 | exact Or.inl c87 | exact Or.inr (Or.inl c93) | exact Or.inr (Or.inr c99) | exact fun q => q.elim c87 (fun q => q.elim c93 c99)⟩) rfl dX4_goesOn_83
      · refine n_as0 (b := 1) em ?_
        refine lv_lookup (off := 40) (tgt := 84) X.1 X.2.1 dX4_goesOn_44 (by decide) (by decide) (by decide) ?_
        have eg : goN pp cc0 ↔ isL cc0 := by unfold goN; (repeat' (first | rw [if_pos (by omega)] | rw [if_neg (by omega)]))
        refine x_iload_n X dX4_goesOn_84 rfl (lv_at hl 1 rfl) ?_
        refine x_bipush (v := nI 109) X dX4_goesOn_85 (by decide) ?_
        refine x_icmp_eq X 102 dX4_goesOn_87 (by decide) (fun c87 => ?_) (fun c87 => ?_)
        · refine x_iconst (v := nI 1) X dX4_goesOn_102 (by decide) ?_
          refine x_goto X 107 dX4_goesOn_103 (by decide) ?_
          exact x_zret X hW rfl (Or.inr (by decide)) () (Or.inl ⟨rfl, by rw [eg]; first | exact c7 | exact c75 | exact isD_in (by decide) c24 c30 | exact isD_lo (by decide) c24 | exact isD_hi (by decide) c30 | exact isD_in (by decide) c111 c117 | exact isD_lo (by decide) c111 | exact isD_hi (by decide) c117 | exact Or.inl c87 | exact Or.inr (Or.inl c93) | exact Or.inr (Or.inr c99) | exact fun q => q.elim c87 (fun q => q.elim c93 c99)⟩) rfl dX4_goesOn_107
        · refine x_iload_n X dX4_goesOn_90 rfl (lv_at hl 1 rfl) ?_
          refine x_bipush (v := nI 112) X dX4_goesOn_91 (by decide) ?_
          refine x_icmp_eq X 102 dX4_goesOn_93 (by decide) (fun c93 => ?_) (fun c93 => ?_)
          · refine x_iconst (v := nI 1) X dX4_goesOn_102 (by decide) ?_
            refine x_goto X 107 dX4_goesOn_103 (by decide) ?_
            exact x_zret X hW rfl (Or.inr (by decide)) () (Or.inl ⟨rfl, by rw [eg]; first | exact c7 | exact c75 | exact isD_in (by decide) c24 c30 | exact isD_lo (by decide) c24 | exact isD_hi (by decide) c30 | exact isD_in (by decide) c111 c117 | exact isD_lo (by decide) c111 | exact isD_hi (by decide) c117 | exact Or.inl c87 | exact Or.inr (Or.inl c93) | exact Or.inr (Or.inr c99) | exact fun q => q.elim c87 (fun q => q.elim c93 c99)⟩) rfl dX4_goesOn_107
          · refine x_iload_n X dX4_goesOn_96 rfl (lv_at hl 1 rfl) ?_
            refine x_bipush (v := nI 115) X dX4_goesOn_97 (by decide) ?_
            refine x_icmp_ne X 106 dX4_goesOn_99 (by decide) (fun c99 => ?_) (fun c99 => ?_)
            · refine x_iconst (v := nI 0) X dX4_goesOn_106 (by decide) ?_
              exact x_zret X hW rfl (Or.inl (by decide)) () (Or.inr ⟨rfl, by rw [eg]; first | exact c7 | exact c75 | exact isD_in (by decide) c24 c30 | exact isD_lo (by decide) c24 | exact isD_hi (by decide) c30 | exact isD_in (by decide) c111 c117 | exact isD_lo (by decide) c111 | exact isD_hi (by decide) c117 | exact Or.inl c87 | exact Or.inr (Or.inl c93) | exact Or.inr (Or.inr c99) | exact fun q => q.elim c87 (fun q => q.elim c93 c99)⟩) rfl dX4_goesOn_107
            · refine x_iconst (v := nI 1) X dX4_goesOn_102 (by decide) ?_
              refine x_goto X 107 dX4_goesOn_103 (by decide) ?_
              exact x_zret X hW rfl (Or.inr (by decide)) () (Or.inl ⟨rfl, by rw [eg]; first | exact c7 | exact c75 | exact isD_in (by decide) c24 c30 | exact isD_lo (by decide) c24 | exact isD_hi (by decide) c30 | exact isD_in (by decide) c111 c117 | exact isD_lo (by decide) c111 | exact isD_hi (by decide) c117 | exact Or.inl c87 | exact Or.inr (Or.inl c93) | exact Or.inr (Or.inr c99) | exact fun q => q.elim c87 (fun q => q.elim c93 c99)⟩) rfl dX4_goesOn_107
      · refine n_as0 (b := 2) em ?_
        refine lv_lookup (off := 64) (tgt := 108) X.1 X.2.1 dX4_goesOn_44 (by decide) (by decide) (by decide) ?_
        have eg : goN pp cc0 ↔ isD cc0 9 := by unfold goN; (repeat' (first | rw [if_pos (by omega)] | rw [if_neg (by omega)]))
        refine x_iload_n X dX4_goesOn_108 rfl (lv_at hl 1 rfl) ?_
        refine x_bipush (v := nI 48) X dX4_goesOn_109 (by decide) ?_
        refine x_icmp_lt X 124 dX4_goesOn_111 (by decide) (fun c111 => ?_) (fun c111 => ?_)
        · refine x_iconst (v := nI 0) X dX4_goesOn_124 (by decide) ?_
          exact x_zret X hW rfl (Or.inl (by decide)) () (Or.inr ⟨rfl, by rw [eg]; first | exact c7 | exact c75 | exact isD_in (by decide) c24 c30 | exact isD_lo (by decide) c24 | exact isD_hi (by decide) c30 | exact isD_in (by decide) c111 c117 | exact isD_lo (by decide) c111 | exact isD_hi (by decide) c117 | exact Or.inl c87 | exact Or.inr (Or.inl c93) | exact Or.inr (Or.inr c99) | exact fun q => q.elim c87 (fun q => q.elim c93 c99)⟩) rfl dX4_goesOn_125
        · refine x_iload_n X dX4_goesOn_114 rfl (lv_at hl 1 rfl) ?_
          refine x_bipush (v := nI 57) X dX4_goesOn_115 (by decide) ?_
          refine x_icmp_gt X 124 dX4_goesOn_117 (by decide) (fun c117 => ?_) (fun c117 => ?_)
          · refine x_iconst (v := nI 0) X dX4_goesOn_124 (by decide) ?_
            exact x_zret X hW rfl (Or.inl (by decide)) () (Or.inr ⟨rfl, by rw [eg]; first | exact c7 | exact c75 | exact isD_in (by decide) c24 c30 | exact isD_lo (by decide) c24 | exact isD_hi (by decide) c30 | exact isD_in (by decide) c111 c117 | exact isD_lo (by decide) c111 | exact isD_hi (by decide) c117 | exact Or.inl c87 | exact Or.inr (Or.inl c93) | exact Or.inr (Or.inr c99) | exact fun q => q.elim c87 (fun q => q.elim c93 c99)⟩) rfl dX4_goesOn_125
          · refine x_iconst (v := nI 1) X dX4_goesOn_120 (by decide) ?_
            refine x_goto X 125 dX4_goesOn_121 (by decide) ?_
            exact x_zret X hW rfl (Or.inr (by decide)) () (Or.inl ⟨rfl, by rw [eg]; first | exact c7 | exact c75 | exact isD_in (by decide) c24 c30 | exact isD_lo (by decide) c24 | exact isD_hi (by decide) c30 | exact isD_in (by decide) c111 c117 | exact isD_lo (by decide) c111 | exact isD_hi (by decide) c117 | exact Or.inl c87 | exact Or.inr (Or.inl c93) | exact Or.inr (Or.inr c99) | exact fun q => q.elim c87 (fun q => q.elim c93 c99)⟩) rfl dX4_goesOn_125
      · refine n_as0 (b := 3) em ?_
        refine lv_lookup (off := 64) (tgt := 108) X.1 X.2.1 dX4_goesOn_44 (by decide) (by decide) (by decide) ?_
        have eg : goN pp cc0 ↔ isD cc0 9 := by unfold goN; (repeat' (first | rw [if_pos (by omega)] | rw [if_neg (by omega)]))
        refine x_iload_n X dX4_goesOn_108 rfl (lv_at hl 1 rfl) ?_
        refine x_bipush (v := nI 48) X dX4_goesOn_109 (by decide) ?_
        refine x_icmp_lt X 124 dX4_goesOn_111 (by decide) (fun c111 => ?_) (fun c111 => ?_)
        · refine x_iconst (v := nI 0) X dX4_goesOn_124 (by decide) ?_
          exact x_zret X hW rfl (Or.inl (by decide)) () (Or.inr ⟨rfl, by rw [eg]; first | exact c7 | exact c75 | exact isD_in (by decide) c24 c30 | exact isD_lo (by decide) c24 | exact isD_hi (by decide) c30 | exact isD_in (by decide) c111 c117 | exact isD_lo (by decide) c111 | exact isD_hi (by decide) c117 | exact Or.inl c87 | exact Or.inr (Or.inl c93) | exact Or.inr (Or.inr c99) | exact fun q => q.elim c87 (fun q => q.elim c93 c99)⟩) rfl dX4_goesOn_125
        · refine x_iload_n X dX4_goesOn_114 rfl (lv_at hl 1 rfl) ?_
          refine x_bipush (v := nI 57) X dX4_goesOn_115 (by decide) ?_
          refine x_icmp_gt X 124 dX4_goesOn_117 (by decide) (fun c117 => ?_) (fun c117 => ?_)
          · refine x_iconst (v := nI 0) X dX4_goesOn_124 (by decide) ?_
            exact x_zret X hW rfl (Or.inl (by decide)) () (Or.inr ⟨rfl, by rw [eg]; first | exact c7 | exact c75 | exact isD_in (by decide) c24 c30 | exact isD_lo (by decide) c24 | exact isD_hi (by decide) c30 | exact isD_in (by decide) c111 c117 | exact isD_lo (by decide) c111 | exact isD_hi (by decide) c117 | exact Or.inl c87 | exact Or.inr (Or.inl c93) | exact Or.inr (Or.inr c99) | exact fun q => q.elim c87 (fun q => q.elim c93 c99)⟩) rfl dX4_goesOn_125
          · refine x_iconst (v := nI 1) X dX4_goesOn_120 (by decide) ?_
            refine x_goto X 125 dX4_goesOn_121 (by decide) ?_
            exact x_zret X hW rfl (Or.inr (by decide)) () (Or.inl ⟨rfl, by rw [eg]; first | exact c7 | exact c75 | exact isD_in (by decide) c24 c30 | exact isD_lo (by decide) c24 | exact isD_hi (by decide) c30 | exact isD_in (by decide) c111 c117 | exact isD_lo (by decide) c111 | exact isD_hi (by decide) c117 | exact Or.inl c87 | exact Or.inr (Or.inl c93) | exact Or.inr (Or.inr c99) | exact fun q => q.elim c87 (fun q => q.elim c93 c99)⟩) rfl dX4_goesOn_125
    · have eg : goN pp cc0 ↔ isD cc0 3 := by unfold goN; (repeat' (first | rw [if_pos (by omega)] | rw [if_neg (by omega)]))
      refine x_iload_n X dX4_goesOn_21 rfl (lv_at hl 1 rfl) ?_
      refine x_bipush (v := nI 48) X dX4_goesOn_22 (by decide) ?_
      refine x_icmp_lt X 37 dX4_goesOn_24 (by decide) (fun c24 => ?_) (fun c24 => ?_)
      · refine x_iconst (v := nI 0) X dX4_goesOn_37 (by decide) ?_
        exact x_zret X hW rfl (Or.inl (by decide)) () (Or.inr ⟨rfl, by rw [eg]; first | exact c7 | exact c75 | exact isD_in (by decide) c24 c30 | exact isD_lo (by decide) c24 | exact isD_hi (by decide) c30 | exact isD_in (by decide) c111 c117 | exact isD_lo (by decide) c111 | exact isD_hi (by decide) c117 | exact Or.inl c87 | exact Or.inr (Or.inl c93) | exact Or.inr (Or.inr c99) | exact fun q => q.elim c87 (fun q => q.elim c93 c99)⟩) rfl dX4_goesOn_38
      · refine x_iload_n X dX4_goesOn_27 rfl (lv_at hl 1 rfl) ?_
        refine x_bipush (v := nI 51) X dX4_goesOn_28 (by decide) ?_
        refine x_icmp_gt X 37 dX4_goesOn_30 (by decide) (fun c30 => ?_) (fun c30 => ?_)
        · refine x_iconst (v := nI 0) X dX4_goesOn_37 (by decide) ?_
          exact x_zret X hW rfl (Or.inl (by decide)) () (Or.inr ⟨rfl, by rw [eg]; first | exact c7 | exact c75 | exact isD_in (by decide) c24 c30 | exact isD_lo (by decide) c24 | exact isD_hi (by decide) c30 | exact isD_in (by decide) c111 c117 | exact isD_lo (by decide) c111 | exact isD_hi (by decide) c117 | exact Or.inl c87 | exact Or.inr (Or.inl c93) | exact Or.inr (Or.inr c99) | exact fun q => q.elim c87 (fun q => q.elim c93 c99)⟩) rfl dX4_goesOn_38
        · refine x_iconst (v := nI 1) X dX4_goesOn_33 (by decide) ?_
          refine x_goto X 38 dX4_goesOn_34 (by decide) ?_
          exact x_zret X hW rfl (Or.inr (by decide)) () (Or.inl ⟨rfl, by rw [eg]; first | exact c7 | exact c75 | exact isD_in (by decide) c24 c30 | exact isD_lo (by decide) c24 | exact isD_hi (by decide) c30 | exact isD_in (by decide) c111 c117 | exact isD_lo (by decide) c111 | exact isD_hi (by decide) c117 | exact Or.inl c87 | exact Or.inr (Or.inl c93) | exact Or.inr (Or.inr c99) | exact fun q => q.elim c87 (fun q => q.elim c93 c99)⟩) rfl dX4_goesOn_38
  · have eg : goN pp cc0 ↔ cc0 = nI 108 := by unfold goN; (repeat' (first | rw [if_pos (by omega)] | rw [if_neg (by omega)]))
    refine x_iload_n X dX4_goesOn_4 rfl (lv_at hl 1 rfl) ?_
    refine x_bipush (v := nI 108) X dX4_goesOn_5 (by decide) ?_
    refine x_icmp_ne X 14 dX4_goesOn_7 (by decide) (fun c7 => ?_) (fun c7 => ?_)
    · refine x_iconst (v := nI 0) X dX4_goesOn_14 (by decide) ?_
      exact x_zret X hW rfl (Or.inl (by decide)) () (Or.inr ⟨rfl, by rw [eg]; first | exact c7 | exact c75 | exact isD_in (by decide) c24 c30 | exact isD_lo (by decide) c24 | exact isD_hi (by decide) c30 | exact isD_in (by decide) c111 c117 | exact isD_lo (by decide) c111 | exact isD_hi (by decide) c117 | exact Or.inl c87 | exact Or.inr (Or.inl c93) | exact Or.inr (Or.inr c99) | exact fun q => q.elim c87 (fun q => q.elim c93 c99)⟩) rfl dX4_goesOn_15
    · refine x_iconst (v := nI 1) X dX4_goesOn_10 (by decide) ?_
      refine x_goto X 15 dX4_goesOn_11 (by decide) ?_
      exact x_zret X hW rfl (Or.inr (by decide)) () (Or.inl ⟨rfl, by rw [eg]; first | exact c7 | exact c75 | exact isD_in (by decide) c24 c30 | exact isD_lo (by decide) c24 | exact isD_hi (by decide) c30 | exact isD_in (by decide) c111 c117 | exact isD_lo (by decide) c111 | exact isD_hi (by decide) c117 | exact Or.inl c87 | exact Or.inr (Or.inl c93) | exact Or.inr (Or.inr c99) | exact fun q => q.elim c87 (fun q => q.elim c93 c99)⟩) rfl dX4_goesOn_15
set_option maxHeartbeats 4000000 in
set_option maxRecDepth 100000 in
theorem c_X4_firstFault (l : Launch) (D : va_G) (cI cZ cO : ClassId) (tq : Nat) (ta : Nat → Nat) (tg : Nat → Nat) (bf : Nat → Int32) (sz : Nat) (ii : Nat) (nn : Nat)  (hin : ii + nn ≤ tg 2) (hct : tg 2 ≤ 60) : Met l yX4_firstFault wsX4_firstFault ({ frames := 1, cells := 0, slots := 0, locals := 21 }) (va_Pc [.ref tq, .int (nI ii), .int (nI nn)] (st_W D (ty3 cI cZ cO) (wT cI cZ tq ta tg ++ (wB cI (ta 3) bf)) sz)) (va_Qi (fun (rr : Int32) (u : Unit) => (rr = (-1 : Int32) ∧ (wholeP (fun z => bf (ii + z)) nn) ∨ rr = nI (ffN (fun z => bf (ii + z)) nn) ∧ (¬ wholeP (fun z => bf (ii + z)) nn))) (fun u t => at_W D (ty3 cI cZ cO) (va_A (wT cI cZ tq ta tg ++ (wB cI (ta 3) bf)) sz) (wT cI cZ tq ta tg ++ (wB cI (ta 3) bf)) t) (va_A (wT cI cZ tq ta tg ++ (wB cI (ta 3) bf)) sz)) 0 0 (va_A (wT cI cZ tq ta tg ++ (wB cI (ta 3) bf)) sz) := by
  refine Met.goi (cc := cX4_firstFault) (maxL := 5) (ret := (some .int)) (by decide) rfl (Nat.le_of_ble_eq_true rfl) (fun p e s m below meth c A ls X hW hl => ?_)
  have hi3 : ∀ w ∈ wsX30, w ∈ wsX4_firstFault := fun w h => List.mem_cons_of_mem _ (List.mem_append_right _ h)
  have hl : lv_has ls 5 [(0, .ref tq), (1, .int (nI ii)), (2, .int (nI nn))] := hl
  refine x_iload_n X dX4_firstFault_0 rfl (lv_at hl 2 rfl) ?_
  refine x_bipush (v := nI 18) X dX4_firstFault_1 (by decide) ?_
  refine x_mmin (v := nI (min nn 18)) X hl.1 (List.mem_of_getElem? (i := 1) rfl) (List.mem_of_getElem? (i := 2) rfl) (List.mem_of_getElem? (i := 3) rfl) (List.mem_of_getElem? (i := 4) rfl) ⟨Nat.le_of_ble_eq_true rfl, Nat.le_of_ble_eq_true rfl⟩ ⟨Nat.le_of_ble_eq_true rfl, Nat.le_of_ble_eq_true rfl⟩ (ie_mn (by omega) (by decide)) dX4_firstFault_3 ?_
  refine x_istore_n X [(3, .int (nI (min nn 18))), (0, .ref tq), (1, .int (nI ii)), (2, .int (nI nn))] dX4_firstFault_6 rfl hl (by decide) rfl (fun ls hl => ?_)
  refine x_iconst (v := nI 0) X dX4_firstFault_7 (by decide) ?_
  refine x_istore X [(4, .int (nI 0)), (3, .int (nI (min nn 18))), (0, .ref tq), (1, .int (nI ii)), (2, .int (nI nn))] dX4_firstFault_8 hl (by decide) rfl (fun ls hl => ?_)
  refine W.loop (σ := (Nat)) (fun u H locs ls => (u ≤ min nn 18 ∧ okTo (fun z => bf (ii + z)) u) ∧ Wd D A s.heap H locs (wT cI cZ tq ta tg ++ (wB cI (ta 3) bf)) ∧ lv_has ls 5 [(4, .int (nI u)), (3, .int (nI (min nn 18))), (0, .ref tq), (1, .int (nI ii)), (2, .int (nI nn))]) (fun u => min nn 18 - u) (fun u H locs ls hI ih => ?_) 0 ⟨(show 0 ≤ min nn 18 ∧ okTo (fun z => bf (ii + z)) 0 from ⟨Nat.zero_le _, okTo_0 _⟩), hW, hl⟩
  obtain ⟨x, xe⟩ : ∃ z, z = u := ⟨_, rfl⟩
  subst xe
  obtain ⟨hv, hW, hl⟩ := hI
  have hv : x ≤ min nn 18 ∧ okTo (fun z => bf (ii + z)) x := hv
  have hW : Wd D A s.heap H locs (wT cI cZ tq ta tg ++ (wB cI (ta 3) bf)) := hW
  have hl : lv_has ls 5 [(4, .int (nI x)), (3, .int (nI (min nn 18))), (0, .ref tq), (1, .int (nI ii)), (2, .int (nI nn))] := hl
  have ih10 := ih
  refine x_iload X dX4_firstFault_10 (lv_at hl 0 rfl) ?_
  refine x_iload_n X dX4_firstFault_12 rfl (lv_at hl 1 rfl) ?_
  refine n_icmp_ge X 41 dX4_firstFault_13 (by decide) (by omega) (by omega) (fun c13 => ?_) (fun c13 => ?_)
  · have ex : x = min nn 18 := by omega
    refine x_iload_n X dX4_firstFault_41 rfl (lv_at hl 1 rfl) ?_
    refine x_bipush (v := nI 10) X dX4_firstFault_42 (by decide) ?_
    refine n_icmp_lt X 55 dX4_firstFault_44 (by decide) (by omega) (by decide) (fun c44 => ?_) (fun c44 => ?_)
    · refine x_iload_n X dX4_firstFault_55 rfl (lv_at hl 1 rfl) ?_
      have hff : ffP (fun z => bf (ii + z)) nn (min nn 18) := ff_end (by rw [← ex]; exact hv.2) (by omega) (by omega)
      have hnw : ¬ wholeP (fun z => bf (ii + z)) nn := nw_num (by omega)
      refine n_as0 (b := ffN (fun z => bf (ii + z)) nn) (ffN_eq hff).symm ?_
      exact x_iret X hW rfl () (Or.inr (⟨rfl, by first | exact hwh | exact hnw⟩)) rfl dX4_firstFault_56
    · refine x_iload_n X dX4_firstFault_47 rfl (lv_at hl 1 rfl) ?_
      refine x_iconst (v := nI 2) X dX4_firstFault_48 (by decide) ?_
      refine n_isub X dX4_firstFault_49 (by omega) ?_
      refine x_iconst (v := nI 4) X dX4_firstFault_50 (by decide) ?_
      refine n_irem X dX4_firstFault_51 (by omega) (by omega) (by decide) ?_
      refine n_if_eq X 57 dX4_firstFault_52 (by decide) (by omega) (fun c52 => ?_) (fun c52 => ?_)
      · refine x_iload_n X dX4_firstFault_57 rfl (lv_at hl 4 rfl) ?_
        refine x_bipush (v := nI 18) X dX4_firstFault_58 (by decide) ?_
        refine n_icmp_le X 68 dX4_firstFault_60 (by decide) (by omega) (by decide) (fun c60 => ?_) (fun c60 => ?_)
        · have hwh : wholeP (fun z => bf (ii + z)) nn := ⟨by rw [show nn = x by omega]; exact hv.2, by omega, by omega, by omega⟩
          refine x_iconst (v := (-1 : Int32)) X dX4_firstFault_68 (by decide) ?_
          exact x_iret X hW rfl () (Or.inl ⟨rfl, by first | exact hwh | exact hnw⟩) rfl dX4_firstFault_69
        · refine x_bipush (v := nI 18) X dX4_firstFault_63 (by decide) ?_
          have hff : ffP (fun z => bf (ii + z)) nn 18 := ff_big (by rw [show 18 = x by omega]; exact hv.2) (by omega) rfl
          have hnw : ¬ wholeP (fun z => bf (ii + z)) nn := nw_num (by omega)
          refine n_as0 (b := ffN (fun z => bf (ii + z)) nn) (ffN_eq hff).symm ?_
          refine x_goto X 69 dX4_firstFault_65 (by decide) ?_
          exact x_iret X hW rfl () (Or.inr (⟨rfl, by first | exact hwh | exact hnw⟩)) rfl dX4_firstFault_69
      · refine x_iload_n X dX4_firstFault_55 rfl (lv_at hl 1 rfl) ?_
        have hff : ffP (fun z => bf (ii + z)) nn (min nn 18) := ff_end (by rw [← ex]; exact hv.2) (by omega) (by omega)
        have hnw : ¬ wholeP (fun z => bf (ii + z)) nn := nw_num (by omega)
        refine n_as0 (b := ffN (fun z => bf (ii + z)) nn) (ffN_eq hff).symm ?_
        exact x_iret X hW rfl () (Or.inr (⟨rfl, by first | exact hwh | exact hnw⟩)) rfl dX4_firstFault_56
  · refine x_iload X dX4_firstFault_16 (lv_at hl 0 rfl) ?_
    refine x_aload_n X dX4_firstFault_18 rfl (lv_at hl 2 rfl) ?_
    refine x_iload_n X dX4_firstFault_19 rfl (lv_at hl 3 rfl) ?_
    refine x_iload X dX4_firstFault_20 (lv_at hl 0 rfl) ?_
    refine n_iadd X dX4_firstFault_22 ?_
    refine x_callVi0 X hW (As := [.int (nI (ii + x))]) (rest := [.int (nI x)]) (c_X3_cellAt l D cI cZ cO tq ta tg bf _ (ii + x) (show (ii + x) < (tg 2) from (by first | assumption | omega)) (show (tg 2) ≤ 60 from (by first | assumption | omega))) (cwV 1 X.2.2.2.2.2.1 gX4_firstFault_X3_cellAt rfl rfl rfl (by decide +kernel) ⟨Nat.le_of_ble_eq_true rfl, Nat.le_of_ble_eq_true rfl⟩) 0 3 rfl rfl rfl rfl hl.1 rfl (Nat.le_of_ble_eq_true rfl) ⟨Nat.le_of_ble_eq_true rfl, Nat.le_of_ble_eq_true rfl⟩ dX4_firstFault_23 (fun r1 u2 H locs w23 hW => ?_)
    have hW : Wd D A s.heap H locs (wT cI cZ tq ta tg ++ (wB cI (ta 3) bf)) := hW
    replace w23 : r1 = bf (ii + x) := w23
    subst w23
    refine x_callSie X hW (As := [.int (nI x), .int (bf (ii + x))]) (rest := []) (c_X4_goesOn l D cI cZ cO  _ x (bf (ii + x)) (show x < 18 from (by omega))) (va_cwS 2 X.2.2.2.2.2.1 gX4_firstFault_X4_goesOn rfl rfl rfl (by decide +kernel) ⟨Nat.le_of_ble_eq_true rfl, Nat.le_of_ble_eq_true rfl⟩) rfl hl.1 rfl (Nat.le_of_ble_eq_true rfl) ⟨Nat.le_of_ble_eq_true rfl, Nat.le_of_ble_eq_true rfl⟩ dX4_firstFault_26 (fun r3 u4 H locs w26 hW => ?_)
    have hW : Wd D A s.heap H locs (wT cI cZ tq ta tg ++ (wB cI (ta 3) bf)) := hW
    replace w26 : (r3 = nI 1 ∧ (goN x (bf (ii + x))) ∨ r3 = nI 0 ∧ ¬ (goN x (bf (ii + x)))) := w26
    rcases w26 with ⟨w26, h26⟩ | ⟨w26, h26⟩
    · subst w26
      refine n_if_ne X 35 dX4_firstFault_29 (by decide) (by decide) (fun c29 => ?_) (fun c29 => by exact absurd c29 (by decide))
      refine x_iinc X [(4, .int (nI (x + 1))), (3, .int (nI (min nn 18))), (0, .ref tq), (1, .int (nI ii)), (2, .int (nI nn))] (k := 0) dX4_firstFault_35 hl rfl (nI_inc1 x) (by decide) rfl (fun ls hl => ?_)
      refine x_goto X 10 dX4_firstFault_38 (by decide) ?_
      exact ih10 (x + 1) _ _ _ ⟨(show (x + 1) ≤ min nn 18 ∧ okTo (fun z => bf (ii + z)) (x + 1) from ⟨by omega, okTo_s hv.2 h26⟩), hW, lv_sub hl [0, 1, 2, 3, 4] rfl⟩ (by omega)
    · subst w26
      have hff : ffP (fun z => bf (ii + z)) nn x := ff_bad hv.2 (by omega) (by omega) h26
      have hnw : ¬ wholeP (fun z => bf (ii + z)) nn := nw_bad (by omega) h26
      refine n_if_ne X 35 dX4_firstFault_29 (by decide) (by decide) (fun c29 => by exact absurd c29 (by decide)) (fun c29 => ?_)
      refine x_iload X dX4_firstFault_32 (lv_at hl 0 rfl) ?_
      refine n_as0 (b := ffN (fun z => bf (ii + z)) nn) (ffN_eq hff).symm ?_
      exact x_iret X hW rfl () (Or.inr (⟨rfl, by first | exact hwh | exact hnw⟩)) rfl dX4_firstFault_34
set_option maxHeartbeats 4000000 in
set_option maxRecDepth 100000 in
theorem c_X4_kindOfLetter (l : Launch) (D : va_G) (cI cZ cO : ClassId)  (sz : Nat) (cc0 : Int32)  (hl0 : isL cc0) : Met l yX4_kindOfLetter wsX4_kindOfLetter ({ frames := 0, cells := 0, slots := 0, locals := 0 }) (va_Pc [.int cc0] (st_W D (ty3 cI cZ cO) ([] : va_W) sz)) (va_Qi (fun (rr : Int32) (u : Unit) => rr = nI (kl cc0)) (fun u t => at_W D (ty3 cI cZ cO) (va_A ([] : va_W) sz) ([] : va_W) t) (va_A ([] : va_W) sz)) 0 0 (va_A ([] : va_W) sz) := by
  refine Met.goi (cc := cX4_kindOfLetter) (maxL := 1) (ret := (some .int)) (by decide) rfl (Nat.le_of_ble_eq_true rfl) (fun p e s m below meth c A ls X hW hl => ?_)
  have hl : lv_has ls 1 [(0, .int cc0)] := hl
  refine x_iload_n X dX4_kindOfLetter_0 rfl (lv_at hl 0 rfl) ?_
  refine x_bipush (v := nI 115) X dX4_kindOfLetter_1 (by decide) ?_
  refine x_icmp_ne X 8 dX4_kindOfLetter_3 (by decide) (fun c3 => ?_) (fun c3 => ?_)
  · refine x_iload_n X dX4_kindOfLetter_8 rfl (lv_at hl 0 rfl) ?_
    refine x_bipush (v := nI 112) X dX4_kindOfLetter_9 (by decide) ?_
    refine x_icmp_ne X 18 dX4_kindOfLetter_11 (by decide) (fun c11 => ?_) (fun c11 => ?_)
    · refine x_iconst (v := nI 0) X dX4_kindOfLetter_18 (by decide) ?_
      exact x_iret X hW rfl () ((congrArg nI (show 0 = kl cc0 from by first | exact (kl_s c3).symm | exact (kl_p c11).symm | exact (kl_m hl0 c3 c11).symm))) rfl dX4_kindOfLetter_19
    · refine x_iconst (v := nI 1) X dX4_kindOfLetter_14 (by decide) ?_
      refine x_goto X 19 dX4_kindOfLetter_15 (by decide) ?_
      exact x_iret X hW rfl () ((congrArg nI (show 1 = kl cc0 from by first | exact (kl_s c3).symm | exact (kl_p c11).symm | exact (kl_m hl0 c3 c11).symm))) rfl dX4_kindOfLetter_19
  · refine x_iconst (v := nI 2) X dX4_kindOfLetter_6 (by decide) ?_
    exact x_iret X hW rfl () ((congrArg nI (show 2 = kl cc0 from by first | exact (kl_s c3).symm | exact (kl_p c11).symm | exact (kl_m hl0 c3 c11).symm))) rfl dX4_kindOfLetter_7
set_option maxHeartbeats 4000000 in
set_option maxRecDepth 100000 in
theorem c_X4_take (l : Launch) (D : va_G) (cI cZ cO : ClassId) (tq : Nat) (ta : Nat → Nat) (tg : Nat → Nat) (bf : Nat → Int32) (cq : Nat) (ca : Nat → Nat) (cg : Nat → Nat) (cF : Nat → Nat → Nat) (sz : Nat) (ii : Nat) (nn : Nat)  (hwh : wholeP (fun z => bf (ii + z)) nn) (hin : ii + nn ≤ tg 2) (hct : tg 2 ≤ 60) : Met l yX4_take wsX4_take ({ frames := 2, cells := 0, slots := 0, locals := 44 }) (va_Pc [.ref tq, .int (nI ii), .int (nI nn), .ref cq] (st_W D (ty3 cI cZ cO) (wT cI cZ tq ta tg ++ (wB cI (ta 3) bf ++ (wC cI cZ cq ca cg cF))) sz)) (va_Qv (fun (u : Unit) => True) (fun u t => at_W D (ty3 cI cZ cO) (va_A (wT cI cZ tq ta tg ++ (wB cI (ta 3) bf ++ (wC cI cZ cq ca cg cF))) sz) (wT cI cZ tq ta tg ++ (wB cI (ta 3) bf ++ (wC cI cZ cq ca (sF (sF cg 0 ((nn - 2) / 4)) 1 (dgt ((fun z => bf (ii + z)) 1))) (sF (sF (sF cF 2 (cpN ((nn - 2) / 4) (tK (fun z => bf (ii + z))) (cF 2))) 3 (cpN ((nn - 2) / 4) (tL (fun z => bf (ii + z))) (cF 3))) 4 (cpN ((nn - 2) / 4) (tM (fun z => bf (ii + z))) (cF 4)))))) t) (va_A (wT cI cZ tq ta tg ++ (wB cI (ta 3) bf ++ (wC cI cZ cq ca cg cF))) sz)) 0 0 (va_A (wT cI cZ tq ta tg ++ (wB cI (ta 3) bf ++ (wC cI cZ cq ca cg cF))) sz) := by
  refine Met.gov (cc := cX4_take) (maxL := 6) (ret := none) (by decide) rfl (Nat.le_of_ble_eq_true rfl) (fun p e s m below meth c A ls X hW hl => ?_)
  have hi0 : ∀ w ∈ wsX00, w ∈ wsX4_take := fun w h => List.mem_cons_of_mem _ (List.mem_append_left _ (List.mem_append_right _ h))
  have hi3 : ∀ w ∈ wsX30, w ∈ wsX4_take := fun w h => List.mem_cons_of_mem _ (List.mem_append_right _ h)
  have hl : lv_has ls 6 [(0, .ref tq), (1, .int (nI ii)), (2, .int (nI nn)), (3, .ref cq)] := hl
  obtain ⟨w1, w2, w3, w4⟩ := id hwh
  have hd1 : isD (bf (ii + 1)) 3 := goN1.mp (w1 1 (by omega))
  refine x_aload_n X dX4_take_0 rfl (lv_at hl 3 rfl) ?_
  refine x_aload_n X dX4_take_1 rfl (lv_at hl 0 rfl) ?_
  refine x_iload_n X dX4_take_2 rfl (lv_at hl 1 rfl) ?_
  refine x_iconst (v := nI 1) X dX4_take_3 (by decide) ?_
  refine n_iadd X dX4_take_4 ?_
  refine x_callVi X hW (As := [.int (nI (ii + 1))]) (rest := [.ref cq]) (wz := fun u => (wT cI cZ tq ta tg ++ (wB cI (ta 3) bf ++ (wC cI cZ cq ca cg cF)))) (c_X3_cellAt l D cI cZ cO tq ta tg bf _ (ii + 1) (show (ii + 1) < (tg 2) from (by first | assumption | omega)) (show (tg 2) ≤ 60 from (by first | assumption | omega))) (cwV 1 X.2.2.2.2.2.1 gX4_take_X3_cellAt rfl rfl rfl (by decide +kernel) ⟨Nat.le_of_ble_eq_true rfl, Nat.le_of_ble_eq_true rfl⟩) 0 3 rfl rfl rfl [0, 1] [2, 3, 4, 5] [4, 5, 0, 1, 2, 3] rfl rfl (by decide) (fun _ => rfl) rfl hl.1 rfl (Nat.le_of_ble_eq_true rfl) ⟨Nat.le_of_ble_eq_true rfl, Nat.le_of_ble_eq_true rfl⟩ dX4_take_5 (fun r1 u2 H locs w5 hW => ?_)
  have hW : Wd D A s.heap H locs (wT cI cZ tq ta tg ++ (wB cI (ta 3) bf ++ (wC cI cZ cq ca cg cF))) := hW
  replace w5 : r1 = bf (ii + 1) := w5
  subst w5
  refine x_bipush (v := nI 48) X dX4_take_8 (by decide) ?_
  refine x_isub (v := nI (dgt ((fun z => bf (ii + z)) 1))) X dX4_take_10 (dgt_sub hd1 (by decide)) ?_
  refine x_put X hW (v := .int (nI (dgt ((fun z => bf (ii + z)) 1)))) hi0 tyX0 tyX0_ok nmX0 2 rfl rfl 1 (by decide) (List.mem_of_getElem? (i := 1) rfl) rfl rfl rfl rfl (Nat.le_of_ble_eq_true rfl) dX4_take_11 (wT cI cZ tq ta tg ++ (wB cI (ta 3) bf ++ (wC cI cZ cq ca (sF cg 1 (dgt ((fun z => bf (ii + z)) 1))) cF))) rfl (fun H locs hW => ?_)
  refine x_aload_n X dX4_take_14 rfl (lv_at hl 3 rfl) ?_
  refine x_iload_n X dX4_take_15 rfl (lv_at hl 2 rfl) ?_
  refine x_iconst (v := nI 2) X dX4_take_16 (by decide) ?_
  refine n_isub X dX4_take_17 (by omega) ?_
  refine x_iconst (v := nI 4) X dX4_take_18 (by decide) ?_
  refine n_idiv X dX4_take_19 (by omega) (by omega) (by decide) ?_
  refine x_put X hW (v := .int (nI ((nn - 2) / 4))) hi0 tyX0 tyX0_ok nmX0 2 rfl rfl 0 (by decide) (List.mem_of_getElem? (i := 2) rfl) rfl rfl rfl rfl (Nat.le_of_ble_eq_true rfl) dX4_take_20 (wT cI cZ tq ta tg ++ (wB cI (ta 3) bf ++ (wC cI cZ cq ca (sF (sF cg 0 ((nn - 2) / 4)) 1 (dgt ((fun z => bf (ii + z)) 1))) cF))) rfl (fun H locs hW => ?_)
  refine x_iconst (v := nI 0) X dX4_take_23 (by decide) ?_
  refine x_istore X [(4, .int (nI 0)), (0, .ref tq), (1, .int (nI ii)), (2, .int (nI nn)), (3, .ref cq)] dX4_take_24 hl (by decide) rfl (fun ls hl => ?_)
  refine W.loop (σ := (Nat)) (fun u H locs ls => (u ≤ (nn - 2) / 4) ∧ Wd D A s.heap H locs (wT cI cZ tq ta tg ++ (wB cI (ta 3) bf ++ (wC cI cZ cq ca (sF (sF cg 0 ((nn - 2) / 4)) 1 (dgt ((fun z => bf (ii + z)) 1))) (sF (sF (sF cF 2 (cpN u (tK (fun z => bf (ii + z))) (cF 2))) 3 (cpN u (tL (fun z => bf (ii + z))) (cF 3))) 4 (cpN u (tM (fun z => bf (ii + z))) (cF 4)))))) ∧ lv_has ls 6 [(4, .int (nI u)), (0, .ref tq), (1, .int (nI ii)), (2, .int (nI nn)), (3, .ref cq)]) (fun u => (nn - 2) / 4 - u) (fun u H locs ls hI ih => ?_) 0 ⟨(show 0 ≤ (nn - 2) / 4 from (by omega)), (hW.eq (Eq.trans (Eq.trans (congrArg (fun z => (wT cI cZ tq ta tg ++ (wB cI (ta 3) bf ++ (wC cI cZ cq ca (sF (sF cg 0 ((nn - 2) / 4)) 1 (dgt ((fun z => bf (ii + z)) 1))) (sF cF 2 z))))) (show (cF 2) = (cpN 0 (tK (fun z => bf (ii + z))) (cF 2)) from by first | rw [cpN_s] | rw [cpN_0])) (congrArg (fun z => (wT cI cZ tq ta tg ++ (wB cI (ta 3) bf ++ (wC cI cZ cq ca (sF (sF cg 0 ((nn - 2) / 4)) 1 (dgt ((fun z => bf (ii + z)) 1))) (sF (sF cF 2 (cpN 0 (tK (fun z => bf (ii + z))) (cF 2))) 3 z))))) (show (cF 3) = (cpN 0 (tL (fun z => bf (ii + z))) (cF 3)) from by first | rw [cpN_s] | rw [cpN_0]))) (congrArg (fun z => (wT cI cZ tq ta tg ++ (wB cI (ta 3) bf ++ (wC cI cZ cq ca (sF (sF cg 0 ((nn - 2) / 4)) 1 (dgt ((fun z => bf (ii + z)) 1))) (sF (sF (sF cF 2 (cpN 0 (tK (fun z => bf (ii + z))) (cF 2))) 3 (cpN 0 (tL (fun z => bf (ii + z))) (cF 3))) 4 z))))) (show (cF 4) = (cpN 0 (tM (fun z => bf (ii + z))) (cF 4)) from by first | rw [cpN_s] | rw [cpN_0])))), hl⟩
  obtain ⟨x, xe⟩ : ∃ z, z = u := ⟨_, rfl⟩
  subst xe
  obtain ⟨hv, hW, hl⟩ := hI
  have hv : x ≤ (nn - 2) / 4 := hv
  have hW : Wd D A s.heap H locs (wT cI cZ tq ta tg ++ (wB cI (ta 3) bf ++ (wC cI cZ cq ca (sF (sF cg 0 ((nn - 2) / 4)) 1 (dgt ((fun z => bf (ii + z)) 1))) (sF (sF (sF cF 2 (cpN x (tK (fun z => bf (ii + z))) (cF 2))) 3 (cpN x (tL (fun z => bf (ii + z))) (cF 3))) 4 (cpN x (tM (fun z => bf (ii + z))) (cF 4)))))) := hW
  have hl : lv_has ls 6 [(4, .int (nI x)), (0, .ref tq), (1, .int (nI ii)), (2, .int (nI nn)), (3, .ref cq)] := hl
  have ih26 := ih
  refine x_iload X dX4_take_26 (lv_at hl 0 rfl) ?_
  refine x_aload_n X dX4_take_28 rfl (lv_at hl 4 rfl) ?_
  refine x_get X hW (v := .int (nI ((nn - 2) / 4))) hi0 2 rfl rfl 0 (by decide) (List.mem_of_getElem? (i := 2) rfl) rfl rfl dX4_take_29 ?_
  refine n_icmp_ge X 105 dX4_take_32 (by decide) (by omega) (by omega) (fun c32 => ?_) (fun c32 => ?_)
  · exact x_vret X hW rfl () (trivial) (Eq.trans (Eq.trans (congrArg (fun z => (wT cI cZ tq ta tg ++ (wB cI (ta 3) bf ++ (wC cI cZ cq ca (sF (sF cg 0 ((nn - 2) / 4)) 1 (dgt ((fun z => bf (ii + z)) 1))) (sF (sF (sF cF 2 z) 3 (cpN x (tL (fun z => bf (ii + z))) (cF 3))) 4 (cpN x (tM (fun z => bf (ii + z))) (cF 4))))))) (show (cpN x (tK (fun z => bf (ii + z))) (cF 2)) = (cpN ((nn - 2) / 4) (tK (fun z => bf (ii + z))) (cF 2)) from by rw [show x = (nn - 2) / 4 by omega])) (congrArg (fun z => (wT cI cZ tq ta tg ++ (wB cI (ta 3) bf ++ (wC cI cZ cq ca (sF (sF cg 0 ((nn - 2) / 4)) 1 (dgt ((fun z => bf (ii + z)) 1))) (sF (sF (sF cF 2 (cpN ((nn - 2) / 4) (tK (fun z => bf (ii + z))) (cF 2))) 3 z) 4 (cpN x (tM (fun z => bf (ii + z))) (cF 4))))))) (show (cpN x (tL (fun z => bf (ii + z))) (cF 3)) = (cpN ((nn - 2) / 4) (tL (fun z => bf (ii + z))) (cF 3)) from by rw [show x = (nn - 2) / 4 by omega]))) (congrArg (fun z => (wT cI cZ tq ta tg ++ (wB cI (ta 3) bf ++ (wC cI cZ cq ca (sF (sF cg 0 ((nn - 2) / 4)) 1 (dgt ((fun z => bf (ii + z)) 1))) (sF (sF (sF cF 2 (cpN ((nn - 2) / 4) (tK (fun z => bf (ii + z))) (cF 2))) 3 (cpN ((nn - 2) / 4) (tL (fun z => bf (ii + z))) (cF 3))) 4 z))))) (show (cpN x (tM (fun z => bf (ii + z))) (cF 4)) = (cpN ((nn - 2) / 4) (tM (fun z => bf (ii + z))) (cF 4)) from by rw [show x = (nn - 2) / 4 by omega]))) dX4_take_105
  · have hx1 : isL (bf (ii + (2 + 4 * x + 1))) := (goN3 (k := x) (by omega)).mp (w1 (2 + 4 * x + 1) (by omega))
    have hx2 : isD (bf (ii + (2 + 4 * x + 2))) 9 := (goN4 (k := x) (by omega)).mp (w1 (2 + 4 * x + 2) (by omega))
    have hx3 : isD (bf (ii + (2 + 4 * x + 3))) 9 := (goN4 (k := x) (by omega)).mp (w1 (2 + 4 * x + 3) (by omega))
    refine x_iload_n X dX4_take_35 rfl (lv_at hl 2 rfl) ?_
    refine x_iconst (v := nI 2) X dX4_take_36 (by decide) ?_
    refine n_iadd X dX4_take_37 ?_
    refine x_iload X dX4_take_38 (lv_at hl 0 rfl) ?_
    refine x_iconst (v := nI 4) X dX4_take_40 (by decide) ?_
    refine n_imul X dX4_take_41 ?_
    refine n_iadd X dX4_take_42 ?_
    refine x_istore X [(5, .int (nI ((ii + 2) + (x * 4)))), (4, .int (nI x)), (0, .ref tq), (1, .int (nI ii)), (2, .int (nI nn)), (3, .ref cq)] dX4_take_43 hl (by decide) rfl (fun ls hl => ?_)
    refine x_aload_n X dX4_take_45 rfl (lv_at hl 5 rfl) ?_
    refine x_iload X dX4_take_46 (lv_at hl 1 rfl) ?_
    refine x_iconst (v := nI 0) X dX4_take_48 (by decide) ?_
    refine x_aload_n X dX4_take_49 rfl (lv_at hl 2 rfl) ?_
    refine x_iload X dX4_take_50 (lv_at hl 0 rfl) ?_
    refine x_iconst (v := nI 1) X dX4_take_52 (by decide) ?_
    refine n_iadd X dX4_take_53 ?_
    refine x_callVi X hW (As := [.int (nI (((ii + 2) + (x * 4)) + 1))]) (rest := [.int (nI 0), .int (nI x), .ref cq]) (wz := fun u => (wT cI cZ tq ta tg ++ (wB cI (ta 3) bf ++ (wC cI cZ cq ca (sF (sF cg 0 ((nn - 2) / 4)) 1 (dgt ((fun z => bf (ii + z)) 1))) (sF (sF (sF cF 2 (cpN x (tK (fun z => bf (ii + z))) (cF 2))) 3 (cpN x (tL (fun z => bf (ii + z))) (cF 3))) 4 (cpN x (tM (fun z => bf (ii + z))) (cF 4))))))) (c_X3_cellAt l D cI cZ cO tq ta tg bf _ (((ii + 2) + (x * 4)) + 1) (show (((ii + 2) + (x * 4)) + 1) < (tg 2) from (by first | assumption | omega)) (show (tg 2) ≤ 60 from (by first | assumption | omega))) (cwV 1 X.2.2.2.2.2.1 gX4_take_X3_cellAt rfl rfl rfl (by decide +kernel) ⟨Nat.le_of_ble_eq_true rfl, Nat.le_of_ble_eq_true rfl⟩) 0 3 rfl rfl rfl [0, 1] [2, 3, 4, 5] [4, 5, 0, 1, 2, 3] rfl rfl (by decide) (fun _ => rfl) rfl hl.1 rfl (Nat.le_of_ble_eq_true rfl) ⟨Nat.le_of_ble_eq_true rfl, Nat.le_of_ble_eq_true rfl⟩ dX4_take_54 (fun r3 u4 H locs w54 hW => ?_)
    have hW : Wd D A s.heap H locs (wT cI cZ tq ta tg ++ (wB cI (ta 3) bf ++ (wC cI cZ cq ca (sF (sF cg 0 ((nn - 2) / 4)) 1 (dgt ((fun z => bf (ii + z)) 1))) (sF (sF (sF cF 2 (cpN x (tK (fun z => bf (ii + z))) (cF 2))) 3 (cpN x (tL (fun z => bf (ii + z))) (cF 3))) 4 (cpN x (tM (fun z => bf (ii + z))) (cF 4)))))) := hW
    replace w54 : r3 = bf (((ii + 2) + (x * 4)) + 1) := w54
    subst w54
    refine i_as0 (b := bf (ii + (2 + 4 * x + 1))) (congrArg bf (by omega)) ?_
    refine x_callSie X hW (As := [.int (bf (ii + (2 + 4 * x + 1)))]) (rest := [.int (nI 0), .int (nI x), .ref cq]) (c_X4_kindOfLetter l D cI cZ cO  _ (bf (ii + (2 + 4 * x + 1))) (show isL (bf (ii + (2 + 4 * x + 1))) from hx1)) (va_cwS 1 X.2.2.2.2.2.1 gX4_take_X4_kindOfLetter rfl rfl rfl (by decide +kernel) ⟨Nat.le_of_ble_eq_true rfl, Nat.le_of_ble_eq_true rfl⟩) rfl hl.1 rfl (Nat.le_of_ble_eq_true rfl) ⟨Nat.le_of_ble_eq_true rfl, Nat.le_of_ble_eq_true rfl⟩ dX4_take_57 (fun r5 u6 H locs w57 hW => ?_)
    have hW : Wd D A s.heap H locs (wT cI cZ tq ta tg ++ (wB cI (ta 3) bf ++ (wC cI cZ cq ca (sF (sF cg 0 ((nn - 2) / 4)) 1 (dgt ((fun z => bf (ii + z)) 1))) (sF (sF (sF cF 2 (cpN x (tK (fun z => bf (ii + z))) (cF 2))) 3 (cpN x (tL (fun z => bf (ii + z))) (cF 3))) 4 (cpN x (tM (fun z => bf (ii + z))) (cF 4)))))) := hW
    replace w57 : r5 = nI (kl (bf (ii + (2 + 4 * x + 1)))) := w57
    subst w57
    refine n_as0 (b := tK (fun z => bf (ii + z)) x) rfl ?_
    refine x_callVv X hW (As := [.int (nI x), .int (nI 0), .int (nI (tK (fun z => bf (ii + z)) x))]) (rest := []) (wz := fun u => (wT cI cZ tq ta tg ++ (wB cI (ta 3) bf ++ (wC cI cZ cq ca (sF (sF cg 0 ((nn - 2) / 4)) 1 (dgt ((fun z => bf (ii + z)) 1))) (sF (sF (sF cF 2 (sF ((cpN x (tK (fun z => bf (ii + z))) (cF 2))) x (tK (fun z => bf (ii + z)) x))) 3 (cpN x (tL (fun z => bf (ii + z))) (cF 3))) 4 (cpN x (tM (fun z => bf (ii + z))) (cF 4))))))) (c_X0_become0 l D cI cZ cO cq ca (sF (sF cg 0 ((nn - 2) / 4)) 1 (dgt ((fun z => bf (ii + z)) 1))) (sF (sF (sF cF 2 (cpN x (tK (fun z => bf (ii + z))) (cF 2))) 3 (cpN x (tL (fun z => bf (ii + z))) (cF 3))) 4 (cpN x (tM (fun z => bf (ii + z))) (cF 4))) _ x (tK (fun z => bf (ii + z)) x) (show x < ((nn - 2) / 4) from (by omega)) (show ((nn - 2) / 4) ≤ 4 from (by omega))) (cwV 3 X.2.2.2.2.2.1 gX4_take_X0_become rfl rfl rfl (by decide +kernel) ⟨Nat.le_of_ble_eq_true rfl, Nat.le_of_ble_eq_true rfl⟩) 2 0 rfl rfl rfl [2, 3, 4, 5] [0, 1] [0, 1, 2, 3, 4, 5] rfl rfl (by decide) (fun _ => rfl) rfl hl.1 rfl (Nat.le_of_ble_eq_true rfl) ⟨Nat.le_of_ble_eq_true rfl, Nat.le_of_ble_eq_true rfl⟩ dX4_take_60 (fun u8 H locs w60 hW => ?_)
    have hW : Wd D A s.heap H locs (wT cI cZ tq ta tg ++ (wB cI (ta 3) bf ++ (wC cI cZ cq ca (sF (sF cg 0 ((nn - 2) / 4)) 1 (dgt ((fun z => bf (ii + z)) 1))) (sF (sF (sF cF 2 (sF ((cpN x (tK (fun z => bf (ii + z))) (cF 2))) x (tK (fun z => bf (ii + z)) x))) 3 (cpN x (tL (fun z => bf (ii + z))) (cF 3))) 4 (cpN x (tM (fun z => bf (ii + z))) (cF 4)))))) := hW
    replace w60 : True := w60
    refine x_aload_n X dX4_take_63 rfl (lv_at hl 5 rfl) ?_
    refine x_iload X dX4_take_64 (lv_at hl 1 rfl) ?_
    refine x_iconst (v := nI 1) X dX4_take_66 (by decide) ?_
    refine x_aload_n X dX4_take_67 rfl (lv_at hl 2 rfl) ?_
    refine x_iload X dX4_take_68 (lv_at hl 0 rfl) ?_
    refine x_iconst (v := nI 2) X dX4_take_70 (by decide) ?_
    refine n_iadd X dX4_take_71 ?_
    refine x_callVi X hW (As := [.int (nI (((ii + 2) + (x * 4)) + 2))]) (rest := [.int (nI 1), .int (nI x), .ref cq]) (wz := fun u => (wT cI cZ tq ta tg ++ (wB cI (ta 3) bf ++ (wC cI cZ cq ca (sF (sF cg 0 ((nn - 2) / 4)) 1 (dgt ((fun z => bf (ii + z)) 1))) (sF (sF (sF cF 2 (sF ((cpN x (tK (fun z => bf (ii + z))) (cF 2))) x (tK (fun z => bf (ii + z)) x))) 3 (cpN x (tL (fun z => bf (ii + z))) (cF 3))) 4 (cpN x (tM (fun z => bf (ii + z))) (cF 4))))))) (c_X3_cellAt l D cI cZ cO tq ta tg bf _ (((ii + 2) + (x * 4)) + 2) (show (((ii + 2) + (x * 4)) + 2) < (tg 2) from (by first | assumption | omega)) (show (tg 2) ≤ 60 from (by first | assumption | omega))) (cwV 1 X.2.2.2.2.2.1 gX4_take_X3_cellAt rfl rfl rfl (by decide +kernel) ⟨Nat.le_of_ble_eq_true rfl, Nat.le_of_ble_eq_true rfl⟩) 0 3 rfl rfl rfl [0, 1] [2, 3, 4, 5] [4, 5, 0, 1, 2, 3] rfl rfl (by decide) (fun _ => rfl) rfl hl.1 rfl (Nat.le_of_ble_eq_true rfl) ⟨Nat.le_of_ble_eq_true rfl, Nat.le_of_ble_eq_true rfl⟩ dX4_take_72 (fun r9 u10 H locs w72 hW => ?_)
    have hW : Wd D A s.heap H locs (wT cI cZ tq ta tg ++ (wB cI (ta 3) bf ++ (wC cI cZ cq ca (sF (sF cg 0 ((nn - 2) / 4)) 1 (dgt ((fun z => bf (ii + z)) 1))) (sF (sF (sF cF 2 (sF ((cpN x (tK (fun z => bf (ii + z))) (cF 2))) x (tK (fun z => bf (ii + z)) x))) 3 (cpN x (tL (fun z => bf (ii + z))) (cF 3))) 4 (cpN x (tM (fun z => bf (ii + z))) (cF 4)))))) := hW
    replace w72 : r9 = bf (((ii + 2) + (x * 4)) + 2) := w72
    subst w72
    refine i_as0 (b := bf (ii + (2 + 4 * x + 2))) (congrArg bf (by omega)) ?_
    refine x_bipush (v := nI 48) X dX4_take_75 (by decide) ?_
    refine x_isub (v := nI (tL (fun z => bf (ii + z)) x)) X dX4_take_77 (dgt_sub hx2 (by decide)) ?_
    refine x_callVv X hW (As := [.int (nI x), .int (nI 1), .int (nI (tL (fun z => bf (ii + z)) x))]) (rest := []) (wz := fun u => (wT cI cZ tq ta tg ++ (wB cI (ta 3) bf ++ (wC cI cZ cq ca (sF (sF cg 0 ((nn - 2) / 4)) 1 (dgt ((fun z => bf (ii + z)) 1))) (sF (sF (sF cF 2 (sF ((cpN x (tK (fun z => bf (ii + z))) (cF 2))) x (tK (fun z => bf (ii + z)) x))) 3 (sF ((cpN x (tL (fun z => bf (ii + z))) (cF 3))) x (tL (fun z => bf (ii + z)) x))) 4 (cpN x (tM (fun z => bf (ii + z))) (cF 4))))))) (c_X0_become1 l D cI cZ cO cq ca (sF (sF cg 0 ((nn - 2) / 4)) 1 (dgt ((fun z => bf (ii + z)) 1))) (sF (sF (sF cF 2 (sF ((cpN x (tK (fun z => bf (ii + z))) (cF 2))) x (tK (fun z => bf (ii + z)) x))) 3 (cpN x (tL (fun z => bf (ii + z))) (cF 3))) 4 (cpN x (tM (fun z => bf (ii + z))) (cF 4))) _ x (tL (fun z => bf (ii + z)) x) (show x < ((nn - 2) / 4) from (by omega)) (show ((nn - 2) / 4) ≤ 4 from (by omega))) (cwV 3 X.2.2.2.2.2.1 gX4_take_X0_become rfl rfl rfl (by decide +kernel) ⟨Nat.le_of_ble_eq_true rfl, Nat.le_of_ble_eq_true rfl⟩) 2 0 rfl rfl rfl [2, 3, 4, 5] [0, 1] [0, 1, 2, 3, 4, 5] rfl rfl (by decide) (fun _ => rfl) rfl hl.1 rfl (Nat.le_of_ble_eq_true rfl) ⟨Nat.le_of_ble_eq_true rfl, Nat.le_of_ble_eq_true rfl⟩ dX4_take_78 (fun u12 H locs w78 hW => ?_)
    have hW : Wd D A s.heap H locs (wT cI cZ tq ta tg ++ (wB cI (ta 3) bf ++ (wC cI cZ cq ca (sF (sF cg 0 ((nn - 2) / 4)) 1 (dgt ((fun z => bf (ii + z)) 1))) (sF (sF (sF cF 2 (sF ((cpN x (tK (fun z => bf (ii + z))) (cF 2))) x (tK (fun z => bf (ii + z)) x))) 3 (sF ((cpN x (tL (fun z => bf (ii + z))) (cF 3))) x (tL (fun z => bf (ii + z)) x))) 4 (cpN x (tM (fun z => bf (ii + z))) (cF 4)))))) := hW
    replace w78 : True := w78
    refine x_aload_n X dX4_take_81 rfl (lv_at hl 5 rfl) ?_
    refine x_iload X dX4_take_82 (lv_at hl 1 rfl) ?_
    refine x_iconst (v := nI 2) X dX4_take_84 (by decide) ?_
    refine x_aload_n X dX4_take_85 rfl (lv_at hl 2 rfl) ?_
    refine x_iload X dX4_take_86 (lv_at hl 0 rfl) ?_
    refine x_iconst (v := nI 3) X dX4_take_88 (by decide) ?_
    refine n_iadd X dX4_take_89 ?_
    refine x_callVi X hW (As := [.int (nI (((ii + 2) + (x * 4)) + 3))]) (rest := [.int (nI 2), .int (nI x), .ref cq]) (wz := fun u => (wT cI cZ tq ta tg ++ (wB cI (ta 3) bf ++ (wC cI cZ cq ca (sF (sF cg 0 ((nn - 2) / 4)) 1 (dgt ((fun z => bf (ii + z)) 1))) (sF (sF (sF cF 2 (sF ((cpN x (tK (fun z => bf (ii + z))) (cF 2))) x (tK (fun z => bf (ii + z)) x))) 3 (sF ((cpN x (tL (fun z => bf (ii + z))) (cF 3))) x (tL (fun z => bf (ii + z)) x))) 4 (cpN x (tM (fun z => bf (ii + z))) (cF 4))))))) (c_X3_cellAt l D cI cZ cO tq ta tg bf _ (((ii + 2) + (x * 4)) + 3) (show (((ii + 2) + (x * 4)) + 3) < (tg 2) from (by first | assumption | omega)) (show (tg 2) ≤ 60 from (by first | assumption | omega))) (cwV 1 X.2.2.2.2.2.1 gX4_take_X3_cellAt rfl rfl rfl (by decide +kernel) ⟨Nat.le_of_ble_eq_true rfl, Nat.le_of_ble_eq_true rfl⟩) 0 3 rfl rfl rfl [0, 1] [2, 3, 4, 5] [4, 5, 0, 1, 2, 3] rfl rfl (by decide) (fun _ => rfl) rfl hl.1 rfl (Nat.le_of_ble_eq_true rfl) ⟨Nat.le_of_ble_eq_true rfl, Nat.le_of_ble_eq_true rfl⟩ dX4_take_90 (fun r13 u14 H locs w90 hW => ?_)
    have hW : Wd D A s.heap H locs (wT cI cZ tq ta tg ++ (wB cI (ta 3) bf ++ (wC cI cZ cq ca (sF (sF cg 0 ((nn - 2) / 4)) 1 (dgt ((fun z => bf (ii + z)) 1))) (sF (sF (sF cF 2 (sF ((cpN x (tK (fun z => bf (ii + z))) (cF 2))) x (tK (fun z => bf (ii + z)) x))) 3 (sF ((cpN x (tL (fun z => bf (ii + z))) (cF 3))) x (tL (fun z => bf (ii + z)) x))) 4 (cpN x (tM (fun z => bf (ii + z))) (cF 4)))))) := hW
    replace w90 : r13 = bf (((ii + 2) + (x * 4)) + 3) := w90
    subst w90
    refine i_as0 (b := bf (ii + (2 + 4 * x + 3))) (congrArg bf (by omega)) ?_
    refine x_bipush (v := nI 48) X dX4_take_93 (by decide) ?_
    refine x_isub (v := nI (tM (fun z => bf (ii + z)) x)) X dX4_take_95 (dgt_sub hx3 (by decide)) ?_
    refine x_callVv X hW (As := [.int (nI x), .int (nI 2), .int (nI (tM (fun z => bf (ii + z)) x))]) (rest := []) (wz := fun u => (wT cI cZ tq ta tg ++ (wB cI (ta 3) bf ++ (wC cI cZ cq ca (sF (sF cg 0 ((nn - 2) / 4)) 1 (dgt ((fun z => bf (ii + z)) 1))) (sF (sF (sF cF 2 (sF ((cpN x (tK (fun z => bf (ii + z))) (cF 2))) x (tK (fun z => bf (ii + z)) x))) 3 (sF ((cpN x (tL (fun z => bf (ii + z))) (cF 3))) x (tL (fun z => bf (ii + z)) x))) 4 (sF ((cpN x (tM (fun z => bf (ii + z))) (cF 4))) x (tM (fun z => bf (ii + z)) x))))))) (c_X0_become2 l D cI cZ cO cq ca (sF (sF cg 0 ((nn - 2) / 4)) 1 (dgt ((fun z => bf (ii + z)) 1))) (sF (sF (sF cF 2 (sF ((cpN x (tK (fun z => bf (ii + z))) (cF 2))) x (tK (fun z => bf (ii + z)) x))) 3 (sF ((cpN x (tL (fun z => bf (ii + z))) (cF 3))) x (tL (fun z => bf (ii + z)) x))) 4 (cpN x (tM (fun z => bf (ii + z))) (cF 4))) _ x (tM (fun z => bf (ii + z)) x) (show x < ((nn - 2) / 4) from (by omega)) (show ((nn - 2) / 4) ≤ 4 from (by omega))) (cwV 3 X.2.2.2.2.2.1 gX4_take_X0_become rfl rfl rfl (by decide +kernel) ⟨Nat.le_of_ble_eq_true rfl, Nat.le_of_ble_eq_true rfl⟩) 2 0 rfl rfl rfl [2, 3, 4, 5] [0, 1] [0, 1, 2, 3, 4, 5] rfl rfl (by decide) (fun _ => rfl) rfl hl.1 rfl (Nat.le_of_ble_eq_true rfl) ⟨Nat.le_of_ble_eq_true rfl, Nat.le_of_ble_eq_true rfl⟩ dX4_take_96 (fun u16 H locs w96 hW => ?_)
    have hW : Wd D A s.heap H locs (wT cI cZ tq ta tg ++ (wB cI (ta 3) bf ++ (wC cI cZ cq ca (sF (sF cg 0 ((nn - 2) / 4)) 1 (dgt ((fun z => bf (ii + z)) 1))) (sF (sF (sF cF 2 (sF ((cpN x (tK (fun z => bf (ii + z))) (cF 2))) x (tK (fun z => bf (ii + z)) x))) 3 (sF ((cpN x (tL (fun z => bf (ii + z))) (cF 3))) x (tL (fun z => bf (ii + z)) x))) 4 (sF ((cpN x (tM (fun z => bf (ii + z))) (cF 4))) x (tM (fun z => bf (ii + z)) x)))))) := hW
    replace w96 : True := w96
    refine x_iinc X [(4, .int (nI (x + 1))), (5, .int (nI ((ii + 2) + (x * 4)))), (0, .ref tq), (1, .int (nI ii)), (2, .int (nI nn)), (3, .ref cq)] (k := 1) dX4_take_99 hl rfl (nI_inc1 x) (by decide) rfl (fun ls hl => ?_)
    refine x_goto X 26 dX4_take_102 (by decide) ?_
    exact ih26 (x + 1) _ _ _ ⟨(show (x + 1) ≤ (nn - 2) / 4 from (by omega)), (hW.eq (Eq.trans (Eq.trans (congrArg (fun z => (wT cI cZ tq ta tg ++ (wB cI (ta 3) bf ++ (wC cI cZ cq ca (sF (sF cg 0 ((nn - 2) / 4)) 1 (dgt ((fun z => bf (ii + z)) 1))) (sF (sF (sF cF 2 z) 3 (sF ((cpN x (tL (fun z => bf (ii + z))) (cF 3))) x (tL (fun z => bf (ii + z)) x))) 4 (sF ((cpN x (tM (fun z => bf (ii + z))) (cF 4))) x (tM (fun z => bf (ii + z)) x))))))) (show (sF ((cpN x (tK (fun z => bf (ii + z))) (cF 2))) x (tK (fun z => bf (ii + z)) x)) = (cpN (x + 1) (tK (fun z => bf (ii + z))) (cF 2)) from by first | rw [cpN_s] | rw [cpN_0])) (congrArg (fun z => (wT cI cZ tq ta tg ++ (wB cI (ta 3) bf ++ (wC cI cZ cq ca (sF (sF cg 0 ((nn - 2) / 4)) 1 (dgt ((fun z => bf (ii + z)) 1))) (sF (sF (sF cF 2 (cpN (x + 1) (tK (fun z => bf (ii + z))) (cF 2))) 3 z) 4 (sF ((cpN x (tM (fun z => bf (ii + z))) (cF 4))) x (tM (fun z => bf (ii + z)) x))))))) (show (sF ((cpN x (tL (fun z => bf (ii + z))) (cF 3))) x (tL (fun z => bf (ii + z)) x)) = (cpN (x + 1) (tL (fun z => bf (ii + z))) (cF 3)) from by first | rw [cpN_s] | rw [cpN_0]))) (congrArg (fun z => (wT cI cZ tq ta tg ++ (wB cI (ta 3) bf ++ (wC cI cZ cq ca (sF (sF cg 0 ((nn - 2) / 4)) 1 (dgt ((fun z => bf (ii + z)) 1))) (sF (sF (sF cF 2 (cpN (x + 1) (tK (fun z => bf (ii + z))) (cF 2))) 3 (cpN (x + 1) (tL (fun z => bf (ii + z))) (cF 3))) 4 z))))) (show (sF ((cpN x (tM (fun z => bf (ii + z))) (cF 4))) x (tM (fun z => bf (ii + z)) x)) = (cpN (x + 1) (tM (fun z => bf (ii + z))) (cF 4)) from by first | rw [cpN_s] | rw [cpN_0])))), lv_sub hl [0, 2, 3, 4, 5] rfl⟩ (by omega)
set_option maxHeartbeats 4000000 in
set_option maxRecDepth 100000 in
theorem c_J6_bitCount_0f7a4 (l : Launch) (D : va_G) (cI cZ cO : ClassId)  (sz : Nat) (kq : Nat)  (hkq : kq < 256) : Met l yJ6_bitCount_0f7a4 wsJ6_bitCount_0f7a4 ({ frames := 0, cells := 0, slots := 0, locals := 0 }) (va_Pc [.int (nI kq)] (st_W D (ty3 cI cZ cO) ([] : va_W) sz)) (va_Qi (fun (rr : Int32) (u : Unit) => rr = nI (bcnt kq 8)) (fun u t => at_W D (ty3 cI cZ cO) (va_A ([] : va_W) sz) ([] : va_W) t) (va_A ([] : va_W) sz)) 0 0 (va_A ([] : va_W) sz) := by
  refine Met.goi (cc := cJ6_bitCount_0f7a4) (maxL := 1) (ret := (some .int)) (by decide) rfl (Nat.le_of_ble_eq_true rfl) (fun p e s m below meth c A ls X hW hl => ?_)
  have hl : lv_has ls 1 [(0, .int (nI kq))] := hl
  refine x_iload_n X dJ6_bitCount_0f7a4_0 rfl (lv_at hl 0 rfl) ?_
  refine x_iload_n X dJ6_bitCount_0f7a4_1 rfl (lv_at hl 0 rfl) ?_
  refine x_iconst (v := nI 1) X dJ6_bitCount_0f7a4_2 (by decide) ?_
  refine x_iushr (v := ((nI kq).toUInt32 >>> ((nI 1).toUInt32 &&& Int32.toUInt32 31)).toInt32) X dJ6_bitCount_0f7a4_3 rfl ?_
  refine x_ldcw (v := (1431655765)) X (List.mem_of_getElem? (i := 1) rfl) dJ6_bitCount_0f7a4_4 ?_
  refine i_as0 (b := nI 1431655765) (by decide) ?_
  refine x_iand (v := (((nI kq).toUInt32 >>> ((nI 1).toUInt32 &&& Int32.toUInt32 31)).toInt32) &&& (nI 1431655765)) X dJ6_bitCount_0f7a4_7 rfl ?_
  refine x_isub (v := (nI kq) - ((((nI kq).toUInt32 >>> ((nI 1).toUInt32 &&& Int32.toUInt32 31)).toInt32) &&& (nI 1431655765))) X dJ6_bitCount_0f7a4_8 rfl ?_
  refine i_as0 (b := bcA (nI kq)) rfl ?_
  refine x_istore_n X [(0, .int (bcA (nI kq)))] dJ6_bitCount_0f7a4_9 rfl hl (by decide) rfl (fun ls hl => ?_)
  refine x_iload_n X dJ6_bitCount_0f7a4_10 rfl (lv_at hl 0 rfl) ?_
  refine x_ldcw (v := (858993459)) X (List.mem_of_getElem? (i := 2) rfl) dJ6_bitCount_0f7a4_11 ?_
  refine i_as0 (b := nI 858993459) (by decide) ?_
  refine x_iand (v := (bcA (nI kq)) &&& (nI 858993459)) X dJ6_bitCount_0f7a4_14 rfl ?_
  refine x_iload_n X dJ6_bitCount_0f7a4_15 rfl (lv_at hl 0 rfl) ?_
  refine x_iconst (v := nI 2) X dJ6_bitCount_0f7a4_16 (by decide) ?_
  refine x_iushr (v := ((bcA (nI kq)).toUInt32 >>> ((nI 2).toUInt32 &&& Int32.toUInt32 31)).toInt32) X dJ6_bitCount_0f7a4_17 rfl ?_
  refine x_ldcw (v := (858993459)) X (List.mem_of_getElem? (i := 2) rfl) dJ6_bitCount_0f7a4_18 ?_
  refine i_as0 (b := nI 858993459) (by decide) ?_
  refine x_iand (v := (((bcA (nI kq)).toUInt32 >>> ((nI 2).toUInt32 &&& Int32.toUInt32 31)).toInt32) &&& (nI 858993459)) X dJ6_bitCount_0f7a4_21 rfl ?_
  refine x_iadd (v := ((bcA (nI kq)) &&& (nI 858993459)) + ((((bcA (nI kq)).toUInt32 >>> ((nI 2).toUInt32 &&& Int32.toUInt32 31)).toInt32) &&& (nI 858993459))) X dJ6_bitCount_0f7a4_22 rfl ?_
  refine i_as0 (b := bcB (bcA (nI kq))) rfl ?_
  refine x_istore_n X [(0, .int (bcB (bcA (nI kq))))] dJ6_bitCount_0f7a4_23 rfl hl (by decide) rfl (fun ls hl => ?_)
  refine x_iload_n X dJ6_bitCount_0f7a4_24 rfl (lv_at hl 0 rfl) ?_
  refine x_iload_n X dJ6_bitCount_0f7a4_25 rfl (lv_at hl 0 rfl) ?_
  refine x_iconst (v := nI 4) X dJ6_bitCount_0f7a4_26 (by decide) ?_
  refine x_iushr (v := ((bcB (bcA (nI kq))).toUInt32 >>> ((nI 4).toUInt32 &&& Int32.toUInt32 31)).toInt32) X dJ6_bitCount_0f7a4_27 rfl ?_
  refine x_iadd (v := bcB (bcA (nI kq)) + (((bcB (bcA (nI kq))).toUInt32 >>> ((nI 4).toUInt32 &&& Int32.toUInt32 31)).toInt32)) X dJ6_bitCount_0f7a4_28 rfl ?_
  refine x_ldcw (v := (252645135)) X (List.mem_of_getElem? (i := 3) rfl) dJ6_bitCount_0f7a4_29 ?_
  refine i_as0 (b := nI 252645135) (by decide) ?_
  refine x_iand (v := (bcB (bcA (nI kq)) + (((bcB (bcA (nI kq))).toUInt32 >>> ((nI 4).toUInt32 &&& Int32.toUInt32 31)).toInt32)) &&& (nI 252645135)) X dJ6_bitCount_0f7a4_32 rfl ?_
  refine i_as0 (b := bcC (bcB (bcA (nI kq)))) rfl ?_
  refine x_istore_n X [(0, .int (bcC (bcB (bcA (nI kq)))))] dJ6_bitCount_0f7a4_33 rfl hl (by decide) rfl (fun ls hl => ?_)
  refine x_iload_n X dJ6_bitCount_0f7a4_34 rfl (lv_at hl 0 rfl) ?_
  refine x_iload_n X dJ6_bitCount_0f7a4_35 rfl (lv_at hl 0 rfl) ?_
  refine x_bipush (v := nI 8) X dJ6_bitCount_0f7a4_36 (by decide) ?_
  refine x_iushr (v := ((bcC (bcB (bcA (nI kq)))).toUInt32 >>> ((nI 8).toUInt32 &&& Int32.toUInt32 31)).toInt32) X dJ6_bitCount_0f7a4_38 rfl ?_
  refine x_iadd (v := bcC (bcB (bcA (nI kq))) + (((bcC (bcB (bcA (nI kq)))).toUInt32 >>> ((nI 8).toUInt32 &&& Int32.toUInt32 31)).toInt32)) X dJ6_bitCount_0f7a4_39 rfl ?_
  refine i_as0 (b := bcD (bcC (bcB (bcA (nI kq))))) rfl ?_
  refine x_istore_n X [(0, .int (bcD (bcC (bcB (bcA (nI kq))))))] dJ6_bitCount_0f7a4_40 rfl hl (by decide) rfl (fun ls hl => ?_)
  refine x_iload_n X dJ6_bitCount_0f7a4_41 rfl (lv_at hl 0 rfl) ?_
  refine x_iload_n X dJ6_bitCount_0f7a4_42 rfl (lv_at hl 0 rfl) ?_
  refine x_bipush (v := nI 16) X dJ6_bitCount_0f7a4_43 (by decide) ?_
  refine x_iushr (v := ((bcD (bcC (bcB (bcA (nI kq))))).toUInt32 >>> ((nI 16).toUInt32 &&& Int32.toUInt32 31)).toInt32) X dJ6_bitCount_0f7a4_45 rfl ?_
  refine x_iadd (v := bcD (bcC (bcB (bcA (nI kq)))) + (((bcD (bcC (bcB (bcA (nI kq))))).toUInt32 >>> ((nI 16).toUInt32 &&& Int32.toUInt32 31)).toInt32)) X dJ6_bitCount_0f7a4_46 rfl ?_
  refine i_as0 (b := bcE (bcD (bcC (bcB (bcA (nI kq)))))) rfl ?_
  refine x_istore_n X [(0, .int (bcE (bcD (bcC (bcB (bcA (nI kq)))))))] dJ6_bitCount_0f7a4_47 rfl hl (by decide) rfl (fun ls hl => ?_)
  refine x_iload_n X dJ6_bitCount_0f7a4_48 rfl (lv_at hl 0 rfl) ?_
  refine x_bipush (v := nI 63) X dJ6_bitCount_0f7a4_49 (by decide) ?_
  refine x_iand (v := (bcE (bcD (bcC (bcB (bcA (nI kq)))))) &&& (nI 63)) X dJ6_bitCount_0f7a4_51 rfl ?_
  exact x_iret X hW rfl () ((bc_all kq hkq)) rfl dJ6_bitCount_0f7a4_52
