set_option maxHeartbeats 4000000 in
set_option maxRecDepth 100000 in
theorem law_copy_0_0 {p : Program} {e : Env} {s : State} {m : MethodId} {below : List Frame} {meth : Method} {c : Code} {D : va_G} {cI cZ cO : ClassId} {A : Nat → Prop} {Q : State → Prop} {l : Launch} {b L xq mq i : Nat} {xs : Nat → Int32} {H : Heap} {locs : List Loc} {ls : Array Slot} (X : Fx p s m #[Value.ref b] meth c code 4 ret wsL_law RL D (ty3 cI cZ cO) A) (hX : va_X b L xs s s.heap) (hbl : b < s.heap.size) (hbA : ¬ A b) (hL : L ≤ 3072) (hi : i + 6 ≤ L) (hI : lw_I D cI cZ cO A s.heap xq mq H locs) (hl : lv_has ls 4 [(3, .int (nI i)), (2, .ref mq), (1, .ref xq), (0, .ref b)]) (hkj : xs (i + 1) = nI 0) (hoj : xs (i + 3) = nI 0) (next : ∀ (H : Heap) (locs : List Loc) (ls : Array Slot), lw_I D cI cZ cO A s.heap xq mq H locs → lv_has ls 4 [(3, .int (nI i)), (2, .ref mq), (1, .ref xq), (0, .ref b)] → W p l e room_1 s m #[Value.ref b] below meth c H locs 600000 7302250 Q (F0 m 1045 ls [])) : W p l e room_1 s m #[Value.ref b] below meth c H locs 600000 7302250 Q (F0 m 854 ls []) := by
  obtain ⟨xa, xg, xh, ys, ca, cg, cF, da, dg, dF, ra, rg, rF, rE, za, zg, zh, zk, zF, ma, mg, mh, mF, mE, ta, tg, tf, hW, hRC, hRR, hRD, hSK, hRT, hRX, hRM⟩ := hI
  have hW : Wd D A s.heap H locs (wX cI cZ xq xa xg xh ++ (wA cO (xa 0) ys ++ (wC cI cZ (xa 1) ca cg cF ++ (wC cI cZ (xa 2) da dg dF ++ (wR cI cZ (xa 3) ra rg rF rE ++ (wS cI cZ (xa 4) za zg zh zk zF ++ (wT cI cZ (ys 0) (ta 0) (tg 0) ++ (wB cI ((ta 0) 3) (tf 0) ++ (wT cI cZ (ys 1) (ta 1) (tg 1) ++ (wB cI ((ta 1) 3) (tf 1) ++ (wT cI cZ (ys 2) (ta 2) (tg 2) ++ (wB cI ((ta 2) 3) (tf 2) ++ (wT cI cZ (ys 3) (ta 3) (tg 3) ++ (wB cI ((ta 3) 3) (tf 3) ++ (wM cI cZ mq ma mg mh mF mE))))))))))))))) := hW
  obtain ⟨h02, hn, hrn, hk, hlv, hm, e2, e1, e3, e4, e5⟩ := id hRC
  obtain ⟨hrc, hro, hra, hrd, f1, f2, f3, f4⟩ := id hRR
  obtain ⟨hdn, hdr, hdk, hdl, hdm⟩ := id hRD
  obtain ⟨ht0, ht1, ht2, htl, hts, htc⟩ := id hRT
  refine x_aload_n X dL_law_854 rfl (lv_at hl 2 rfl) ?_
  refine x_aload_n X dL_law_855 rfl (lv_at hl 3 rfl) ?_
  refine x_iload_n X dL_law_856 rfl (lv_at hl 0 rfl) ?_
  refine x_iconst (v := nI 1) X dL_law_857 (by decide) ?_
  refine n_iadd X dL_law_858 ?_
  refine x_sld X hW hX hbl hbA (j := i + 1) (by omega) (by omega) dL_law_859 ?_
  refine x_aload_n X dL_law_860 rfl (lv_at hl 3 rfl) ?_
  refine x_iload_n X dL_law_861 rfl (lv_at hl 0 rfl) ?_
  refine x_iconst (v := nI 2) X dL_law_862 (by decide) ?_
  refine n_iadd X dL_law_863 ?_
  refine x_sld X hW hX hbl hbA (j := i + 2) (by omega) (by omega) dL_law_864 ?_
  refine x_aload_n X dL_law_865 rfl (lv_at hl 3 rfl) ?_
  refine x_iload_n X dL_law_866 rfl (lv_at hl 0 rfl) ?_
  refine x_iconst (v := nI 3) X dL_law_867 (by decide) ?_
  refine n_iadd X dL_law_868 ?_
  refine x_sld X hW hX hbl hbA (j := i + 3) (by omega) (by omega) dL_law_869 ?_
  refine x_aload_n X dL_law_870 rfl (lv_at hl 3 rfl) ?_
  refine x_iload_n X dL_law_871 rfl (lv_at hl 0 rfl) ?_
  refine x_iconst (v := nI 4) X dL_law_872 (by decide) ?_
  refine n_iadd X dL_law_873 ?_
  refine x_sld X hW hX hbl hbA (j := i + 4) (by omega) (by omega) dL_law_874 ?_
  refine x_aload_n X dL_law_875 rfl (lv_at hl 3 rfl) ?_
  refine x_iload_n X dL_law_876 rfl (lv_at hl 0 rfl) ?_
  refine x_iconst (v := nI 5) X dL_law_877 (by decide) ?_
  refine n_iadd X dL_law_878 ?_
  refine x_sld X hW hX hbl hbA (j := i + 5) (by omega) (by omega) dL_law_879 ?_
  refine x_pcallVi X hW (As := [.int (xs (i + 1)), .int (xs (i + 2)), .int (xs (i + 3)), .int (xs (i + 4)), .int (xs (i + 5))]) (rest := []) (wz := fun u => (wX cI cZ xq xa (sF xg 6 (fCopy (fun z => tg z 0) (mF 26) (fun z => tg z 2) (xs (i + 1)) (xs (i + 2)) (xs (i + 3)) (xs (i + 4)) (xs (i + 5)))) xh ++ (wA cO (xa 0) ys ++ (wC cI cZ (xa 1) ca cg cF ++ (wC cI cZ (xa 2) da dg dF ++ (wR cI cZ (xa 3) ra rg rF rE ++ (wS cI cZ (xa 4) za zg zh zk zF ++ (wT cI cZ (ys 0) (ta 0) (tg 0) ++ (wB cI ((ta 0) 3) (onR (xs (i + 1)) 4 (tf 0) (fun _ => onR (xs (i + 3)) 4 (tf 0) (fun _ => if copF (fun z => tg z 0) (mF 26) (fun z => tg z 2) 0 0 (xs (i + 2)) (xs (i + 4)) (xs (i + 5)) = 0 then mv (tf 0) (tf 0) (xs (i + 4)).toNatClampNeg (xs (i + 2)).toNatClampNeg (xs (i + 5)).toNatClampNeg else (tf 0)))) ++ (wT cI cZ (ys 1) (ta 1) (tg 1) ++ (wB cI ((ta 1) 3) (tf 1) ++ (wT cI cZ (ys 2) (ta 2) (tg 2) ++ (wB cI ((ta 2) 3) (tf 2) ++ (wT cI cZ (ys 3) (ta 3) (tg 3) ++ (wB cI ((ta 3) 3) (tf 3) ++ (wM cI cZ mq ma mg mh mF mE)))))))))))))))) (wC cI cZ (xa 1) ca cg cF ++ (wC cI cZ (xa 2) da dg dF ++ (wR cI cZ (xa 3) ra rg rF rE ++ (wS cI cZ (xa 4) za zg zh zk zF ++ (wT cI cZ (ys 1) (ta 1) (tg 1) ++ (wB cI ((ta 1) 3) (tf 1) ++ (wT cI cZ (ys 2) (ta 2) (tg 2) ++ (wB cI ((ta 2) 3) (tf 2) ++ (wT cI cZ (ys 3) (ta 3) (tg 3) ++ (wB cI ((ta 3) 3) (tf 3) ++ (wM cI cZ mq ma mg mh mF mE))))))))))) (c_X5_copyS l D cI cZ cO xq xa xg xh ys (ta 0) (tg 0) (tf 0) _ (xs (i + 1)) (xs (i + 2)) (xs (i + 3)) (xs (i + 4)) (xs (i + 5)) 0 (fun z => tg z 0) (mF 26) (fun z => tg z 2) (show 0 < 4 from (by decide)) (show ((tg 0) 2) ≤ 60 from ht2 0) (show ((tg 0) 0) ≤ 1 from ht0 0) (show ((tg 0) 1) ≤ 2 from ht1 0) (show (fun z => tg z 0) 0 = ((tg 0) 0) from rfl) (show (mF 26) 0 = ((tg 0) 1) from htl 0) (show (fun z => tg z 2) 0 = ((tg 0) 2) from rfl) (show (xs (i + 1)) = nI 0 from hkj) (show (xs (i + 3)) = nI 0 from hoj)) (cwV 5 X.2.2.2.2.2.1 gL_law_X5_copy rfl rfl rfl (by decide +kernel) ⟨Nat.le_of_ble_eq_true rfl, Nat.le_of_ble_eq_true rfl⟩) 4 rfl rfl rfl (apn (mfr _ _) (apn (mfr _ _) (apn (mf (mf (mf (mf (mfr _ _))))) (mf (mf (mf (mf (mfr _ _)))))))) (fun u => (apn (mfr _ _) (apn (mfr _ _) (apn (mf (mf (mf (mf (mfr _ _))))) (mf (mf (mf (mf (mfr _ _))))))))) rfl hl.1 rfl (Nat.le_of_ble_eq_true rfl) ⟨Nat.le_of_ble_eq_true rfl, Nat.le_of_ble_eq_true rfl⟩ dL_law_880 (fun r1 u2 H locs w880 hW => ?_)
  have hW : Wd D A s.heap H locs (wX cI cZ xq xa (sF xg 6 (fCopy (fun z => tg z 0) (mF 26) (fun z => tg z 2) (xs (i + 1)) (xs (i + 2)) (xs (i + 3)) (xs (i + 4)) (xs (i + 5)))) xh ++ (wA cO (xa 0) ys ++ (wC cI cZ (xa 1) ca cg cF ++ (wC cI cZ (xa 2) da dg dF ++ (wR cI cZ (xa 3) ra rg rF rE ++ (wS cI cZ (xa 4) za zg zh zk zF ++ (wT cI cZ (ys 0) (ta 0) (tg 0) ++ (wB cI ((ta 0) 3) (onR (xs (i + 1)) 4 (tf 0) (fun _ => onR (xs (i + 3)) 4 (tf 0) (fun _ => if copF (fun z => tg z 0) (mF 26) (fun z => tg z 2) 0 0 (xs (i + 2)) (xs (i + 4)) (xs (i + 5)) = 0 then mv (tf 0) (tf 0) (xs (i + 4)).toNatClampNeg (xs (i + 2)).toNatClampNeg (xs (i + 5)).toNatClampNeg else (tf 0)))) ++ (wT cI cZ (ys 1) (ta 1) (tg 1) ++ (wB cI ((ta 1) 3) (tf 1) ++ (wT cI cZ (ys 2) (ta 2) (tg 2) ++ (wB cI ((ta 2) 3) (tf 2) ++ (wT cI cZ (ys 3) (ta 3) (tg 3) ++ (wB cI ((ta 3) 3) (tf 3) ++ (wM cI cZ mq ma mg mh mF mE))))))))))))))) := hW
  replace w880 : r1 = aCopy (fun z => tg z 0) (mF 26) (fun z => tg z 2) (xs (i + 1)) (xs (i + 2)) (xs (i + 3)) (xs (i + 4)) (xs (i + 5)) := w880
  subst w880
  refine x_aload_n X dL_law_883 rfl (lv_at hl 1 rfl) ?_
  refine x_aload_n X dL_law_884 rfl (lv_at hl 3 rfl) ?_
  refine x_iload_n X dL_law_885 rfl (lv_at hl 0 rfl) ?_
  refine x_iconst (v := nI 1) X dL_law_886 (by decide) ?_
  refine n_iadd X dL_law_887 ?_
  refine x_sld X hW hX hbl hbA (j := i + 1) (by omega) (by omega) dL_law_888 ?_
  refine x_aload_n X dL_law_889 rfl (lv_at hl 3 rfl) ?_
  refine x_iload_n X dL_law_890 rfl (lv_at hl 0 rfl) ?_
  refine x_iconst (v := nI 2) X dL_law_891 (by decide) ?_
  refine n_iadd X dL_law_892 ?_
  refine x_sld X hW hX hbl hbA (j := i + 2) (by omega) (by omega) dL_law_893 ?_
  refine x_aload_n X dL_law_894 rfl (lv_at hl 3 rfl) ?_
  refine x_iload_n X dL_law_895 rfl (lv_at hl 0 rfl) ?_
  refine x_iconst (v := nI 3) X dL_law_896 (by decide) ?_
  refine n_iadd X dL_law_897 ?_
  refine x_sld X hW hX hbl hbA (j := i + 3) (by omega) (by omega) dL_law_898 ?_
  refine x_aload_n X dL_law_899 rfl (lv_at hl 3 rfl) ?_
  refine x_iload_n X dL_law_900 rfl (lv_at hl 0 rfl) ?_
  refine x_iconst (v := nI 4) X dL_law_901 (by decide) ?_
  refine n_iadd X dL_law_902 ?_
  refine x_sld X hW hX hbl hbA (j := i + 4) (by omega) (by omega) dL_law_903 ?_
  refine x_aload_n X dL_law_904 rfl (lv_at hl 3 rfl) ?_
  refine x_iload_n X dL_law_905 rfl (lv_at hl 0 rfl) ?_
  refine x_iconst (v := nI 5) X dL_law_906 (by decide) ?_
  refine n_iadd X dL_law_907 ?_
  refine x_sld X hW hX hbl hbA (j := i + 5) (by omega) (by omega) dL_law_908 ?_
  refine x_pcallVi X hW (As := [.int (xs (i + 1)), .int (xs (i + 2)), .int (xs (i + 3)), .int (xs (i + 4)), .int (xs (i + 5))]) (rest := [.int (aCopy (fun z => tg z 0) (mF 26) (fun z => tg z 2) (xs (i + 1)) (xs (i + 2)) (xs (i + 3)) (xs (i + 4)) (xs (i + 5)))]) (wz := fun u => (wX cI cZ xq xa (sF xg 6 (fCopy (fun z => tg z 0) (mF 26) (fun z => tg z 2) (xs (i + 1)) (xs (i + 2)) (xs (i + 3)) (xs (i + 4)) (xs (i + 5)))) xh ++ (wA cO (xa 0) ys ++ (wC cI cZ (xa 1) ca cg cF ++ (wC cI cZ (xa 2) da dg dF ++ (wR cI cZ (xa 3) ra rg rF rE ++ (wS cI cZ (xa 4) za zg zh zk zF ++ (wT cI cZ (ys 0) (ta 0) (tg 0) ++ (wB cI ((ta 0) 3) (onR (xs (i + 1)) 4 (tf 0) (fun _ => onR (xs (i + 3)) 4 (tf 0) (fun _ => if copF (fun z => tg z 0) (mF 26) (fun z => tg z 2) 0 0 (xs (i + 2)) (xs (i + 4)) (xs (i + 5)) = 0 then mv (tf 0) (tf 0) (xs (i + 4)).toNatClampNeg (xs (i + 2)).toNatClampNeg (xs (i + 5)).toNatClampNeg else (tf 0)))) ++ (wT cI cZ (ys 1) (ta 1) (tg 1) ++ (wB cI ((ta 1) 3) (tf 1) ++ (wT cI cZ (ys 2) (ta 2) (tg 2) ++ (wB cI ((ta 2) 3) (tf 2) ++ (wT cI cZ (ys 3) (ta 3) (tg 3) ++ (wB cI ((ta 3) 3) (tf 3) ++ (wM cI cZ mq ma (sF mg 0 (fCopy (fun z => tg z 0) ((mF 26)) (fun z => tg z 2) (xs (i + 1)) (xs (i + 2)) (xs (i + 3)) (xs (i + 4)) (xs (i + 5)))) mh mF (sF (sF mE 27 (sCopy (fun z => tg z 0) ((mF 26)) (fun z => tg z 2) (xs (i + 1)) (xs (i + 2)) (xs (i + 3)) (xs (i + 4)) (xs (i + 5)) ((mE 27)))) 28 u))))))))))))))))) (wX cI cZ xq xa (sF xg 6 (fCopy (fun z => tg z 0) (mF 26) (fun z => tg z 2) (xs (i + 1)) (xs (i + 2)) (xs (i + 3)) (xs (i + 4)) (xs (i + 5)))) xh ++ (wA cO (xa 0) ys ++ (wC cI cZ (xa 1) ca cg cF ++ (wC cI cZ (xa 2) da dg dF ++ (wR cI cZ (xa 3) ra rg rF rE ++ (wS cI cZ (xa 4) za zg zh zk zF ++ (wT cI cZ (ys 0) (ta 0) (tg 0) ++ (wB cI ((ta 0) 3) (onR (xs (i + 1)) 4 (tf 0) (fun _ => onR (xs (i + 3)) 4 (tf 0) (fun _ => if copF (fun z => tg z 0) (mF 26) (fun z => tg z 2) 0 0 (xs (i + 2)) (xs (i + 4)) (xs (i + 5)) = 0 then mv (tf 0) (tf 0) (xs (i + 4)).toNatClampNeg (xs (i + 2)).toNatClampNeg (xs (i + 5)).toNatClampNeg else (tf 0)))) ++ (wT cI cZ (ys 1) (ta 1) (tg 1) ++ (wB cI ((ta 1) 3) (tf 1) ++ (wT cI cZ (ys 2) (ta 2) (tg 2) ++ (wB cI ((ta 2) 3) (tf 2) ++ (wT cI cZ (ys 3) (ta 3) (tg 3) ++ (wB cI ((ta 3) 3) (tf 3))))))))))))))) (c_X6_copy l D cI cZ cO mq ma mg mh mF mE _ (xs (i + 1)) (xs (i + 2)) (xs (i + 3)) (xs (i + 4)) (xs (i + 5)) (fun z => tg z 0) (fun z => tg z 2) (show ∀ z, z < 4 → ((fun z => tg z 0) z = 0 ∧ (mE 25) z = (-1 : Int32)) ∨ ((fun z => tg z 0) z = 1 ∧ (mE 25) z = nI ((fun z => tg z 2) z)) from hts) (show ∀ z0, (fun z => tg z 2) z0 ≤ 60 from ht2) (show ∀ z0, (mF 26) z0 ≤ 2 from (fun z => by rw [htl]; exact ht1 z))) (cwV 5 X.2.2.2.2.2.1 gL_law_X6_copy rfl rfl rfl (by decide +kernel) ⟨Nat.le_of_ble_eq_true rfl, Nat.le_of_ble_eq_true rfl⟩) 5 rfl rfl rfl (ap1 (mf (mf (mf (mf (mf (mf (mf (mf (mf (mf (mf (mf (mf mf0)))))))))))))) (fun u => (ap1 (mf (mf (mf (mf (mf (mf (mf (mf (mf (mf (mf (mf (mf mf0))))))))))))))) rfl hl.1 rfl (Nat.le_of_ble_eq_true rfl) ⟨Nat.le_of_ble_eq_true rfl, Nat.le_of_ble_eq_true rfl⟩ dL_law_909 (fun r4 u5 H locs w909 hW => ?_)
  obtain ⟨o1_3, o1_3e⟩ : ∃ z, z = u5 := ⟨_, rfl⟩
  subst o1_3e
  have hW : Wd D A s.heap H locs (wX cI cZ xq xa (sF xg 6 (fCopy (fun z => tg z 0) (mF 26) (fun z => tg z 2) (xs (i + 1)) (xs (i + 2)) (xs (i + 3)) (xs (i + 4)) (xs (i + 5)))) xh ++ (wA cO (xa 0) ys ++ (wC cI cZ (xa 1) ca cg cF ++ (wC cI cZ (xa 2) da dg dF ++ (wR cI cZ (xa 3) ra rg rF rE ++ (wS cI cZ (xa 4) za zg zh zk zF ++ (wT cI cZ (ys 0) (ta 0) (tg 0) ++ (wB cI ((ta 0) 3) (onR (xs (i + 1)) 4 (tf 0) (fun _ => onR (xs (i + 3)) 4 (tf 0) (fun _ => if copF (fun z => tg z 0) (mF 26) (fun z => tg z 2) 0 0 (xs (i + 2)) (xs (i + 4)) (xs (i + 5)) = 0 then mv (tf 0) (tf 0) (xs (i + 4)).toNatClampNeg (xs (i + 2)).toNatClampNeg (xs (i + 5)).toNatClampNeg else (tf 0)))) ++ (wT cI cZ (ys 1) (ta 1) (tg 1) ++ (wB cI ((ta 1) 3) (tf 1) ++ (wT cI cZ (ys 2) (ta 2) (tg 2) ++ (wB cI ((ta 2) 3) (tf 2) ++ (wT cI cZ (ys 3) (ta 3) (tg 3) ++ (wB cI ((ta 3) 3) (tf 3) ++ (wM cI cZ mq ma (sF mg 0 (fCopy (fun z => tg z 0) ((mF 26)) (fun z => tg z 2) (xs (i + 1)) (xs (i + 2)) (xs (i + 3)) (xs (i + 4)) (xs (i + 5)))) mh mF (sF (sF mE 27 (sCopy (fun z => tg z 0) ((mF 26)) (fun z => tg z 2) (xs (i + 1)) (xs (i + 2)) (xs (i + 3)) (xs (i + 4)) (xs (i + 5)) ((mE 27)))) 28 o1_3)))))))))))))))) := hW
  replace w909 : r4 = aCopy (fun z => tg z 0) ((mF 26)) (fun z => tg z 2) (xs (i + 1)) (xs (i + 2)) (xs (i + 3)) (xs (i + 4)) (xs (i + 5)) := w909
  subst w909
  refine x_icmp_eq X 1045 dL_law_912 (by decide) (fun c912 => ?_) (fun c912 => by exact absurd (by (try rw [e1]); (try rw [e2]); (try rw [e3]); (try rw [e4]); (try rw [e5]); (try rw [f1]); (try rw [f2]); (try rw [f3]); (try rw [f4]); (try rfl)) c912)
  exact next _ _ _ ⟨xa, (sF xg 6 (fCopy (fun z => tg z 0) (mF 26) (fun z => tg z 2) (xs (i + 1)) (xs (i + 2)) (xs (i + 3)) (xs (i + 4)) (xs (i + 5)))), xh, ys, ca, cg, cF, da, dg, dF, ra, rg, rF, rE, za, zg, zh, zk, zF, ma, (sF mg 0 (fCopy (fun z => tg z 0) ((mF 26)) (fun z => tg z 2) (xs (i + 1)) (xs (i + 2)) (xs (i + 3)) (xs (i + 4)) (xs (i + 5)))), mh, mF, (sF (sF mE 27 (sCopy (fun z => tg z 0) ((mF 26)) (fun z => tg z 2) (xs (i + 1)) (xs (i + 2)) (xs (i + 3)) (xs (i + 4)) (xs (i + 5)) ((mE 27)))) 28 o1_3), ta, tg, (sF tf 0 (onR (xs (i + 1)) 4 (tf 0) (fun _ => onR (xs (i + 3)) 4 (tf 0) (fun _ => if copF (fun z => tg z 0) (mF 26) (fun z => tg z 2) 0 0 (xs (i + 2)) (xs (i + 4)) (xs (i + 5)) = 0 then mv (tf 0) (tf 0) (xs (i + 4)).toNatClampNeg (xs (i + 2)).toNatClampNeg (xs (i + 5)).toNatClampNeg else (tf 0))))), hW, hRC, hRR, hRD, hSK, RT_copy hRT (show 0 < 4 by decide) (show 0 < 4 by decide) (Or.inr hkj) (Or.inr hoj), ⟨hRX.1, rfl⟩, hRM⟩ (lv_sub hl [0, 1, 2, 3] rfl)
set_option maxHeartbeats 4000000 in
set_option maxRecDepth 100000 in
theorem law_copy_0_1 {p : Program} {e : Env} {s : State} {m : MethodId} {below : List Frame} {meth : Method} {c : Code} {D : va_G} {cI cZ cO : ClassId} {A : Nat → Prop} {Q : State → Prop} {l : Launch} {b L xq mq i : Nat} {xs : Nat → Int32} {H : Heap} {locs : List Loc} {ls : Array Slot} (X : Fx p s m #[Value.ref b] meth c code 4 ret wsL_law RL D (ty3 cI cZ cO) A) (hX : va_X b L xs s s.heap) (hbl : b < s.heap.size) (hbA : ¬ A b) (hL : L ≤ 3072) (hi : i + 6 ≤ L) (hI : lw_I D cI cZ cO A s.heap xq mq H locs) (hl : lv_has ls 4 [(3, .int (nI i)), (2, .ref mq), (1, .ref xq), (0, .ref b)]) (hkj : ¬ inR (xs (i + 1)) 4 ∨ xs (i + 1) = nI 0) (hoj : ¬ inR (xs (i + 3)) 4 ∨ xs (i + 3) = nI 1) (next : ∀ (H : Heap) (locs : List Loc) (ls : Array Slot), lw_I D cI cZ cO A s.heap xq mq H locs → lv_has ls 4 [(3, .int (nI i)), (2, .ref mq), (1, .ref xq), (0, .ref b)] → W p l e room_1 s m #[Value.ref b] below meth c H locs 600000 7302250 Q (F0 m 1045 ls [])) : W p l e room_1 s m #[Value.ref b] below meth c H locs 600000 7302250 Q (F0 m 854 ls []) := by
  obtain ⟨xa, xg, xh, ys, ca, cg, cF, da, dg, dF, ra, rg, rF, rE, za, zg, zh, zk, zF, ma, mg, mh, mF, mE, ta, tg, tf, hW, hRC, hRR, hRD, hSK, hRT, hRX, hRM⟩ := hI
  have hW : Wd D A s.heap H locs (wX cI cZ xq xa xg xh ++ (wA cO (xa 0) ys ++ (wC cI cZ (xa 1) ca cg cF ++ (wC cI cZ (xa 2) da dg dF ++ (wR cI cZ (xa 3) ra rg rF rE ++ (wS cI cZ (xa 4) za zg zh zk zF ++ (wT cI cZ (ys 0) (ta 0) (tg 0) ++ (wB cI ((ta 0) 3) (tf 0) ++ (wT cI cZ (ys 1) (ta 1) (tg 1) ++ (wB cI ((ta 1) 3) (tf 1) ++ (wT cI cZ (ys 2) (ta 2) (tg 2) ++ (wB cI ((ta 2) 3) (tf 2) ++ (wT cI cZ (ys 3) (ta 3) (tg 3) ++ (wB cI ((ta 3) 3) (tf 3) ++ (wM cI cZ mq ma mg mh mF mE))))))))))))))) := hW
  obtain ⟨h02, hn, hrn, hk, hlv, hm, e2, e1, e3, e4, e5⟩ := id hRC
  obtain ⟨hrc, hro, hra, hrd, f1, f2, f3, f4⟩ := id hRR
  obtain ⟨hdn, hdr, hdk, hdl, hdm⟩ := id hRD
  obtain ⟨ht0, ht1, ht2, htl, hts, htc⟩ := id hRT
  refine x_aload_n X dL_law_854 rfl (lv_at hl 2 rfl) ?_
  refine x_aload_n X dL_law_855 rfl (lv_at hl 3 rfl) ?_
  refine x_iload_n X dL_law_856 rfl (lv_at hl 0 rfl) ?_
  refine x_iconst (v := nI 1) X dL_law_857 (by decide) ?_
  refine n_iadd X dL_law_858 ?_
  refine x_sld X hW hX hbl hbA (j := i + 1) (by omega) (by omega) dL_law_859 ?_
  refine x_aload_n X dL_law_860 rfl (lv_at hl 3 rfl) ?_
  refine x_iload_n X dL_law_861 rfl (lv_at hl 0 rfl) ?_
  refine x_iconst (v := nI 2) X dL_law_862 (by decide) ?_
  refine n_iadd X dL_law_863 ?_
  refine x_sld X hW hX hbl hbA (j := i + 2) (by omega) (by omega) dL_law_864 ?_
  refine x_aload_n X dL_law_865 rfl (lv_at hl 3 rfl) ?_
  refine x_iload_n X dL_law_866 rfl (lv_at hl 0 rfl) ?_
  refine x_iconst (v := nI 3) X dL_law_867 (by decide) ?_
  refine n_iadd X dL_law_868 ?_
  refine x_sld X hW hX hbl hbA (j := i + 3) (by omega) (by omega) dL_law_869 ?_
  refine x_aload_n X dL_law_870 rfl (lv_at hl 3 rfl) ?_
  refine x_iload_n X dL_law_871 rfl (lv_at hl 0 rfl) ?_
  refine x_iconst (v := nI 4) X dL_law_872 (by decide) ?_
  refine n_iadd X dL_law_873 ?_
  refine x_sld X hW hX hbl hbA (j := i + 4) (by omega) (by omega) dL_law_874 ?_
  refine x_aload_n X dL_law_875 rfl (lv_at hl 3 rfl) ?_
  refine x_iload_n X dL_law_876 rfl (lv_at hl 0 rfl) ?_
  refine x_iconst (v := nI 5) X dL_law_877 (by decide) ?_
  refine n_iadd X dL_law_878 ?_
  refine x_sld X hW hX hbl hbA (j := i + 5) (by omega) (by omega) dL_law_879 ?_
  refine x_pcallVi X hW (As := [.int (xs (i + 1)), .int (xs (i + 2)), .int (xs (i + 3)), .int (xs (i + 4)), .int (xs (i + 5))]) (rest := []) (wz := fun u => (wX cI cZ xq xa (sF xg 6 (fCopy (fun z => tg z 0) (mF 26) (fun z => tg z 2) (xs (i + 1)) (xs (i + 2)) (xs (i + 3)) (xs (i + 4)) (xs (i + 5)))) xh ++ (wA cO (xa 0) ys ++ (wC cI cZ (xa 1) ca cg cF ++ (wC cI cZ (xa 2) da dg dF ++ (wR cI cZ (xa 3) ra rg rF rE ++ (wS cI cZ (xa 4) za zg zh zk zF ++ (wT cI cZ (ys 0) (ta 0) (tg 0) ++ (wB cI ((ta 0) 3) (tf 0) ++ (wT cI cZ (ys 1) (ta 1) (tg 1) ++ (wB cI ((ta 1) 3) (onR (xs (i + 1)) 4 (tf 1) (fun _ => onR (xs (i + 3)) 4 (tf 1) (fun _ => if copF (fun z => tg z 0) (mF 26) (fun z => tg z 2) 0 1 (xs (i + 2)) (xs (i + 4)) (xs (i + 5)) = 0 then mv (tf 1) (tf 0) (xs (i + 4)).toNatClampNeg (xs (i + 2)).toNatClampNeg (xs (i + 5)).toNatClampNeg else (tf 1)))) ++ (wT cI cZ (ys 2) (ta 2) (tg 2) ++ (wB cI ((ta 2) 3) (tf 2) ++ (wT cI cZ (ys 3) (ta 3) (tg 3) ++ (wB cI ((ta 3) 3) (tf 3) ++ (wM cI cZ mq ma mg mh mF mE)))))))))))))))) (wC cI cZ (xa 1) ca cg cF ++ (wC cI cZ (xa 2) da dg dF ++ (wR cI cZ (xa 3) ra rg rF rE ++ (wS cI cZ (xa 4) za zg zh zk zF ++ (wT cI cZ (ys 2) (ta 2) (tg 2) ++ (wB cI ((ta 2) 3) (tf 2) ++ (wT cI cZ (ys 3) (ta 3) (tg 3) ++ (wB cI ((ta 3) 3) (tf 3) ++ (wM cI cZ mq ma mg mh mF mE))))))))) (c_X5_copyP l D cI cZ cO xq xa xg xh ys (ta 0) (tg 0) (tf 0) (ta 1) (tg 1) (tf 1) _ (xs (i + 1)) (xs (i + 2)) (xs (i + 3)) (xs (i + 4)) (xs (i + 5)) 0 1 (fun z => tg z 0) (mF 26) (fun z => tg z 2) (show 0 < 4 from (by decide)) (show ((tg 0) 2) ≤ 60 from ht2 0) (show ((tg 0) 0) ≤ 1 from ht0 0) (show ((tg 0) 1) ≤ 2 from ht1 0) (show (fun z => tg z 0) 0 = ((tg 0) 0) from rfl) (show (mF 26) 0 = ((tg 0) 1) from htl 0) (show (fun z => tg z 2) 0 = ((tg 0) 2) from rfl) (show 1 < 4 from (by decide)) (show ((tg 1) 2) ≤ 60 from ht2 1) (show ((tg 1) 0) ≤ 1 from ht0 1) (show ((tg 1) 1) ≤ 2 from ht1 1) (show (fun z => tg z 0) 1 = ((tg 1) 0) from rfl) (show (mF 26) 1 = ((tg 1) 1) from htl 1) (show (fun z => tg z 2) 1 = ((tg 1) 2) from rfl) (show ¬ inR (xs (i + 1)) 4 ∨ (xs (i + 1)) = nI 0 from hkj) (show ¬ inR (xs (i + 3)) 4 ∨ (xs (i + 3)) = nI 1 from hoj)) (cwV 5 X.2.2.2.2.2.1 gL_law_X5_copy rfl rfl rfl (by decide +kernel) ⟨Nat.le_of_ble_eq_true rfl, Nat.le_of_ble_eq_true rfl⟩) 4 rfl rfl rfl (apn (mfr _ _) (apn (mfr _ _) (apn (mf (mf (mf (mf (mfr _ _))))) (apn (mf (mf (mf (mf (mfr _ _))))) (apn (mf (mf (mf (mf (mfr _ _))))) (mf (mf (mf (mf (mfr _ _)))))))))) (fun u => (apn (mfr _ _) (apn (mfr _ _) (apn (mf (mf (mf (mf (mfr _ _))))) (apn (mf (mf (mf (mf (mfr _ _))))) (apn (mf (mf (mf (mf (mfr _ _))))) (mf (mf (mf (mf (mfr _ _))))))))))) rfl hl.1 rfl (Nat.le_of_ble_eq_true rfl) ⟨Nat.le_of_ble_eq_true rfl, Nat.le_of_ble_eq_true rfl⟩ dL_law_880 (fun r1 u2 H locs w880 hW => ?_)
  have hW : Wd D A s.heap H locs (wX cI cZ xq xa (sF xg 6 (fCopy (fun z => tg z 0) (mF 26) (fun z => tg z 2) (xs (i + 1)) (xs (i + 2)) (xs (i + 3)) (xs (i + 4)) (xs (i + 5)))) xh ++ (wA cO (xa 0) ys ++ (wC cI cZ (xa 1) ca cg cF ++ (wC cI cZ (xa 2) da dg dF ++ (wR cI cZ (xa 3) ra rg rF rE ++ (wS cI cZ (xa 4) za zg zh zk zF ++ (wT cI cZ (ys 0) (ta 0) (tg 0) ++ (wB cI ((ta 0) 3) (tf 0) ++ (wT cI cZ (ys 1) (ta 1) (tg 1) ++ (wB cI ((ta 1) 3) (onR (xs (i + 1)) 4 (tf 1) (fun _ => onR (xs (i + 3)) 4 (tf 1) (fun _ => if copF (fun z => tg z 0) (mF 26) (fun z => tg z 2) 0 1 (xs (i + 2)) (xs (i + 4)) (xs (i + 5)) = 0 then mv (tf 1) (tf 0) (xs (i + 4)).toNatClampNeg (xs (i + 2)).toNatClampNeg (xs (i + 5)).toNatClampNeg else (tf 1)))) ++ (wT cI cZ (ys 2) (ta 2) (tg 2) ++ (wB cI ((ta 2) 3) (tf 2) ++ (wT cI cZ (ys 3) (ta 3) (tg 3) ++ (wB cI ((ta 3) 3) (tf 3) ++ (wM cI cZ mq ma mg mh mF mE))))))))))))))) := hW
  replace w880 : r1 = aCopy (fun z => tg z 0) (mF 26) (fun z => tg z 2) (xs (i + 1)) (xs (i + 2)) (xs (i + 3)) (xs (i + 4)) (xs (i + 5)) := w880
  subst w880
  refine x_aload_n X dL_law_883 rfl (lv_at hl 1 rfl) ?_
  refine x_aload_n X dL_law_884 rfl (lv_at hl 3 rfl) ?_
  refine x_iload_n X dL_law_885 rfl (lv_at hl 0 rfl) ?_
  refine x_iconst (v := nI 1) X dL_law_886 (by decide) ?_
  refine n_iadd X dL_law_887 ?_
  refine x_sld X hW hX hbl hbA (j := i + 1) (by omega) (by omega) dL_law_888 ?_
  refine x_aload_n X dL_law_889 rfl (lv_at hl 3 rfl) ?_
  refine x_iload_n X dL_law_890 rfl (lv_at hl 0 rfl) ?_
  refine x_iconst (v := nI 2) X dL_law_891 (by decide) ?_
  refine n_iadd X dL_law_892 ?_
  refine x_sld X hW hX hbl hbA (j := i + 2) (by omega) (by omega) dL_law_893 ?_
  refine x_aload_n X dL_law_894 rfl (lv_at hl 3 rfl) ?_
  refine x_iload_n X dL_law_895 rfl (lv_at hl 0 rfl) ?_
  refine x_iconst (v := nI 3) X dL_law_896 (by decide) ?_
  refine n_iadd X dL_law_897 ?_
  refine x_sld X hW hX hbl hbA (j := i + 3) (by omega) (by omega) dL_law_898 ?_
  refine x_aload_n X dL_law_899 rfl (lv_at hl 3 rfl) ?_
  refine x_iload_n X dL_law_900 rfl (lv_at hl 0 rfl) ?_
  refine x_iconst (v := nI 4) X dL_law_901 (by decide) ?_
  refine n_iadd X dL_law_902 ?_
  refine x_sld X hW hX hbl hbA (j := i + 4) (by omega) (by omega) dL_law_903 ?_
  refine x_aload_n X dL_law_904 rfl (lv_at hl 3 rfl) ?_
  refine x_iload_n X dL_law_905 rfl (lv_at hl 0 rfl) ?_
  refine x_iconst (v := nI 5) X dL_law_906 (by decide) ?_
  refine n_iadd X dL_law_907 ?_
  refine x_sld X hW hX hbl hbA (j := i + 5) (by omega) (by omega) dL_law_908 ?_
  refine x_pcallVi X hW (As := [.int (xs (i + 1)), .int (xs (i + 2)), .int (xs (i + 3)), .int (xs (i + 4)), .int (xs (i + 5))]) (rest := [.int (aCopy (fun z => tg z 0) (mF 26) (fun z => tg z 2) (xs (i + 1)) (xs (i + 2)) (xs (i + 3)) (xs (i + 4)) (xs (i + 5)))]) (wz := fun u => (wX cI cZ xq xa (sF xg 6 (fCopy (fun z => tg z 0) (mF 26) (fun z => tg z 2) (xs (i + 1)) (xs (i + 2)) (xs (i + 3)) (xs (i + 4)) (xs (i + 5)))) xh ++ (wA cO (xa 0) ys ++ (wC cI cZ (xa 1) ca cg cF ++ (wC cI cZ (xa 2) da dg dF ++ (wR cI cZ (xa 3) ra rg rF rE ++ (wS cI cZ (xa 4) za zg zh zk zF ++ (wT cI cZ (ys 0) (ta 0) (tg 0) ++ (wB cI ((ta 0) 3) (tf 0) ++ (wT cI cZ (ys 1) (ta 1) (tg 1) ++ (wB cI ((ta 1) 3) (onR (xs (i + 1)) 4 (tf 1) (fun _ => onR (xs (i + 3)) 4 (tf 1) (fun _ => if copF (fun z => tg z 0) (mF 26) (fun z => tg z 2) 0 1 (xs (i + 2)) (xs (i + 4)) (xs (i + 5)) = 0 then mv (tf 1) (tf 0) (xs (i + 4)).toNatClampNeg (xs (i + 2)).toNatClampNeg (xs (i + 5)).toNatClampNeg else (tf 1)))) ++ (wT cI cZ (ys 2) (ta 2) (tg 2) ++ (wB cI ((ta 2) 3) (tf 2) ++ (wT cI cZ (ys 3) (ta 3) (tg 3) ++ (wB cI ((ta 3) 3) (tf 3) ++ (wM cI cZ mq ma (sF mg 0 (fCopy (fun z => tg z 0) ((mF 26)) (fun z => tg z 2) (xs (i + 1)) (xs (i + 2)) (xs (i + 3)) (xs (i + 4)) (xs (i + 5)))) mh mF (sF (sF mE 27 (sCopy (fun z => tg z 0) ((mF 26)) (fun z => tg z 2) (xs (i + 1)) (xs (i + 2)) (xs (i + 3)) (xs (i + 4)) (xs (i + 5)) ((mE 27)))) 28 u))))))))))))))))) (wX cI cZ xq xa (sF xg 6 (fCopy (fun z => tg z 0) (mF 26) (fun z => tg z 2) (xs (i + 1)) (xs (i + 2)) (xs (i + 3)) (xs (i + 4)) (xs (i + 5)))) xh ++ (wA cO (xa 0) ys ++ (wC cI cZ (xa 1) ca cg cF ++ (wC cI cZ (xa 2) da dg dF ++ (wR cI cZ (xa 3) ra rg rF rE ++ (wS cI cZ (xa 4) za zg zh zk zF ++ (wT cI cZ (ys 0) (ta 0) (tg 0) ++ (wB cI ((ta 0) 3) (tf 0) ++ (wT cI cZ (ys 1) (ta 1) (tg 1) ++ (wB cI ((ta 1) 3) (onR (xs (i + 1)) 4 (tf 1) (fun _ => onR (xs (i + 3)) 4 (tf 1) (fun _ => if copF (fun z => tg z 0) (mF 26) (fun z => tg z 2) 0 1 (xs (i + 2)) (xs (i + 4)) (xs (i + 5)) = 0 then mv (tf 1) (tf 0) (xs (i + 4)).toNatClampNeg (xs (i + 2)).toNatClampNeg (xs (i + 5)).toNatClampNeg else (tf 1)))) ++ (wT cI cZ (ys 2) (ta 2) (tg 2) ++ (wB cI ((ta 2) 3) (tf 2) ++ (wT cI cZ (ys 3) (ta 3) (tg 3) ++ (wB cI ((ta 3) 3) (tf 3))))))))))))))) (c_X6_copy l D cI cZ cO mq ma mg mh mF mE _ (xs (i + 1)) (xs (i + 2)) (xs (i + 3)) (xs (i + 4)) (xs (i + 5)) (fun z => tg z 0) (fun z => tg z 2) (show ∀ z, z < 4 → ((fun z => tg z 0) z = 0 ∧ (mE 25) z = (-1 : Int32)) ∨ ((fun z => tg z 0) z = 1 ∧ (mE 25) z = nI ((fun z => tg z 2) z)) from hts) (show ∀ z0, (fun z => tg z 2) z0 ≤ 60 from ht2) (show ∀ z0, (mF 26) z0 ≤ 2 from (fun z => by rw [htl]; exact ht1 z))) (cwV 5 X.2.2.2.2.2.1 gL_law_X6_copy rfl rfl rfl (by decide +kernel) ⟨Nat.le_of_ble_eq_true rfl, Nat.le_of_ble_eq_true rfl⟩) 5 rfl rfl rfl (ap1 (mf (mf (mf (mf (mf (mf (mf (mf (mf (mf (mf (mf (mf mf0)))))))))))))) (fun u => (ap1 (mf (mf (mf (mf (mf (mf (mf (mf (mf (mf (mf (mf (mf mf0))))))))))))))) rfl hl.1 rfl (Nat.le_of_ble_eq_true rfl) ⟨Nat.le_of_ble_eq_true rfl, Nat.le_of_ble_eq_true rfl⟩ dL_law_909 (fun r4 u5 H locs w909 hW => ?_)
  obtain ⟨o1_3, o1_3e⟩ : ∃ z, z = u5 := ⟨_, rfl⟩
  subst o1_3e
  have hW : Wd D A s.heap H locs (wX cI cZ xq xa (sF xg 6 (fCopy (fun z => tg z 0) (mF 26) (fun z => tg z 2) (xs (i + 1)) (xs (i + 2)) (xs (i + 3)) (xs (i + 4)) (xs (i + 5)))) xh ++ (wA cO (xa 0) ys ++ (wC cI cZ (xa 1) ca cg cF ++ (wC cI cZ (xa 2) da dg dF ++ (wR cI cZ (xa 3) ra rg rF rE ++ (wS cI cZ (xa 4) za zg zh zk zF ++ (wT cI cZ (ys 0) (ta 0) (tg 0) ++ (wB cI ((ta 0) 3) (tf 0) ++ (wT cI cZ (ys 1) (ta 1) (tg 1) ++ (wB cI ((ta 1) 3) (onR (xs (i + 1)) 4 (tf 1) (fun _ => onR (xs (i + 3)) 4 (tf 1) (fun _ => if copF (fun z => tg z 0) (mF 26) (fun z => tg z 2) 0 1 (xs (i + 2)) (xs (i + 4)) (xs (i + 5)) = 0 then mv (tf 1) (tf 0) (xs (i + 4)).toNatClampNeg (xs (i + 2)).toNatClampNeg (xs (i + 5)).toNatClampNeg else (tf 1)))) ++ (wT cI cZ (ys 2) (ta 2) (tg 2) ++ (wB cI ((ta 2) 3) (tf 2) ++ (wT cI cZ (ys 3) (ta 3) (tg 3) ++ (wB cI ((ta 3) 3) (tf 3) ++ (wM cI cZ mq ma (sF mg 0 (fCopy (fun z => tg z 0) ((mF 26)) (fun z => tg z 2) (xs (i + 1)) (xs (i + 2)) (xs (i + 3)) (xs (i + 4)) (xs (i + 5)))) mh mF (sF (sF mE 27 (sCopy (fun z => tg z 0) ((mF 26)) (fun z => tg z 2) (xs (i + 1)) (xs (i + 2)) (xs (i + 3)) (xs (i + 4)) (xs (i + 5)) ((mE 27)))) 28 o1_3)))))))))))))))) := hW
  replace w909 : r4 = aCopy (fun z => tg z 0) ((mF 26)) (fun z => tg z 2) (xs (i + 1)) (xs (i + 2)) (xs (i + 3)) (xs (i + 4)) (xs (i + 5)) := w909
  subst w909
  refine x_icmp_eq X 1045 dL_law_912 (by decide) (fun c912 => ?_) (fun c912 => by exact absurd (by (try rw [e1]); (try rw [e2]); (try rw [e3]); (try rw [e4]); (try rw [e5]); (try rw [f1]); (try rw [f2]); (try rw [f3]); (try rw [f4]); (try rfl)) c912)
  exact next _ _ _ ⟨xa, (sF xg 6 (fCopy (fun z => tg z 0) (mF 26) (fun z => tg z 2) (xs (i + 1)) (xs (i + 2)) (xs (i + 3)) (xs (i + 4)) (xs (i + 5)))), xh, ys, ca, cg, cF, da, dg, dF, ra, rg, rF, rE, za, zg, zh, zk, zF, ma, (sF mg 0 (fCopy (fun z => tg z 0) ((mF 26)) (fun z => tg z 2) (xs (i + 1)) (xs (i + 2)) (xs (i + 3)) (xs (i + 4)) (xs (i + 5)))), mh, mF, (sF (sF mE 27 (sCopy (fun z => tg z 0) ((mF 26)) (fun z => tg z 2) (xs (i + 1)) (xs (i + 2)) (xs (i + 3)) (xs (i + 4)) (xs (i + 5)) ((mE 27)))) 28 o1_3), ta, tg, (sF tf 1 (onR (xs (i + 1)) 4 (tf 1) (fun _ => onR (xs (i + 3)) 4 (tf 1) (fun _ => if copF (fun z => tg z 0) (mF 26) (fun z => tg z 2) 0 1 (xs (i + 2)) (xs (i + 4)) (xs (i + 5)) = 0 then mv (tf 1) (tf 0) (xs (i + 4)).toNatClampNeg (xs (i + 2)).toNatClampNeg (xs (i + 5)).toNatClampNeg else (tf 1))))), hW, hRC, hRR, hRD, hSK, RT_copy hRT (show 0 < 4 by decide) (show 1 < 4 by decide) hkj hoj, ⟨hRX.1, rfl⟩, hRM⟩ (lv_sub hl [0, 1, 2, 3] rfl)
set_option maxHeartbeats 4000000 in
set_option maxRecDepth 100000 in
theorem law_copy_0_2 {p : Program} {e : Env} {s : State} {m : MethodId} {below : List Frame} {meth : Method} {c : Code} {D : va_G} {cI cZ cO : ClassId} {A : Nat → Prop} {Q : State → Prop} {l : Launch} {b L xq mq i : Nat} {xs : Nat → Int32} {H : Heap} {locs : List Loc} {ls : Array Slot} (X : Fx p s m #[Value.ref b] meth c code 4 ret wsL_law RL D (ty3 cI cZ cO) A) (hX : va_X b L xs s s.heap) (hbl : b < s.heap.size) (hbA : ¬ A b) (hL : L ≤ 3072) (hi : i + 6 ≤ L) (hI : lw_I D cI cZ cO A s.heap xq mq H locs) (hl : lv_has ls 4 [(3, .int (nI i)), (2, .ref mq), (1, .ref xq), (0, .ref b)]) (hkj : ¬ inR (xs (i + 1)) 4 ∨ xs (i + 1) = nI 0) (hoj : ¬ inR (xs (i + 3)) 4 ∨ xs (i + 3) = nI 2) (next : ∀ (H : Heap) (locs : List Loc) (ls : Array Slot), lw_I D cI cZ cO A s.heap xq mq H locs → lv_has ls 4 [(3, .int (nI i)), (2, .ref mq), (1, .ref xq), (0, .ref b)] → W p l e room_1 s m #[Value.ref b] below meth c H locs 600000 7302250 Q (F0 m 1045 ls [])) : W p l e room_1 s m #[Value.ref b] below meth c H locs 600000 7302250 Q (F0 m 854 ls []) := by
  obtain ⟨xa, xg, xh, ys, ca, cg, cF, da, dg, dF, ra, rg, rF, rE, za, zg, zh, zk, zF, ma, mg, mh, mF, mE, ta, tg, tf, hW, hRC, hRR, hRD, hSK, hRT, hRX, hRM⟩ := hI
  have hW : Wd D A s.heap H locs (wX cI cZ xq xa xg xh ++ (wA cO (xa 0) ys ++ (wC cI cZ (xa 1) ca cg cF ++ (wC cI cZ (xa 2) da dg dF ++ (wR cI cZ (xa 3) ra rg rF rE ++ (wS cI cZ (xa 4) za zg zh zk zF ++ (wT cI cZ (ys 0) (ta 0) (tg 0) ++ (wB cI ((ta 0) 3) (tf 0) ++ (wT cI cZ (ys 1) (ta 1) (tg 1) ++ (wB cI ((ta 1) 3) (tf 1) ++ (wT cI cZ (ys 2) (ta 2) (tg 2) ++ (wB cI ((ta 2) 3) (tf 2) ++ (wT cI cZ (ys 3) (ta 3) (tg 3) ++ (wB cI ((ta 3) 3) (tf 3) ++ (wM cI cZ mq ma mg mh mF mE))))))))))))))) := hW
  obtain ⟨h02, hn, hrn, hk, hlv, hm, e2, e1, e3, e4, e5⟩ := id hRC
  obtain ⟨hrc, hro, hra, hrd, f1, f2, f3, f4⟩ := id hRR
  obtain ⟨hdn, hdr, hdk, hdl, hdm⟩ := id hRD
  obtain ⟨ht0, ht1, ht2, htl, hts, htc⟩ := id hRT
  refine x_aload_n X dL_law_854 rfl (lv_at hl 2 rfl) ?_
  refine x_aload_n X dL_law_855 rfl (lv_at hl 3 rfl) ?_
  refine x_iload_n X dL_law_856 rfl (lv_at hl 0 rfl) ?_
  refine x_iconst (v := nI 1) X dL_law_857 (by decide) ?_
  refine n_iadd X dL_law_858 ?_
  refine x_sld X hW hX hbl hbA (j := i + 1) (by omega) (by omega) dL_law_859 ?_
  refine x_aload_n X dL_law_860 rfl (lv_at hl 3 rfl) ?_
  refine x_iload_n X dL_law_861 rfl (lv_at hl 0 rfl) ?_
  refine x_iconst (v := nI 2) X dL_law_862 (by decide) ?_
  refine n_iadd X dL_law_863 ?_
  refine x_sld X hW hX hbl hbA (j := i + 2) (by omega) (by omega) dL_law_864 ?_
  refine x_aload_n X dL_law_865 rfl (lv_at hl 3 rfl) ?_
  refine x_iload_n X dL_law_866 rfl (lv_at hl 0 rfl) ?_
  refine x_iconst (v := nI 3) X dL_law_867 (by decide) ?_
  refine n_iadd X dL_law_868 ?_
  refine x_sld X hW hX hbl hbA (j := i + 3) (by omega) (by omega) dL_law_869 ?_
  refine x_aload_n X dL_law_870 rfl (lv_at hl 3 rfl) ?_
  refine x_iload_n X dL_law_871 rfl (lv_at hl 0 rfl) ?_
  refine x_iconst (v := nI 4) X dL_law_872 (by decide) ?_
  refine n_iadd X dL_law_873 ?_
  refine x_sld X hW hX hbl hbA (j := i + 4) (by omega) (by omega) dL_law_874 ?_
  refine x_aload_n X dL_law_875 rfl (lv_at hl 3 rfl) ?_
  refine x_iload_n X dL_law_876 rfl (lv_at hl 0 rfl) ?_
  refine x_iconst (v := nI 5) X dL_law_877 (by decide) ?_
  refine n_iadd X dL_law_878 ?_
  refine x_sld X hW hX hbl hbA (j := i + 5) (by omega) (by omega) dL_law_879 ?_
  refine x_pcallVi X hW (As := [.int (xs (i + 1)), .int (xs (i + 2)), .int (xs (i + 3)), .int (xs (i + 4)), .int (xs (i + 5))]) (rest := []) (wz := fun u => (wX cI cZ xq xa (sF xg 6 (fCopy (fun z => tg z 0) (mF 26) (fun z => tg z 2) (xs (i + 1)) (xs (i + 2)) (xs (i + 3)) (xs (i + 4)) (xs (i + 5)))) xh ++ (wA cO (xa 0) ys ++ (wC cI cZ (xa 1) ca cg cF ++ (wC cI cZ (xa 2) da dg dF ++ (wR cI cZ (xa 3) ra rg rF rE ++ (wS cI cZ (xa 4) za zg zh zk zF ++ (wT cI cZ (ys 0) (ta 0) (tg 0) ++ (wB cI ((ta 0) 3) (tf 0) ++ (wT cI cZ (ys 1) (ta 1) (tg 1) ++ (wB cI ((ta 1) 3) (tf 1) ++ (wT cI cZ (ys 2) (ta 2) (tg 2) ++ (wB cI ((ta 2) 3) (onR (xs (i + 1)) 4 (tf 2) (fun _ => onR (xs (i + 3)) 4 (tf 2) (fun _ => if copF (fun z => tg z 0) (mF 26) (fun z => tg z 2) 0 2 (xs (i + 2)) (xs (i + 4)) (xs (i + 5)) = 0 then mv (tf 2) (tf 0) (xs (i + 4)).toNatClampNeg (xs (i + 2)).toNatClampNeg (xs (i + 5)).toNatClampNeg else (tf 2)))) ++ (wT cI cZ (ys 3) (ta 3) (tg 3) ++ (wB cI ((ta 3) 3) (tf 3) ++ (wM cI cZ mq ma mg mh mF mE)))))))))))))))) (wC cI cZ (xa 1) ca cg cF ++ (wC cI cZ (xa 2) da dg dF ++ (wR cI cZ (xa 3) ra rg rF rE ++ (wS cI cZ (xa 4) za zg zh zk zF ++ (wT cI cZ (ys 1) (ta 1) (tg 1) ++ (wB cI ((ta 1) 3) (tf 1) ++ (wT cI cZ (ys 3) (ta 3) (tg 3) ++ (wB cI ((ta 3) 3) (tf 3) ++ (wM cI cZ mq ma mg mh mF mE))))))))) (c_X5_copyP l D cI cZ cO xq xa xg xh ys (ta 0) (tg 0) (tf 0) (ta 2) (tg 2) (tf 2) _ (xs (i + 1)) (xs (i + 2)) (xs (i + 3)) (xs (i + 4)) (xs (i + 5)) 0 2 (fun z => tg z 0) (mF 26) (fun z => tg z 2) (show 0 < 4 from (by decide)) (show ((tg 0) 2) ≤ 60 from ht2 0) (show ((tg 0) 0) ≤ 1 from ht0 0) (show ((tg 0) 1) ≤ 2 from ht1 0) (show (fun z => tg z 0) 0 = ((tg 0) 0) from rfl) (show (mF 26) 0 = ((tg 0) 1) from htl 0) (show (fun z => tg z 2) 0 = ((tg 0) 2) from rfl) (show 2 < 4 from (by decide)) (show ((tg 2) 2) ≤ 60 from ht2 2) (show ((tg 2) 0) ≤ 1 from ht0 2) (show ((tg 2) 1) ≤ 2 from ht1 2) (show (fun z => tg z 0) 2 = ((tg 2) 0) from rfl) (show (mF 26) 2 = ((tg 2) 1) from htl 2) (show (fun z => tg z 2) 2 = ((tg 2) 2) from rfl) (show ¬ inR (xs (i + 1)) 4 ∨ (xs (i + 1)) = nI 0 from hkj) (show ¬ inR (xs (i + 3)) 4 ∨ (xs (i + 3)) = nI 2 from hoj)) (cwV 5 X.2.2.2.2.2.1 gL_law_X5_copy rfl rfl rfl (by decide +kernel) ⟨Nat.le_of_ble_eq_true rfl, Nat.le_of_ble_eq_true rfl⟩) 4 rfl rfl rfl (apn (mfr _ _) (apn (mfr _ _) (apn (mf (mf (mf (mf (mfr _ _))))) (apn (mf (mf (mf (mf (mfr _ _))))) (apn (mf (mf (mf (mf (mf (mf (mfr _ _))))))) (mf (mf (mf (mf (mf (mf (mfr _ _)))))))))))) (fun u => (apn (mfr _ _) (apn (mfr _ _) (apn (mf (mf (mf (mf (mfr _ _))))) (apn (mf (mf (mf (mf (mfr _ _))))) (apn (mf (mf (mf (mf (mf (mf (mfr _ _))))))) (mf (mf (mf (mf (mf (mf (mfr _ _))))))))))))) rfl hl.1 rfl (Nat.le_of_ble_eq_true rfl) ⟨Nat.le_of_ble_eq_true rfl, Nat.le_of_ble_eq_true rfl⟩ dL_law_880 (fun r1 u2 H locs w880 hW => ?_)
  have hW : Wd D A s.heap H locs (wX cI cZ xq xa (sF xg 6 (fCopy (fun z => tg z 0) (mF 26) (fun z => tg z 2) (xs (i + 1)) (xs (i + 2)) (xs (i + 3)) (xs (i + 4)) (xs (i + 5)))) xh ++ (wA cO (xa 0) ys ++ (wC cI cZ (xa 1) ca cg cF ++ (wC cI cZ (xa 2) da dg dF ++ (wR cI cZ (xa 3) ra rg rF rE ++ (wS cI cZ (xa 4) za zg zh zk zF ++ (wT cI cZ (ys 0) (ta 0) (tg 0) ++ (wB cI ((ta 0) 3) (tf 0) ++ (wT cI cZ (ys 1) (ta 1) (tg 1) ++ (wB cI ((ta 1) 3) (tf 1) ++ (wT cI cZ (ys 2) (ta 2) (tg 2) ++ (wB cI ((ta 2) 3) (onR (xs (i + 1)) 4 (tf 2) (fun _ => onR (xs (i + 3)) 4 (tf 2) (fun _ => if copF (fun z => tg z 0) (mF 26) (fun z => tg z 2) 0 2 (xs (i + 2)) (xs (i + 4)) (xs (i + 5)) = 0 then mv (tf 2) (tf 0) (xs (i + 4)).toNatClampNeg (xs (i + 2)).toNatClampNeg (xs (i + 5)).toNatClampNeg else (tf 2)))) ++ (wT cI cZ (ys 3) (ta 3) (tg 3) ++ (wB cI ((ta 3) 3) (tf 3) ++ (wM cI cZ mq ma mg mh mF mE))))))))))))))) := hW
  replace w880 : r1 = aCopy (fun z => tg z 0) (mF 26) (fun z => tg z 2) (xs (i + 1)) (xs (i + 2)) (xs (i + 3)) (xs (i + 4)) (xs (i + 5)) := w880
  subst w880
  refine x_aload_n X dL_law_883 rfl (lv_at hl 1 rfl) ?_
  refine x_aload_n X dL_law_884 rfl (lv_at hl 3 rfl) ?_
  refine x_iload_n X dL_law_885 rfl (lv_at hl 0 rfl) ?_
  refine x_iconst (v := nI 1) X dL_law_886 (by decide) ?_
  refine n_iadd X dL_law_887 ?_
  refine x_sld X hW hX hbl hbA (j := i + 1) (by omega) (by omega) dL_law_888 ?_
  refine x_aload_n X dL_law_889 rfl (lv_at hl 3 rfl) ?_
  refine x_iload_n X dL_law_890 rfl (lv_at hl 0 rfl) ?_
  refine x_iconst (v := nI 2) X dL_law_891 (by decide) ?_
  refine n_iadd X dL_law_892 ?_
  refine x_sld X hW hX hbl hbA (j := i + 2) (by omega) (by omega) dL_law_893 ?_
  refine x_aload_n X dL_law_894 rfl (lv_at hl 3 rfl) ?_
  refine x_iload_n X dL_law_895 rfl (lv_at hl 0 rfl) ?_
  refine x_iconst (v := nI 3) X dL_law_896 (by decide) ?_
  refine n_iadd X dL_law_897 ?_
  refine x_sld X hW hX hbl hbA (j := i + 3) (by omega) (by omega) dL_law_898 ?_
  refine x_aload_n X dL_law_899 rfl (lv_at hl 3 rfl) ?_
  refine x_iload_n X dL_law_900 rfl (lv_at hl 0 rfl) ?_
  refine x_iconst (v := nI 4) X dL_law_901 (by decide) ?_
  refine n_iadd X dL_law_902 ?_
  refine x_sld X hW hX hbl hbA (j := i + 4) (by omega) (by omega) dL_law_903 ?_
  refine x_aload_n X dL_law_904 rfl (lv_at hl 3 rfl) ?_
  refine x_iload_n X dL_law_905 rfl (lv_at hl 0 rfl) ?_
  refine x_iconst (v := nI 5) X dL_law_906 (by decide) ?_
  refine n_iadd X dL_law_907 ?_
  refine x_sld X hW hX hbl hbA (j := i + 5) (by omega) (by omega) dL_law_908 ?_
  refine x_pcallVi X hW (As := [.int (xs (i + 1)), .int (xs (i + 2)), .int (xs (i + 3)), .int (xs (i + 4)), .int (xs (i + 5))]) (rest := [.int (aCopy (fun z => tg z 0) (mF 26) (fun z => tg z 2) (xs (i + 1)) (xs (i + 2)) (xs (i + 3)) (xs (i + 4)) (xs (i + 5)))]) (wz := fun u => (wX cI cZ xq xa (sF xg 6 (fCopy (fun z => tg z 0) (mF 26) (fun z => tg z 2) (xs (i + 1)) (xs (i + 2)) (xs (i + 3)) (xs (i + 4)) (xs (i + 5)))) xh ++ (wA cO (xa 0) ys ++ (wC cI cZ (xa 1) ca cg cF ++ (wC cI cZ (xa 2) da dg dF ++ (wR cI cZ (xa 3) ra rg rF rE ++ (wS cI cZ (xa 4) za zg zh zk zF ++ (wT cI cZ (ys 0) (ta 0) (tg 0) ++ (wB cI ((ta 0) 3) (tf 0) ++ (wT cI cZ (ys 1) (ta 1) (tg 1) ++ (wB cI ((ta 1) 3) (tf 1) ++ (wT cI cZ (ys 2) (ta 2) (tg 2) ++ (wB cI ((ta 2) 3) (onR (xs (i + 1)) 4 (tf 2) (fun _ => onR (xs (i + 3)) 4 (tf 2) (fun _ => if copF (fun z => tg z 0) (mF 26) (fun z => tg z 2) 0 2 (xs (i + 2)) (xs (i + 4)) (xs (i + 5)) = 0 then mv (tf 2) (tf 0) (xs (i + 4)).toNatClampNeg (xs (i + 2)).toNatClampNeg (xs (i + 5)).toNatClampNeg else (tf 2)))) ++ (wT cI cZ (ys 3) (ta 3) (tg 3) ++ (wB cI ((ta 3) 3) (tf 3) ++ (wM cI cZ mq ma (sF mg 0 (fCopy (fun z => tg z 0) ((mF 26)) (fun z => tg z 2) (xs (i + 1)) (xs (i + 2)) (xs (i + 3)) (xs (i + 4)) (xs (i + 5)))) mh mF (sF (sF mE 27 (sCopy (fun z => tg z 0) ((mF 26)) (fun z => tg z 2) (xs (i + 1)) (xs (i + 2)) (xs (i + 3)) (xs (i + 4)) (xs (i + 5)) ((mE 27)))) 28 u))))))))))))))))) (wX cI cZ xq xa (sF xg 6 (fCopy (fun z => tg z 0) (mF 26) (fun z => tg z 2) (xs (i + 1)) (xs (i + 2)) (xs (i + 3)) (xs (i + 4)) (xs (i + 5)))) xh ++ (wA cO (xa 0) ys ++ (wC cI cZ (xa 1) ca cg cF ++ (wC cI cZ (xa 2) da dg dF ++ (wR cI cZ (xa 3) ra rg rF rE ++ (wS cI cZ (xa 4) za zg zh zk zF ++ (wT cI cZ (ys 0) (ta 0) (tg 0) ++ (wB cI ((ta 0) 3) (tf 0) ++ (wT cI cZ (ys 1) (ta 1) (tg 1) ++ (wB cI ((ta 1) 3) (tf 1) ++ (wT cI cZ (ys 2) (ta 2) (tg 2) ++ (wB cI ((ta 2) 3) (onR (xs (i + 1)) 4 (tf 2) (fun _ => onR (xs (i + 3)) 4 (tf 2) (fun _ => if copF (fun z => tg z 0) (mF 26) (fun z => tg z 2) 0 2 (xs (i + 2)) (xs (i + 4)) (xs (i + 5)) = 0 then mv (tf 2) (tf 0) (xs (i + 4)).toNatClampNeg (xs (i + 2)).toNatClampNeg (xs (i + 5)).toNatClampNeg else (tf 2)))) ++ (wT cI cZ (ys 3) (ta 3) (tg 3) ++ (wB cI ((ta 3) 3) (tf 3))))))))))))))) (c_X6_copy l D cI cZ cO mq ma mg mh mF mE _ (xs (i + 1)) (xs (i + 2)) (xs (i + 3)) (xs (i + 4)) (xs (i + 5)) (fun z => tg z 0) (fun z => tg z 2) (show ∀ z, z < 4 → ((fun z => tg z 0) z = 0 ∧ (mE 25) z = (-1 : Int32)) ∨ ((fun z => tg z 0) z = 1 ∧ (mE 25) z = nI ((fun z => tg z 2) z)) from hts) (show ∀ z0, (fun z => tg z 2) z0 ≤ 60 from ht2) (show ∀ z0, (mF 26) z0 ≤ 2 from (fun z => by rw [htl]; exact ht1 z))) (cwV 5 X.2.2.2.2.2.1 gL_law_X6_copy rfl rfl rfl (by decide +kernel) ⟨Nat.le_of_ble_eq_true rfl, Nat.le_of_ble_eq_true rfl⟩) 5 rfl rfl rfl (ap1 (mf (mf (mf (mf (mf (mf (mf (mf (mf (mf (mf (mf (mf mf0)))))))))))))) (fun u => (ap1 (mf (mf (mf (mf (mf (mf (mf (mf (mf (mf (mf (mf (mf mf0))))))))))))))) rfl hl.1 rfl (Nat.le_of_ble_eq_true rfl) ⟨Nat.le_of_ble_eq_true rfl, Nat.le_of_ble_eq_true rfl⟩ dL_law_909 (fun r4 u5 H locs w909 hW => ?_)
  obtain ⟨o1_3, o1_3e⟩ : ∃ z, z = u5 := ⟨_, rfl⟩
  subst o1_3e
  have hW : Wd D A s.heap H locs (wX cI cZ xq xa (sF xg 6 (fCopy (fun z => tg z 0) (mF 26) (fun z => tg z 2) (xs (i + 1)) (xs (i + 2)) (xs (i + 3)) (xs (i + 4)) (xs (i + 5)))) xh ++ (wA cO (xa 0) ys ++ (wC cI cZ (xa 1) ca cg cF ++ (wC cI cZ (xa 2) da dg dF ++ (wR cI cZ (xa 3) ra rg rF rE ++ (wS cI cZ (xa 4) za zg zh zk zF ++ (wT cI cZ (ys 0) (ta 0) (tg 0) ++ (wB cI ((ta 0) 3) (tf 0) ++ (wT cI cZ (ys 1) (ta 1) (tg 1) ++ (wB cI ((ta 1) 3) (tf 1) ++ (wT cI cZ (ys 2) (ta 2) (tg 2) ++ (wB cI ((ta 2) 3) (onR (xs (i + 1)) 4 (tf 2) (fun _ => onR (xs (i + 3)) 4 (tf 2) (fun _ => if copF (fun z => tg z 0) (mF 26) (fun z => tg z 2) 0 2 (xs (i + 2)) (xs (i + 4)) (xs (i + 5)) = 0 then mv (tf 2) (tf 0) (xs (i + 4)).toNatClampNeg (xs (i + 2)).toNatClampNeg (xs (i + 5)).toNatClampNeg else (tf 2)))) ++ (wT cI cZ (ys 3) (ta 3) (tg 3) ++ (wB cI ((ta 3) 3) (tf 3) ++ (wM cI cZ mq ma (sF mg 0 (fCopy (fun z => tg z 0) ((mF 26)) (fun z => tg z 2) (xs (i + 1)) (xs (i + 2)) (xs (i + 3)) (xs (i + 4)) (xs (i + 5)))) mh mF (sF (sF mE 27 (sCopy (fun z => tg z 0) ((mF 26)) (fun z => tg z 2) (xs (i + 1)) (xs (i + 2)) (xs (i + 3)) (xs (i + 4)) (xs (i + 5)) ((mE 27)))) 28 o1_3)))))))))))))))) := hW
  replace w909 : r4 = aCopy (fun z => tg z 0) ((mF 26)) (fun z => tg z 2) (xs (i + 1)) (xs (i + 2)) (xs (i + 3)) (xs (i + 4)) (xs (i + 5)) := w909
  subst w909
  refine x_icmp_eq X 1045 dL_law_912 (by decide) (fun c912 => ?_) (fun c912 => by exact absurd (by (try rw [e1]); (try rw [e2]); (try rw [e3]); (try rw [e4]); (try rw [e5]); (try rw [f1]); (try rw [f2]); (try rw [f3]); (try rw [f4]); (try rfl)) c912)
  exact next _ _ _ ⟨xa, (sF xg 6 (fCopy (fun z => tg z 0) (mF 26) (fun z => tg z 2) (xs (i + 1)) (xs (i + 2)) (xs (i + 3)) (xs (i + 4)) (xs (i + 5)))), xh, ys, ca, cg, cF, da, dg, dF, ra, rg, rF, rE, za, zg, zh, zk, zF, ma, (sF mg 0 (fCopy (fun z => tg z 0) ((mF 26)) (fun z => tg z 2) (xs (i + 1)) (xs (i + 2)) (xs (i + 3)) (xs (i + 4)) (xs (i + 5)))), mh, mF, (sF (sF mE 27 (sCopy (fun z => tg z 0) ((mF 26)) (fun z => tg z 2) (xs (i + 1)) (xs (i + 2)) (xs (i + 3)) (xs (i + 4)) (xs (i + 5)) ((mE 27)))) 28 o1_3), ta, tg, (sF tf 2 (onR (xs (i + 1)) 4 (tf 2) (fun _ => onR (xs (i + 3)) 4 (tf 2) (fun _ => if copF (fun z => tg z 0) (mF 26) (fun z => tg z 2) 0 2 (xs (i + 2)) (xs (i + 4)) (xs (i + 5)) = 0 then mv (tf 2) (tf 0) (xs (i + 4)).toNatClampNeg (xs (i + 2)).toNatClampNeg (xs (i + 5)).toNatClampNeg else (tf 2))))), hW, hRC, hRR, hRD, hSK, RT_copy hRT (show 0 < 4 by decide) (show 2 < 4 by decide) hkj hoj, ⟨hRX.1, rfl⟩, hRM⟩ (lv_sub hl [0, 1, 2, 3] rfl)
set_option maxHeartbeats 4000000 in
set_option maxRecDepth 100000 in
theorem law_copy_0_3 {p : Program} {e : Env} {s : State} {m : MethodId} {below : List Frame} {meth : Method} {c : Code} {D : va_G} {cI cZ cO : ClassId} {A : Nat → Prop} {Q : State → Prop} {l : Launch} {b L xq mq i : Nat} {xs : Nat → Int32} {H : Heap} {locs : List Loc} {ls : Array Slot} (X : Fx p s m #[Value.ref b] meth c code 4 ret wsL_law RL D (ty3 cI cZ cO) A) (hX : va_X b L xs s s.heap) (hbl : b < s.heap.size) (hbA : ¬ A b) (hL : L ≤ 3072) (hi : i + 6 ≤ L) (hI : lw_I D cI cZ cO A s.heap xq mq H locs) (hl : lv_has ls 4 [(3, .int (nI i)), (2, .ref mq), (1, .ref xq), (0, .ref b)]) (hkj : ¬ inR (xs (i + 1)) 4 ∨ xs (i + 1) = nI 0) (hoj : ¬ inR (xs (i + 3)) 4 ∨ xs (i + 3) = nI 3) (next : ∀ (H : Heap) (locs : List Loc) (ls : Array Slot), lw_I D cI cZ cO A s.heap xq mq H locs → lv_has ls 4 [(3, .int (nI i)), (2, .ref mq), (1, .ref xq), (0, .ref b)] → W p l e room_1 s m #[Value.ref b] below meth c H locs 600000 7302250 Q (F0 m 1045 ls [])) : W p l e room_1 s m #[Value.ref b] below meth c H locs 600000 7302250 Q (F0 m 854 ls []) := by
  obtain ⟨xa, xg, xh, ys, ca, cg, cF, da, dg, dF, ra, rg, rF, rE, za, zg, zh, zk, zF, ma, mg, mh, mF, mE, ta, tg, tf, hW, hRC, hRR, hRD, hSK, hRT, hRX, hRM⟩ := hI
  have hW : Wd D A s.heap H locs (wX cI cZ xq xa xg xh ++ (wA cO (xa 0) ys ++ (wC cI cZ (xa 1) ca cg cF ++ (wC cI cZ (xa 2) da dg dF ++ (wR cI cZ (xa 3) ra rg rF rE ++ (wS cI cZ (xa 4) za zg zh zk zF ++ (wT cI cZ (ys 0) (ta 0) (tg 0) ++ (wB cI ((ta 0) 3) (tf 0) ++ (wT cI cZ (ys 1) (ta 1) (tg 1) ++ (wB cI ((ta 1) 3) (tf 1) ++ (wT cI cZ (ys 2) (ta 2) (tg 2) ++ (wB cI ((ta 2) 3) (tf 2) ++ (wT cI cZ (ys 3) (ta 3) (tg 3) ++ (wB cI ((ta 3) 3) (tf 3) ++ (wM cI cZ mq ma mg mh mF mE))))))))))))))) := hW
  obtain ⟨h02, hn, hrn, hk, hlv, hm, e2, e1, e3, e4, e5⟩ := id hRC
  obtain ⟨hrc, hro, hra, hrd, f1, f2, f3, f4⟩ := id hRR
  obtain ⟨hdn, hdr, hdk, hdl, hdm⟩ := id hRD
  obtain ⟨ht0, ht1, ht2, htl, hts, htc⟩ := id hRT
  refine x_aload_n X dL_law_854 rfl (lv_at hl 2 rfl) ?_
  refine x_aload_n X dL_law_855 rfl (lv_at hl 3 rfl) ?_
  refine x_iload_n X dL_law_856 rfl (lv_at hl 0 rfl) ?_
  refine x_iconst (v := nI 1) X dL_law_857 (by decide) ?_
  refine n_iadd X dL_law_858 ?_
  refine x_sld X hW hX hbl hbA (j := i + 1) (by omega) (by omega) dL_law_859 ?_
  refine x_aload_n X dL_law_860 rfl (lv_at hl 3 rfl) ?_
  refine x_iload_n X dL_law_861 rfl (lv_at hl 0 rfl) ?_
  refine x_iconst (v := nI 2) X dL_law_862 (by decide) ?_
  refine n_iadd X dL_law_863 ?_
  refine x_sld X hW hX hbl hbA (j := i + 2) (by omega) (by omega) dL_law_864 ?_
  refine x_aload_n X dL_law_865 rfl (lv_at hl 3 rfl) ?_
  refine x_iload_n X dL_law_866 rfl (lv_at hl 0 rfl) ?_
  refine x_iconst (v := nI 3) X dL_law_867 (by decide) ?_
  refine n_iadd X dL_law_868 ?_
  refine x_sld X hW hX hbl hbA (j := i + 3) (by omega) (by omega) dL_law_869 ?_
  refine x_aload_n X dL_law_870 rfl (lv_at hl 3 rfl) ?_
  refine x_iload_n X dL_law_871 rfl (lv_at hl 0 rfl) ?_
  refine x_iconst (v := nI 4) X dL_law_872 (by decide) ?_
  refine n_iadd X dL_law_873 ?_
  refine x_sld X hW hX hbl hbA (j := i + 4) (by omega) (by omega) dL_law_874 ?_
  refine x_aload_n X dL_law_875 rfl (lv_at hl 3 rfl) ?_
  refine x_iload_n X dL_law_876 rfl (lv_at hl 0 rfl) ?_
  refine x_iconst (v := nI 5) X dL_law_877 (by decide) ?_
  refine n_iadd X dL_law_878 ?_
  refine x_sld X hW hX hbl hbA (j := i + 5) (by omega) (by omega) dL_law_879 ?_
  refine x_pcallVi X hW (As := [.int (xs (i + 1)), .int (xs (i + 2)), .int (xs (i + 3)), .int (xs (i + 4)), .int (xs (i + 5))]) (rest := []) (wz := fun u => (wX cI cZ xq xa (sF xg 6 (fCopy (fun z => tg z 0) (mF 26) (fun z => tg z 2) (xs (i + 1)) (xs (i + 2)) (xs (i + 3)) (xs (i + 4)) (xs (i + 5)))) xh ++ (wA cO (xa 0) ys ++ (wC cI cZ (xa 1) ca cg cF ++ (wC cI cZ (xa 2) da dg dF ++ (wR cI cZ (xa 3) ra rg rF rE ++ (wS cI cZ (xa 4) za zg zh zk zF ++ (wT cI cZ (ys 0) (ta 0) (tg 0) ++ (wB cI ((ta 0) 3) (tf 0) ++ (wT cI cZ (ys 1) (ta 1) (tg 1) ++ (wB cI ((ta 1) 3) (tf 1) ++ (wT cI cZ (ys 2) (ta 2) (tg 2) ++ (wB cI ((ta 2) 3) (tf 2) ++ (wT cI cZ (ys 3) (ta 3) (tg 3) ++ (wB cI ((ta 3) 3) (onR (xs (i + 1)) 4 (tf 3) (fun _ => onR (xs (i + 3)) 4 (tf 3) (fun _ => if copF (fun z => tg z 0) (mF 26) (fun z => tg z 2) 0 3 (xs (i + 2)) (xs (i + 4)) (xs (i + 5)) = 0 then mv (tf 3) (tf 0) (xs (i + 4)).toNatClampNeg (xs (i + 2)).toNatClampNeg (xs (i + 5)).toNatClampNeg else (tf 3)))) ++ (wM cI cZ mq ma mg mh mF mE)))))))))))))))) (wC cI cZ (xa 1) ca cg cF ++ (wC cI cZ (xa 2) da dg dF ++ (wR cI cZ (xa 3) ra rg rF rE ++ (wS cI cZ (xa 4) za zg zh zk zF ++ (wT cI cZ (ys 1) (ta 1) (tg 1) ++ (wB cI ((ta 1) 3) (tf 1) ++ (wT cI cZ (ys 2) (ta 2) (tg 2) ++ (wB cI ((ta 2) 3) (tf 2) ++ (wM cI cZ mq ma mg mh mF mE))))))))) (c_X5_copyP l D cI cZ cO xq xa xg xh ys (ta 0) (tg 0) (tf 0) (ta 3) (tg 3) (tf 3) _ (xs (i + 1)) (xs (i + 2)) (xs (i + 3)) (xs (i + 4)) (xs (i + 5)) 0 3 (fun z => tg z 0) (mF 26) (fun z => tg z 2) (show 0 < 4 from (by decide)) (show ((tg 0) 2) ≤ 60 from ht2 0) (show ((tg 0) 0) ≤ 1 from ht0 0) (show ((tg 0) 1) ≤ 2 from ht1 0) (show (fun z => tg z 0) 0 = ((tg 0) 0) from rfl) (show (mF 26) 0 = ((tg 0) 1) from htl 0) (show (fun z => tg z 2) 0 = ((tg 0) 2) from rfl) (show 3 < 4 from (by decide)) (show ((tg 3) 2) ≤ 60 from ht2 3) (show ((tg 3) 0) ≤ 1 from ht0 3) (show ((tg 3) 1) ≤ 2 from ht1 3) (show (fun z => tg z 0) 3 = ((tg 3) 0) from rfl) (show (mF 26) 3 = ((tg 3) 1) from htl 3) (show (fun z => tg z 2) 3 = ((tg 3) 2) from rfl) (show ¬ inR (xs (i + 1)) 4 ∨ (xs (i + 1)) = nI 0 from hkj) (show ¬ inR (xs (i + 3)) 4 ∨ (xs (i + 3)) = nI 3 from hoj)) (cwV 5 X.2.2.2.2.2.1 gL_law_X5_copy rfl rfl rfl (by decide +kernel) ⟨Nat.le_of_ble_eq_true rfl, Nat.le_of_ble_eq_true rfl⟩) 4 rfl rfl rfl (apn (mfr _ _) (apn (mfr _ _) (apn (mf (mf (mf (mf (mfr _ _))))) (apn (mf (mf (mf (mf (mfr _ _))))) (apn (mf (mf (mf (mf (mf (mf (mf (mf (mfr _ _))))))))) (mf (mf (mf (mf (mf (mf (mf (mf (mfr _ _)))))))))))))) (fun u => (apn (mfr _ _) (apn (mfr _ _) (apn (mf (mf (mf (mf (mfr _ _))))) (apn (mf (mf (mf (mf (mfr _ _))))) (apn (mf (mf (mf (mf (mf (mf (mf (mf (mfr _ _))))))))) (mf (mf (mf (mf (mf (mf (mf (mf (mfr _ _))))))))))))))) rfl hl.1 rfl (Nat.le_of_ble_eq_true rfl) ⟨Nat.le_of_ble_eq_true rfl, Nat.le_of_ble_eq_true rfl⟩ dL_law_880 (fun r1 u2 H locs w880 hW => ?_)
  have hW : Wd D A s.heap H locs (wX cI cZ xq xa (sF xg 6 (fCopy (fun z => tg z 0) (mF 26) (fun z => tg z 2) (xs (i + 1)) (xs (i + 2)) (xs (i + 3)) (xs (i + 4)) (xs (i + 5)))) xh ++ (wA cO (xa 0) ys ++ (wC cI cZ (xa 1) ca cg cF ++ (wC cI cZ (xa 2) da dg dF ++ (wR cI cZ (xa 3) ra rg rF rE ++ (wS cI cZ (xa 4) za zg zh zk zF ++ (wT cI cZ (ys 0) (ta 0) (tg 0) ++ (wB cI ((ta 0) 3) (tf 0) ++ (wT cI cZ (ys 1) (ta 1) (tg 1) ++ (wB cI ((ta 1) 3) (tf 1) ++ (wT cI cZ (ys 2) (ta 2) (tg 2) ++ (wB cI ((ta 2) 3) (tf 2) ++ (wT cI cZ (ys 3) (ta 3) (tg 3) ++ (wB cI ((ta 3) 3) (onR (xs (i + 1)) 4 (tf 3) (fun _ => onR (xs (i + 3)) 4 (tf 3) (fun _ => if copF (fun z => tg z 0) (mF 26) (fun z => tg z 2) 0 3 (xs (i + 2)) (xs (i + 4)) (xs (i + 5)) = 0 then mv (tf 3) (tf 0) (xs (i + 4)).toNatClampNeg (xs (i + 2)).toNatClampNeg (xs (i + 5)).toNatClampNeg else (tf 3)))) ++ (wM cI cZ mq ma mg mh mF mE))))))))))))))) := hW
  replace w880 : r1 = aCopy (fun z => tg z 0) (mF 26) (fun z => tg z 2) (xs (i + 1)) (xs (i + 2)) (xs (i + 3)) (xs (i + 4)) (xs (i + 5)) := w880
  subst w880
  refine x_aload_n X dL_law_883 rfl (lv_at hl 1 rfl) ?_
  refine x_aload_n X dL_law_884 rfl (lv_at hl 3 rfl) ?_
  refine x_iload_n X dL_law_885 rfl (lv_at hl 0 rfl) ?_
  refine x_iconst (v := nI 1) X dL_law_886 (by decide) ?_
  refine n_iadd X dL_law_887 ?_
  refine x_sld X hW hX hbl hbA (j := i + 1) (by omega) (by omega) dL_law_888 ?_
  refine x_aload_n X dL_law_889 rfl (lv_at hl 3 rfl) ?_
  refine x_iload_n X dL_law_890 rfl (lv_at hl 0 rfl) ?_
  refine x_iconst (v := nI 2) X dL_law_891 (by decide) ?_
  refine n_iadd X dL_law_892 ?_
  refine x_sld X hW hX hbl hbA (j := i + 2) (by omega) (by omega) dL_law_893 ?_
  refine x_aload_n X dL_law_894 rfl (lv_at hl 3 rfl) ?_
  refine x_iload_n X dL_law_895 rfl (lv_at hl 0 rfl) ?_
  refine x_iconst (v := nI 3) X dL_law_896 (by decide) ?_
  refine n_iadd X dL_law_897 ?_
  refine x_sld X hW hX hbl hbA (j := i + 3) (by omega) (by omega) dL_law_898 ?_
  refine x_aload_n X dL_law_899 rfl (lv_at hl 3 rfl) ?_
  refine x_iload_n X dL_law_900 rfl (lv_at hl 0 rfl) ?_
  refine x_iconst (v := nI 4) X dL_law_901 (by decide) ?_
  refine n_iadd X dL_law_902 ?_
  refine x_sld X hW hX hbl hbA (j := i + 4) (by omega) (by omega) dL_law_903 ?_
  refine x_aload_n X dL_law_904 rfl (lv_at hl 3 rfl) ?_
  refine x_iload_n X dL_law_905 rfl (lv_at hl 0 rfl) ?_
  refine x_iconst (v := nI 5) X dL_law_906 (by decide) ?_
  refine n_iadd X dL_law_907 ?_
  refine x_sld X hW hX hbl hbA (j := i + 5) (by omega) (by omega) dL_law_908 ?_
  refine x_pcallVi X hW (As := [.int (xs (i + 1)), .int (xs (i + 2)), .int (xs (i + 3)), .int (xs (i + 4)), .int (xs (i + 5))]) (rest := [.int (aCopy (fun z => tg z 0) (mF 26) (fun z => tg z 2) (xs (i + 1)) (xs (i + 2)) (xs (i + 3)) (xs (i + 4)) (xs (i + 5)))]) (wz := fun u => (wX cI cZ xq xa (sF xg 6 (fCopy (fun z => tg z 0) (mF 26) (fun z => tg z 2) (xs (i + 1)) (xs (i + 2)) (xs (i + 3)) (xs (i + 4)) (xs (i + 5)))) xh ++ (wA cO (xa 0) ys ++ (wC cI cZ (xa 1) ca cg cF ++ (wC cI cZ (xa 2) da dg dF ++ (wR cI cZ (xa 3) ra rg rF rE ++ (wS cI cZ (xa 4) za zg zh zk zF ++ (wT cI cZ (ys 0) (ta 0) (tg 0) ++ (wB cI ((ta 0) 3) (tf 0) ++ (wT cI cZ (ys 1) (ta 1) (tg 1) ++ (wB cI ((ta 1) 3) (tf 1) ++ (wT cI cZ (ys 2) (ta 2) (tg 2) ++ (wB cI ((ta 2) 3) (tf 2) ++ (wT cI cZ (ys 3) (ta 3) (tg 3) ++ (wB cI ((ta 3) 3) (onR (xs (i + 1)) 4 (tf 3) (fun _ => onR (xs (i + 3)) 4 (tf 3) (fun _ => if copF (fun z => tg z 0) (mF 26) (fun z => tg z 2) 0 3 (xs (i + 2)) (xs (i + 4)) (xs (i + 5)) = 0 then mv (tf 3) (tf 0) (xs (i + 4)).toNatClampNeg (xs (i + 2)).toNatClampNeg (xs (i + 5)).toNatClampNeg else (tf 3)))) ++ (wM cI cZ mq ma (sF mg 0 (fCopy (fun z => tg z 0) ((mF 26)) (fun z => tg z 2) (xs (i + 1)) (xs (i + 2)) (xs (i + 3)) (xs (i + 4)) (xs (i + 5)))) mh mF (sF (sF mE 27 (sCopy (fun z => tg z 0) ((mF 26)) (fun z => tg z 2) (xs (i + 1)) (xs (i + 2)) (xs (i + 3)) (xs (i + 4)) (xs (i + 5)) ((mE 27)))) 28 u))))))))))))))))) (wX cI cZ xq xa (sF xg 6 (fCopy (fun z => tg z 0) (mF 26) (fun z => tg z 2) (xs (i + 1)) (xs (i + 2)) (xs (i + 3)) (xs (i + 4)) (xs (i + 5)))) xh ++ (wA cO (xa 0) ys ++ (wC cI cZ (xa 1) ca cg cF ++ (wC cI cZ (xa 2) da dg dF ++ (wR cI cZ (xa 3) ra rg rF rE ++ (wS cI cZ (xa 4) za zg zh zk zF ++ (wT cI cZ (ys 0) (ta 0) (tg 0) ++ (wB cI ((ta 0) 3) (tf 0) ++ (wT cI cZ (ys 1) (ta 1) (tg 1) ++ (wB cI ((ta 1) 3) (tf 1) ++ (wT cI cZ (ys 2) (ta 2) (tg 2) ++ (wB cI ((ta 2) 3) (tf 2) ++ (wT cI cZ (ys 3) (ta 3) (tg 3) ++ (wB cI ((ta 3) 3) (onR (xs (i + 1)) 4 (tf 3) (fun _ => onR (xs (i + 3)) 4 (tf 3) (fun _ => if copF (fun z => tg z 0) (mF 26) (fun z => tg z 2) 0 3 (xs (i + 2)) (xs (i + 4)) (xs (i + 5)) = 0 then mv (tf 3) (tf 0) (xs (i + 4)).toNatClampNeg (xs (i + 2)).toNatClampNeg (xs (i + 5)).toNatClampNeg else (tf 3)))))))))))))))))) (c_X6_copy l D cI cZ cO mq ma mg mh mF mE _ (xs (i + 1)) (xs (i + 2)) (xs (i + 3)) (xs (i + 4)) (xs (i + 5)) (fun z => tg z 0) (fun z => tg z 2) (show ∀ z, z < 4 → ((fun z => tg z 0) z = 0 ∧ (mE 25) z = (-1 : Int32)) ∨ ((fun z => tg z 0) z = 1 ∧ (mE 25) z = nI ((fun z => tg z 2) z)) from hts) (show ∀ z0, (fun z => tg z 2) z0 ≤ 60 from ht2) (show ∀ z0, (mF 26) z0 ≤ 2 from (fun z => by rw [htl]; exact ht1 z))) (cwV 5 X.2.2.2.2.2.1 gL_law_X6_copy rfl rfl rfl (by decide +kernel) ⟨Nat.le_of_ble_eq_true rfl, Nat.le_of_ble_eq_true rfl⟩) 5 rfl rfl rfl (ap1 (mf (mf (mf (mf (mf (mf (mf (mf (mf (mf (mf (mf (mf mf0)))))))))))))) (fun u => (ap1 (mf (mf (mf (mf (mf (mf (mf (mf (mf (mf (mf (mf (mf mf0))))))))))))))) rfl hl.1 rfl (Nat.le_of_ble_eq_true rfl) ⟨Nat.le_of_ble_eq_true rfl, Nat.le_of_ble_eq_true rfl⟩ dL_law_909 (fun r4 u5 H locs w909 hW => ?_)
  obtain ⟨o1_3, o1_3e⟩ : ∃ z, z = u5 := ⟨_, rfl⟩
  subst o1_3e
  have hW : Wd D A s.heap H locs (wX cI cZ xq xa (sF xg 6 (fCopy (fun z => tg z 0) (mF 26) (fun z => tg z 2) (xs (i + 1)) (xs (i + 2)) (xs (i + 3)) (xs (i + 4)) (xs (i + 5)))) xh ++ (wA cO (xa 0) ys ++ (wC cI cZ (xa 1) ca cg cF ++ (wC cI cZ (xa 2) da dg dF ++ (wR cI cZ (xa 3) ra rg rF rE ++ (wS cI cZ (xa 4) za zg zh zk zF ++ (wT cI cZ (ys 0) (ta 0) (tg 0) ++ (wB cI ((ta 0) 3) (tf 0) ++ (wT cI cZ (ys 1) (ta 1) (tg 1) ++ (wB cI ((ta 1) 3) (tf 1) ++ (wT cI cZ (ys 2) (ta 2) (tg 2) ++ (wB cI ((ta 2) 3) (tf 2) ++ (wT cI cZ (ys 3) (ta 3) (tg 3) ++ (wB cI ((ta 3) 3) (onR (xs (i + 1)) 4 (tf 3) (fun _ => onR (xs (i + 3)) 4 (tf 3) (fun _ => if copF (fun z => tg z 0) (mF 26) (fun z => tg z 2) 0 3 (xs (i + 2)) (xs (i + 4)) (xs (i + 5)) = 0 then mv (tf 3) (tf 0) (xs (i + 4)).toNatClampNeg (xs (i + 2)).toNatClampNeg (xs (i + 5)).toNatClampNeg else (tf 3)))) ++ (wM cI cZ mq ma (sF mg 0 (fCopy (fun z => tg z 0) ((mF 26)) (fun z => tg z 2) (xs (i + 1)) (xs (i + 2)) (xs (i + 3)) (xs (i + 4)) (xs (i + 5)))) mh mF (sF (sF mE 27 (sCopy (fun z => tg z 0) ((mF 26)) (fun z => tg z 2) (xs (i + 1)) (xs (i + 2)) (xs (i + 3)) (xs (i + 4)) (xs (i + 5)) ((mE 27)))) 28 o1_3)))))))))))))))) := hW
  replace w909 : r4 = aCopy (fun z => tg z 0) ((mF 26)) (fun z => tg z 2) (xs (i + 1)) (xs (i + 2)) (xs (i + 3)) (xs (i + 4)) (xs (i + 5)) := w909
  subst w909
  refine x_icmp_eq X 1045 dL_law_912 (by decide) (fun c912 => ?_) (fun c912 => by exact absurd (by (try rw [e1]); (try rw [e2]); (try rw [e3]); (try rw [e4]); (try rw [e5]); (try rw [f1]); (try rw [f2]); (try rw [f3]); (try rw [f4]); (try rfl)) c912)
  exact next _ _ _ ⟨xa, (sF xg 6 (fCopy (fun z => tg z 0) (mF 26) (fun z => tg z 2) (xs (i + 1)) (xs (i + 2)) (xs (i + 3)) (xs (i + 4)) (xs (i + 5)))), xh, ys, ca, cg, cF, da, dg, dF, ra, rg, rF, rE, za, zg, zh, zk, zF, ma, (sF mg 0 (fCopy (fun z => tg z 0) ((mF 26)) (fun z => tg z 2) (xs (i + 1)) (xs (i + 2)) (xs (i + 3)) (xs (i + 4)) (xs (i + 5)))), mh, mF, (sF (sF mE 27 (sCopy (fun z => tg z 0) ((mF 26)) (fun z => tg z 2) (xs (i + 1)) (xs (i + 2)) (xs (i + 3)) (xs (i + 4)) (xs (i + 5)) ((mE 27)))) 28 o1_3), ta, tg, (sF tf 3 (onR (xs (i + 1)) 4 (tf 3) (fun _ => onR (xs (i + 3)) 4 (tf 3) (fun _ => if copF (fun z => tg z 0) (mF 26) (fun z => tg z 2) 0 3 (xs (i + 2)) (xs (i + 4)) (xs (i + 5)) = 0 then mv (tf 3) (tf 0) (xs (i + 4)).toNatClampNeg (xs (i + 2)).toNatClampNeg (xs (i + 5)).toNatClampNeg else (tf 3))))), hW, hRC, hRR, hRD, hSK, RT_copy hRT (show 0 < 4 by decide) (show 3 < 4 by decide) hkj hoj, ⟨hRX.1, rfl⟩, hRM⟩ (lv_sub hl [0, 1, 2, 3] rfl)
set_option maxHeartbeats 4000000 in
set_option maxRecDepth 100000 in
theorem law_copy_1_0 {p : Program} {e : Env} {s : State} {m : MethodId} {below : List Frame} {meth : Method} {c : Code} {D : va_G} {cI cZ cO : ClassId} {A : Nat → Prop} {Q : State → Prop} {l : Launch} {b L xq mq i : Nat} {xs : Nat → Int32} {H : Heap} {locs : List Loc} {ls : Array Slot} (X : Fx p s m #[Value.ref b] meth c code 4 ret wsL_law RL D (ty3 cI cZ cO) A) (hX : va_X b L xs s s.heap) (hbl : b < s.heap.size) (hbA : ¬ A b) (hL : L ≤ 3072) (hi : i + 6 ≤ L) (hI : lw_I D cI cZ cO A s.heap xq mq H locs) (hl : lv_has ls 4 [(3, .int (nI i)), (2, .ref mq), (1, .ref xq), (0, .ref b)]) (hkj : ¬ inR (xs (i + 1)) 4 ∨ xs (i + 1) = nI 1) (hoj : ¬ inR (xs (i + 3)) 4 ∨ xs (i + 3) = nI 0) (next : ∀ (H : Heap) (locs : List Loc) (ls : Array Slot), lw_I D cI cZ cO A s.heap xq mq H locs → lv_has ls 4 [(3, .int (nI i)), (2, .ref mq), (1, .ref xq), (0, .ref b)] → W p l e room_1 s m #[Value.ref b] below meth c H locs 600000 7302250 Q (F0 m 1045 ls [])) : W p l e room_1 s m #[Value.ref b] below meth c H locs 600000 7302250 Q (F0 m 854 ls []) := by
  obtain ⟨xa, xg, xh, ys, ca, cg, cF, da, dg, dF, ra, rg, rF, rE, za, zg, zh, zk, zF, ma, mg, mh, mF, mE, ta, tg, tf, hW, hRC, hRR, hRD, hSK, hRT, hRX, hRM⟩ := hI
  have hW : Wd D A s.heap H locs (wX cI cZ xq xa xg xh ++ (wA cO (xa 0) ys ++ (wC cI cZ (xa 1) ca cg cF ++ (wC cI cZ (xa 2) da dg dF ++ (wR cI cZ (xa 3) ra rg rF rE ++ (wS cI cZ (xa 4) za zg zh zk zF ++ (wT cI cZ (ys 0) (ta 0) (tg 0) ++ (wB cI ((ta 0) 3) (tf 0) ++ (wT cI cZ (ys 1) (ta 1) (tg 1) ++ (wB cI ((ta 1) 3) (tf 1) ++ (wT cI cZ (ys 2) (ta 2) (tg 2) ++ (wB cI ((ta 2) 3) (tf 2) ++ (wT cI cZ (ys 3) (ta 3) (tg 3) ++ (wB cI ((ta 3) 3) (tf 3) ++ (wM cI cZ mq ma mg mh mF mE))))))))))))))) := hW
  obtain ⟨h02, hn, hrn, hk, hlv, hm, e2, e1, e3, e4, e5⟩ := id hRC
  obtain ⟨hrc, hro, hra, hrd, f1, f2, f3, f4⟩ := id hRR
  obtain ⟨hdn, hdr, hdk, hdl, hdm⟩ := id hRD
  obtain ⟨ht0, ht1, ht2, htl, hts, htc⟩ := id hRT
  refine x_aload_n X dL_law_854 rfl (lv_at hl 2 rfl) ?_
  refine x_aload_n X dL_law_855 rfl (lv_at hl 3 rfl) ?_
  refine x_iload_n X dL_law_856 rfl (lv_at hl 0 rfl) ?_
  refine x_iconst (v := nI 1) X dL_law_857 (by decide) ?_
  refine n_iadd X dL_law_858 ?_
  refine x_sld X hW hX hbl hbA (j := i + 1) (by omega) (by omega) dL_law_859 ?_
  refine x_aload_n X dL_law_860 rfl (lv_at hl 3 rfl) ?_
  refine x_iload_n X dL_law_861 rfl (lv_at hl 0 rfl) ?_
  refine x_iconst (v := nI 2) X dL_law_862 (by decide) ?_
  refine n_iadd X dL_law_863 ?_
  refine x_sld X hW hX hbl hbA (j := i + 2) (by omega) (by omega) dL_law_864 ?_
  refine x_aload_n X dL_law_865 rfl (lv_at hl 3 rfl) ?_
  refine x_iload_n X dL_law_866 rfl (lv_at hl 0 rfl) ?_
  refine x_iconst (v := nI 3) X dL_law_867 (by decide) ?_
  refine n_iadd X dL_law_868 ?_
  refine x_sld X hW hX hbl hbA (j := i + 3) (by omega) (by omega) dL_law_869 ?_
  refine x_aload_n X dL_law_870 rfl (lv_at hl 3 rfl) ?_
  refine x_iload_n X dL_law_871 rfl (lv_at hl 0 rfl) ?_
  refine x_iconst (v := nI 4) X dL_law_872 (by decide) ?_
  refine n_iadd X dL_law_873 ?_
  refine x_sld X hW hX hbl hbA (j := i + 4) (by omega) (by omega) dL_law_874 ?_
  refine x_aload_n X dL_law_875 rfl (lv_at hl 3 rfl) ?_
  refine x_iload_n X dL_law_876 rfl (lv_at hl 0 rfl) ?_
  refine x_iconst (v := nI 5) X dL_law_877 (by decide) ?_
  refine n_iadd X dL_law_878 ?_
  refine x_sld X hW hX hbl hbA (j := i + 5) (by omega) (by omega) dL_law_879 ?_
  refine x_pcallVi X hW (As := [.int (xs (i + 1)), .int (xs (i + 2)), .int (xs (i + 3)), .int (xs (i + 4)), .int (xs (i + 5))]) (rest := []) (wz := fun u => (wX cI cZ xq xa (sF xg 6 (fCopy (fun z => tg z 0) (mF 26) (fun z => tg z 2) (xs (i + 1)) (xs (i + 2)) (xs (i + 3)) (xs (i + 4)) (xs (i + 5)))) xh ++ (wA cO (xa 0) ys ++ (wC cI cZ (xa 1) ca cg cF ++ (wC cI cZ (xa 2) da dg dF ++ (wR cI cZ (xa 3) ra rg rF rE ++ (wS cI cZ (xa 4) za zg zh zk zF ++ (wT cI cZ (ys 0) (ta 0) (tg 0) ++ (wB cI ((ta 0) 3) (onR (xs (i + 1)) 4 (tf 0) (fun _ => onR (xs (i + 3)) 4 (tf 0) (fun _ => if copF (fun z => tg z 0) (mF 26) (fun z => tg z 2) 1 0 (xs (i + 2)) (xs (i + 4)) (xs (i + 5)) = 0 then mv (tf 0) (tf 1) (xs (i + 4)).toNatClampNeg (xs (i + 2)).toNatClampNeg (xs (i + 5)).toNatClampNeg else (tf 0)))) ++ (wT cI cZ (ys 1) (ta 1) (tg 1) ++ (wB cI ((ta 1) 3) (tf 1) ++ (wT cI cZ (ys 2) (ta 2) (tg 2) ++ (wB cI ((ta 2) 3) (tf 2) ++ (wT cI cZ (ys 3) (ta 3) (tg 3) ++ (wB cI ((ta 3) 3) (tf 3) ++ (wM cI cZ mq ma mg mh mF mE)))))))))))))))) (wC cI cZ (xa 1) ca cg cF ++ (wC cI cZ (xa 2) da dg dF ++ (wR cI cZ (xa 3) ra rg rF rE ++ (wS cI cZ (xa 4) za zg zh zk zF ++ (wT cI cZ (ys 2) (ta 2) (tg 2) ++ (wB cI ((ta 2) 3) (tf 2) ++ (wT cI cZ (ys 3) (ta 3) (tg 3) ++ (wB cI ((ta 3) 3) (tf 3) ++ (wM cI cZ mq ma mg mh mF mE))))))))) (c_X5_copyP l D cI cZ cO xq xa xg xh ys (ta 1) (tg 1) (tf 1) (ta 0) (tg 0) (tf 0) _ (xs (i + 1)) (xs (i + 2)) (xs (i + 3)) (xs (i + 4)) (xs (i + 5)) 1 0 (fun z => tg z 0) (mF 26) (fun z => tg z 2) (show 1 < 4 from (by decide)) (show ((tg 1) 2) ≤ 60 from ht2 1) (show ((tg 1) 0) ≤ 1 from ht0 1) (show ((tg 1) 1) ≤ 2 from ht1 1) (show (fun z => tg z 0) 1 = ((tg 1) 0) from rfl) (show (mF 26) 1 = ((tg 1) 1) from htl 1) (show (fun z => tg z 2) 1 = ((tg 1) 2) from rfl) (show 0 < 4 from (by decide)) (show ((tg 0) 2) ≤ 60 from ht2 0) (show ((tg 0) 0) ≤ 1 from ht0 0) (show ((tg 0) 1) ≤ 2 from ht1 0) (show (fun z => tg z 0) 0 = ((tg 0) 0) from rfl) (show (mF 26) 0 = ((tg 0) 1) from htl 0) (show (fun z => tg z 2) 0 = ((tg 0) 2) from rfl) (show ¬ inR (xs (i + 1)) 4 ∨ (xs (i + 1)) = nI 1 from hkj) (show ¬ inR (xs (i + 3)) 4 ∨ (xs (i + 3)) = nI 0 from hoj)) (cwV 5 X.2.2.2.2.2.1 gL_law_X5_copy rfl rfl rfl (by decide +kernel) ⟨Nat.le_of_ble_eq_true rfl, Nat.le_of_ble_eq_true rfl⟩) 4 rfl rfl rfl (apn (mfr _ _) (apn (mfr _ _) (apn (mf (mf (mf (mf (mf (mf (mfr _ _))))))) (apn (mf (mf (mf (mf (mf (mf (mfr _ _))))))) (apn (mf (mf (mf (mf (mfr _ _))))) (mf (mf (mf (mf (mfr _ _)))))))))) (fun u => (apn (mfr _ _) (apn (mfr _ _) (apn (mf (mf (mf (mf (mf (mf (mfr _ _))))))) (apn (mf (mf (mf (mf (mf (mf (mfr _ _))))))) (apn (mf (mf (mf (mf (mfr _ _))))) (mf (mf (mf (mf (mfr _ _))))))))))) rfl hl.1 rfl (Nat.le_of_ble_eq_true rfl) ⟨Nat.le_of_ble_eq_true rfl, Nat.le_of_ble_eq_true rfl⟩ dL_law_880 (fun r1 u2 H locs w880 hW => ?_)
  have hW : Wd D A s.heap H locs (wX cI cZ xq xa (sF xg 6 (fCopy (fun z => tg z 0) (mF 26) (fun z => tg z 2) (xs (i + 1)) (xs (i + 2)) (xs (i + 3)) (xs (i + 4)) (xs (i + 5)))) xh ++ (wA cO (xa 0) ys ++ (wC cI cZ (xa 1) ca cg cF ++ (wC cI cZ (xa 2) da dg dF ++ (wR cI cZ (xa 3) ra rg rF rE ++ (wS cI cZ (xa 4) za zg zh zk zF ++ (wT cI cZ (ys 0) (ta 0) (tg 0) ++ (wB cI ((ta 0) 3) (onR (xs (i + 1)) 4 (tf 0) (fun _ => onR (xs (i + 3)) 4 (tf 0) (fun _ => if copF (fun z => tg z 0) (mF 26) (fun z => tg z 2) 1 0 (xs (i + 2)) (xs (i + 4)) (xs (i + 5)) = 0 then mv (tf 0) (tf 1) (xs (i + 4)).toNatClampNeg (xs (i + 2)).toNatClampNeg (xs (i + 5)).toNatClampNeg else (tf 0)))) ++ (wT cI cZ (ys 1) (ta 1) (tg 1) ++ (wB cI ((ta 1) 3) (tf 1) ++ (wT cI cZ (ys 2) (ta 2) (tg 2) ++ (wB cI ((ta 2) 3) (tf 2) ++ (wT cI cZ (ys 3) (ta 3) (tg 3) ++ (wB cI ((ta 3) 3) (tf 3) ++ (wM cI cZ mq ma mg mh mF mE))))))))))))))) := hW
  replace w880 : r1 = aCopy (fun z => tg z 0) (mF 26) (fun z => tg z 2) (xs (i + 1)) (xs (i + 2)) (xs (i + 3)) (xs (i + 4)) (xs (i + 5)) := w880
  subst w880
  refine x_aload_n X dL_law_883 rfl (lv_at hl 1 rfl) ?_
  refine x_aload_n X dL_law_884 rfl (lv_at hl 3 rfl) ?_
  refine x_iload_n X dL_law_885 rfl (lv_at hl 0 rfl) ?_
  refine x_iconst (v := nI 1) X dL_law_886 (by decide) ?_
  refine n_iadd X dL_law_887 ?_
  refine x_sld X hW hX hbl hbA (j := i + 1) (by omega) (by omega) dL_law_888 ?_
  refine x_aload_n X dL_law_889 rfl (lv_at hl 3 rfl) ?_
  refine x_iload_n X dL_law_890 rfl (lv_at hl 0 rfl) ?_
  refine x_iconst (v := nI 2) X dL_law_891 (by decide) ?_
  refine n_iadd X dL_law_892 ?_
  refine x_sld X hW hX hbl hbA (j := i + 2) (by omega) (by omega) dL_law_893 ?_
  refine x_aload_n X dL_law_894 rfl (lv_at hl 3 rfl) ?_
  refine x_iload_n X dL_law_895 rfl (lv_at hl 0 rfl) ?_
  refine x_iconst (v := nI 3) X dL_law_896 (by decide) ?_
  refine n_iadd X dL_law_897 ?_
  refine x_sld X hW hX hbl hbA (j := i + 3) (by omega) (by omega) dL_law_898 ?_
  refine x_aload_n X dL_law_899 rfl (lv_at hl 3 rfl) ?_
  refine x_iload_n X dL_law_900 rfl (lv_at hl 0 rfl) ?_
  refine x_iconst (v := nI 4) X dL_law_901 (by decide) ?_
  refine n_iadd X dL_law_902 ?_
  refine x_sld X hW hX hbl hbA (j := i + 4) (by omega) (by omega) dL_law_903 ?_
  refine x_aload_n X dL_law_904 rfl (lv_at hl 3 rfl) ?_
  refine x_iload_n X dL_law_905 rfl (lv_at hl 0 rfl) ?_
  refine x_iconst (v := nI 5) X dL_law_906 (by decide) ?_
  refine n_iadd X dL_law_907 ?_
  refine x_sld X hW hX hbl hbA (j := i + 5) (by omega) (by omega) dL_law_908 ?_
  refine x_pcallVi X hW (As := [.int (xs (i + 1)), .int (xs (i + 2)), .int (xs (i + 3)), .int (xs (i + 4)), .int (xs (i + 5))]) (rest := [.int (aCopy (fun z => tg z 0) (mF 26) (fun z => tg z 2) (xs (i + 1)) (xs (i + 2)) (xs (i + 3)) (xs (i + 4)) (xs (i + 5)))]) (wz := fun u => (wX cI cZ xq xa (sF xg 6 (fCopy (fun z => tg z 0) (mF 26) (fun z => tg z 2) (xs (i + 1)) (xs (i + 2)) (xs (i + 3)) (xs (i + 4)) (xs (i + 5)))) xh ++ (wA cO (xa 0) ys ++ (wC cI cZ (xa 1) ca cg cF ++ (wC cI cZ (xa 2) da dg dF ++ (wR cI cZ (xa 3) ra rg rF rE ++ (wS cI cZ (xa 4) za zg zh zk zF ++ (wT cI cZ (ys 0) (ta 0) (tg 0) ++ (wB cI ((ta 0) 3) (onR (xs (i + 1)) 4 (tf 0) (fun _ => onR (xs (i + 3)) 4 (tf 0) (fun _ => if copF (fun z => tg z 0) (mF 26) (fun z => tg z 2) 1 0 (xs (i + 2)) (xs (i + 4)) (xs (i + 5)) = 0 then mv (tf 0) (tf 1) (xs (i + 4)).toNatClampNeg (xs (i + 2)).toNatClampNeg (xs (i + 5)).toNatClampNeg else (tf 0)))) ++ (wT cI cZ (ys 1) (ta 1) (tg 1) ++ (wB cI ((ta 1) 3) (tf 1) ++ (wT cI cZ (ys 2) (ta 2) (tg 2) ++ (wB cI ((ta 2) 3) (tf 2) ++ (wT cI cZ (ys 3) (ta 3) (tg 3) ++ (wB cI ((ta 3) 3) (tf 3) ++ (wM cI cZ mq ma (sF mg 0 (fCopy (fun z => tg z 0) ((mF 26)) (fun z => tg z 2) (xs (i + 1)) (xs (i + 2)) (xs (i + 3)) (xs (i + 4)) (xs (i + 5)))) mh mF (sF (sF mE 27 (sCopy (fun z => tg z 0) ((mF 26)) (fun z => tg z 2) (xs (i + 1)) (xs (i + 2)) (xs (i + 3)) (xs (i + 4)) (xs (i + 5)) ((mE 27)))) 28 u))))))))))))))))) (wX cI cZ xq xa (sF xg 6 (fCopy (fun z => tg z 0) (mF 26) (fun z => tg z 2) (xs (i + 1)) (xs (i + 2)) (xs (i + 3)) (xs (i + 4)) (xs (i + 5)))) xh ++ (wA cO (xa 0) ys ++ (wC cI cZ (xa 1) ca cg cF ++ (wC cI cZ (xa 2) da dg dF ++ (wR cI cZ (xa 3) ra rg rF rE ++ (wS cI cZ (xa 4) za zg zh zk zF ++ (wT cI cZ (ys 0) (ta 0) (tg 0) ++ (wB cI ((ta 0) 3) (onR (xs (i + 1)) 4 (tf 0) (fun _ => onR (xs (i + 3)) 4 (tf 0) (fun _ => if copF (fun z => tg z 0) (mF 26) (fun z => tg z 2) 1 0 (xs (i + 2)) (xs (i + 4)) (xs (i + 5)) = 0 then mv (tf 0) (tf 1) (xs (i + 4)).toNatClampNeg (xs (i + 2)).toNatClampNeg (xs (i + 5)).toNatClampNeg else (tf 0)))) ++ (wT cI cZ (ys 1) (ta 1) (tg 1) ++ (wB cI ((ta 1) 3) (tf 1) ++ (wT cI cZ (ys 2) (ta 2) (tg 2) ++ (wB cI ((ta 2) 3) (tf 2) ++ (wT cI cZ (ys 3) (ta 3) (tg 3) ++ (wB cI ((ta 3) 3) (tf 3))))))))))))))) (c_X6_copy l D cI cZ cO mq ma mg mh mF mE _ (xs (i + 1)) (xs (i + 2)) (xs (i + 3)) (xs (i + 4)) (xs (i + 5)) (fun z => tg z 0) (fun z => tg z 2) (show ∀ z, z < 4 → ((fun z => tg z 0) z = 0 ∧ (mE 25) z = (-1 : Int32)) ∨ ((fun z => tg z 0) z = 1 ∧ (mE 25) z = nI ((fun z => tg z 2) z)) from hts) (show ∀ z0, (fun z => tg z 2) z0 ≤ 60 from ht2) (show ∀ z0, (mF 26) z0 ≤ 2 from (fun z => by rw [htl]; exact ht1 z))) (cwV 5 X.2.2.2.2.2.1 gL_law_X6_copy rfl rfl rfl (by decide +kernel) ⟨Nat.le_of_ble_eq_true rfl, Nat.le_of_ble_eq_true rfl⟩) 5 rfl rfl rfl (ap1 (mf (mf (mf (mf (mf (mf (mf (mf (mf (mf (mf (mf (mf mf0)))))))))))))) (fun u => (ap1 (mf (mf (mf (mf (mf (mf (mf (mf (mf (mf (mf (mf (mf mf0))))))))))))))) rfl hl.1 rfl (Nat.le_of_ble_eq_true rfl) ⟨Nat.le_of_ble_eq_true rfl, Nat.le_of_ble_eq_true rfl⟩ dL_law_909 (fun r4 u5 H locs w909 hW => ?_)
  obtain ⟨o1_3, o1_3e⟩ : ∃ z, z = u5 := ⟨_, rfl⟩
  subst o1_3e
  have hW : Wd D A s.heap H locs (wX cI cZ xq xa (sF xg 6 (fCopy (fun z => tg z 0) (mF 26) (fun z => tg z 2) (xs (i + 1)) (xs (i + 2)) (xs (i + 3)) (xs (i + 4)) (xs (i + 5)))) xh ++ (wA cO (xa 0) ys ++ (wC cI cZ (xa 1) ca cg cF ++ (wC cI cZ (xa 2) da dg dF ++ (wR cI cZ (xa 3) ra rg rF rE ++ (wS cI cZ (xa 4) za zg zh zk zF ++ (wT cI cZ (ys 0) (ta 0) (tg 0) ++ (wB cI ((ta 0) 3) (onR (xs (i + 1)) 4 (tf 0) (fun _ => onR (xs (i + 3)) 4 (tf 0) (fun _ => if copF (fun z => tg z 0) (mF 26) (fun z => tg z 2) 1 0 (xs (i + 2)) (xs (i + 4)) (xs (i + 5)) = 0 then mv (tf 0) (tf 1) (xs (i + 4)).toNatClampNeg (xs (i + 2)).toNatClampNeg (xs (i + 5)).toNatClampNeg else (tf 0)))) ++ (wT cI cZ (ys 1) (ta 1) (tg 1) ++ (wB cI ((ta 1) 3) (tf 1) ++ (wT cI cZ (ys 2) (ta 2) (tg 2) ++ (wB cI ((ta 2) 3) (tf 2) ++ (wT cI cZ (ys 3) (ta 3) (tg 3) ++ (wB cI ((ta 3) 3) (tf 3) ++ (wM cI cZ mq ma (sF mg 0 (fCopy (fun z => tg z 0) ((mF 26)) (fun z => tg z 2) (xs (i + 1)) (xs (i + 2)) (xs (i + 3)) (xs (i + 4)) (xs (i + 5)))) mh mF (sF (sF mE 27 (sCopy (fun z => tg z 0) ((mF 26)) (fun z => tg z 2) (xs (i + 1)) (xs (i + 2)) (xs (i + 3)) (xs (i + 4)) (xs (i + 5)) ((mE 27)))) 28 o1_3)))))))))))))))) := hW
  replace w909 : r4 = aCopy (fun z => tg z 0) ((mF 26)) (fun z => tg z 2) (xs (i + 1)) (xs (i + 2)) (xs (i + 3)) (xs (i + 4)) (xs (i + 5)) := w909
  subst w909
  refine x_icmp_eq X 1045 dL_law_912 (by decide) (fun c912 => ?_) (fun c912 => by exact absurd (by (try rw [e1]); (try rw [e2]); (try rw [e3]); (try rw [e4]); (try rw [e5]); (try rw [f1]); (try rw [f2]); (try rw [f3]); (try rw [f4]); (try rfl)) c912)
  exact next _ _ _ ⟨xa, (sF xg 6 (fCopy (fun z => tg z 0) (mF 26) (fun z => tg z 2) (xs (i + 1)) (xs (i + 2)) (xs (i + 3)) (xs (i + 4)) (xs (i + 5)))), xh, ys, ca, cg, cF, da, dg, dF, ra, rg, rF, rE, za, zg, zh, zk, zF, ma, (sF mg 0 (fCopy (fun z => tg z 0) ((mF 26)) (fun z => tg z 2) (xs (i + 1)) (xs (i + 2)) (xs (i + 3)) (xs (i + 4)) (xs (i + 5)))), mh, mF, (sF (sF mE 27 (sCopy (fun z => tg z 0) ((mF 26)) (fun z => tg z 2) (xs (i + 1)) (xs (i + 2)) (xs (i + 3)) (xs (i + 4)) (xs (i + 5)) ((mE 27)))) 28 o1_3), ta, tg, (sF tf 0 (onR (xs (i + 1)) 4 (tf 0) (fun _ => onR (xs (i + 3)) 4 (tf 0) (fun _ => if copF (fun z => tg z 0) (mF 26) (fun z => tg z 2) 1 0 (xs (i + 2)) (xs (i + 4)) (xs (i + 5)) = 0 then mv (tf 0) (tf 1) (xs (i + 4)).toNatClampNeg (xs (i + 2)).toNatClampNeg (xs (i + 5)).toNatClampNeg else (tf 0))))), hW, hRC, hRR, hRD, hSK, RT_copy hRT (show 1 < 4 by decide) (show 0 < 4 by decide) hkj hoj, ⟨hRX.1, rfl⟩, hRM⟩ (lv_sub hl [0, 1, 2, 3] rfl)
set_option maxHeartbeats 4000000 in
set_option maxRecDepth 100000 in
theorem law_copy_1_1 {p : Program} {e : Env} {s : State} {m : MethodId} {below : List Frame} {meth : Method} {c : Code} {D : va_G} {cI cZ cO : ClassId} {A : Nat → Prop} {Q : State → Prop} {l : Launch} {b L xq mq i : Nat} {xs : Nat → Int32} {H : Heap} {locs : List Loc} {ls : Array Slot} (X : Fx p s m #[Value.ref b] meth c code 4 ret wsL_law RL D (ty3 cI cZ cO) A) (hX : va_X b L xs s s.heap) (hbl : b < s.heap.size) (hbA : ¬ A b) (hL : L ≤ 3072) (hi : i + 6 ≤ L) (hI : lw_I D cI cZ cO A s.heap xq mq H locs) (hl : lv_has ls 4 [(3, .int (nI i)), (2, .ref mq), (1, .ref xq), (0, .ref b)]) (hkj : xs (i + 1) = nI 1) (hoj : xs (i + 3) = nI 1) (next : ∀ (H : Heap) (locs : List Loc) (ls : Array Slot), lw_I D cI cZ cO A s.heap xq mq H locs → lv_has ls 4 [(3, .int (nI i)), (2, .ref mq), (1, .ref xq), (0, .ref b)] → W p l e room_1 s m #[Value.ref b] below meth c H locs 600000 7302250 Q (F0 m 1045 ls [])) : W p l e room_1 s m #[Value.ref b] below meth c H locs 600000 7302250 Q (F0 m 854 ls []) := by
  obtain ⟨xa, xg, xh, ys, ca, cg, cF, da, dg, dF, ra, rg, rF, rE, za, zg, zh, zk, zF, ma, mg, mh, mF, mE, ta, tg, tf, hW, hRC, hRR, hRD, hSK, hRT, hRX, hRM⟩ := hI
  have hW : Wd D A s.heap H locs (wX cI cZ xq xa xg xh ++ (wA cO (xa 0) ys ++ (wC cI cZ (xa 1) ca cg cF ++ (wC cI cZ (xa 2) da dg dF ++ (wR cI cZ (xa 3) ra rg rF rE ++ (wS cI cZ (xa 4) za zg zh zk zF ++ (wT cI cZ (ys 0) (ta 0) (tg 0) ++ (wB cI ((ta 0) 3) (tf 0) ++ (wT cI cZ (ys 1) (ta 1) (tg 1) ++ (wB cI ((ta 1) 3) (tf 1) ++ (wT cI cZ (ys 2) (ta 2) (tg 2) ++ (wB cI ((ta 2) 3) (tf 2) ++ (wT cI cZ (ys 3) (ta 3) (tg 3) ++ (wB cI ((ta 3) 3) (tf 3) ++ (wM cI cZ mq ma mg mh mF mE))))))))))))))) := hW
  obtain ⟨h02, hn, hrn, hk, hlv, hm, e2, e1, e3, e4, e5⟩ := id hRC
  obtain ⟨hrc, hro, hra, hrd, f1, f2, f3, f4⟩ := id hRR
  obtain ⟨hdn, hdr, hdk, hdl, hdm⟩ := id hRD
  obtain ⟨ht0, ht1, ht2, htl, hts, htc⟩ := id hRT
  refine x_aload_n X dL_law_854 rfl (lv_at hl 2 rfl) ?_
  refine x_aload_n X dL_law_855 rfl (lv_at hl 3 rfl) ?_
  refine x_iload_n X dL_law_856 rfl (lv_at hl 0 rfl) ?_
  refine x_iconst (v := nI 1) X dL_law_857 (by decide) ?_
  refine n_iadd X dL_law_858 ?_
  refine x_sld X hW hX hbl hbA (j := i + 1) (by omega) (by omega) dL_law_859 ?_
  refine x_aload_n X dL_law_860 rfl (lv_at hl 3 rfl) ?_
  refine x_iload_n X dL_law_861 rfl (lv_at hl 0 rfl) ?_
  refine x_iconst (v := nI 2) X dL_law_862 (by decide) ?_
  refine n_iadd X dL_law_863 ?_
  refine x_sld X hW hX hbl hbA (j := i + 2) (by omega) (by omega) dL_law_864 ?_
  refine x_aload_n X dL_law_865 rfl (lv_at hl 3 rfl) ?_
  refine x_iload_n X dL_law_866 rfl (lv_at hl 0 rfl) ?_
  refine x_iconst (v := nI 3) X dL_law_867 (by decide) ?_
  refine n_iadd X dL_law_868 ?_
  refine x_sld X hW hX hbl hbA (j := i + 3) (by omega) (by omega) dL_law_869 ?_
  refine x_aload_n X dL_law_870 rfl (lv_at hl 3 rfl) ?_
  refine x_iload_n X dL_law_871 rfl (lv_at hl 0 rfl) ?_
  refine x_iconst (v := nI 4) X dL_law_872 (by decide) ?_
  refine n_iadd X dL_law_873 ?_
  refine x_sld X hW hX hbl hbA (j := i + 4) (by omega) (by omega) dL_law_874 ?_
  refine x_aload_n X dL_law_875 rfl (lv_at hl 3 rfl) ?_
  refine x_iload_n X dL_law_876 rfl (lv_at hl 0 rfl) ?_
  refine x_iconst (v := nI 5) X dL_law_877 (by decide) ?_
  refine n_iadd X dL_law_878 ?_
  refine x_sld X hW hX hbl hbA (j := i + 5) (by omega) (by omega) dL_law_879 ?_
  refine x_pcallVi X hW (As := [.int (xs (i + 1)), .int (xs (i + 2)), .int (xs (i + 3)), .int (xs (i + 4)), .int (xs (i + 5))]) (rest := []) (wz := fun u => (wX cI cZ xq xa (sF xg 6 (fCopy (fun z => tg z 0) (mF 26) (fun z => tg z 2) (xs (i + 1)) (xs (i + 2)) (xs (i + 3)) (xs (i + 4)) (xs (i + 5)))) xh ++ (wA cO (xa 0) ys ++ (wC cI cZ (xa 1) ca cg cF ++ (wC cI cZ (xa 2) da dg dF ++ (wR cI cZ (xa 3) ra rg rF rE ++ (wS cI cZ (xa 4) za zg zh zk zF ++ (wT cI cZ (ys 0) (ta 0) (tg 0) ++ (wB cI ((ta 0) 3) (tf 0) ++ (wT cI cZ (ys 1) (ta 1) (tg 1) ++ (wB cI ((ta 1) 3) (onR (xs (i + 1)) 4 (tf 1) (fun _ => onR (xs (i + 3)) 4 (tf 1) (fun _ => if copF (fun z => tg z 0) (mF 26) (fun z => tg z 2) 1 1 (xs (i + 2)) (xs (i + 4)) (xs (i + 5)) = 0 then mv (tf 1) (tf 1) (xs (i + 4)).toNatClampNeg (xs (i + 2)).toNatClampNeg (xs (i + 5)).toNatClampNeg else (tf 1)))) ++ (wT cI cZ (ys 2) (ta 2) (tg 2) ++ (wB cI ((ta 2) 3) (tf 2) ++ (wT cI cZ (ys 3) (ta 3) (tg 3) ++ (wB cI ((ta 3) 3) (tf 3) ++ (wM cI cZ mq ma mg mh mF mE)))))))))))))))) (wC cI cZ (xa 1) ca cg cF ++ (wC cI cZ (xa 2) da dg dF ++ (wR cI cZ (xa 3) ra rg rF rE ++ (wS cI cZ (xa 4) za zg zh zk zF ++ (wT cI cZ (ys 0) (ta 0) (tg 0) ++ (wB cI ((ta 0) 3) (tf 0) ++ (wT cI cZ (ys 2) (ta 2) (tg 2) ++ (wB cI ((ta 2) 3) (tf 2) ++ (wT cI cZ (ys 3) (ta 3) (tg 3) ++ (wB cI ((ta 3) 3) (tf 3) ++ (wM cI cZ mq ma mg mh mF mE))))))))))) (c_X5_copyS l D cI cZ cO xq xa xg xh ys (ta 1) (tg 1) (tf 1) _ (xs (i + 1)) (xs (i + 2)) (xs (i + 3)) (xs (i + 4)) (xs (i + 5)) 1 (fun z => tg z 0) (mF 26) (fun z => tg z 2) (show 1 < 4 from (by decide)) (show ((tg 1) 2) ≤ 60 from ht2 1) (show ((tg 1) 0) ≤ 1 from ht0 1) (show ((tg 1) 1) ≤ 2 from ht1 1) (show (fun z => tg z 0) 1 = ((tg 1) 0) from rfl) (show (mF 26) 1 = ((tg 1) 1) from htl 1) (show (fun z => tg z 2) 1 = ((tg 1) 2) from rfl) (show (xs (i + 1)) = nI 1 from hkj) (show (xs (i + 3)) = nI 1 from hoj)) (cwV 5 X.2.2.2.2.2.1 gL_law_X5_copy rfl rfl rfl (by decide +kernel) ⟨Nat.le_of_ble_eq_true rfl, Nat.le_of_ble_eq_true rfl⟩) 4 rfl rfl rfl (apn (mfr _ _) (apn (mfr _ _) (apn (mf (mf (mf (mf (mf (mf (mfr _ _))))))) (mf (mf (mf (mf (mf (mf (mfr _ _)))))))))) (fun u => (apn (mfr _ _) (apn (mfr _ _) (apn (mf (mf (mf (mf (mf (mf (mfr _ _))))))) (mf (mf (mf (mf (mf (mf (mfr _ _))))))))))) rfl hl.1 rfl (Nat.le_of_ble_eq_true rfl) ⟨Nat.le_of_ble_eq_true rfl, Nat.le_of_ble_eq_true rfl⟩ dL_law_880 (fun r1 u2 H locs w880 hW => ?_)
  have hW : Wd D A s.heap H locs (wX cI cZ xq xa (sF xg 6 (fCopy (fun z => tg z 0) (mF 26) (fun z => tg z 2) (xs (i + 1)) (xs (i + 2)) (xs (i + 3)) (xs (i + 4)) (xs (i + 5)))) xh ++ (wA cO (xa 0) ys ++ (wC cI cZ (xa 1) ca cg cF ++ (wC cI cZ (xa 2) da dg dF ++ (wR cI cZ (xa 3) ra rg rF rE ++ (wS cI cZ (xa 4) za zg zh zk zF ++ (wT cI cZ (ys 0) (ta 0) (tg 0) ++ (wB cI ((ta 0) 3) (tf 0) ++ (wT cI cZ (ys 1) (ta 1) (tg 1) ++ (wB cI ((ta 1) 3) (onR (xs (i + 1)) 4 (tf 1) (fun _ => onR (xs (i + 3)) 4 (tf 1) (fun _ => if copF (fun z => tg z 0) (mF 26) (fun z => tg z 2) 1 1 (xs (i + 2)) (xs (i + 4)) (xs (i + 5)) = 0 then mv (tf 1) (tf 1) (xs (i + 4)).toNatClampNeg (xs (i + 2)).toNatClampNeg (xs (i + 5)).toNatClampNeg else (tf 1)))) ++ (wT cI cZ (ys 2) (ta 2) (tg 2) ++ (wB cI ((ta 2) 3) (tf 2) ++ (wT cI cZ (ys 3) (ta 3) (tg 3) ++ (wB cI ((ta 3) 3) (tf 3) ++ (wM cI cZ mq ma mg mh mF mE))))))))))))))) := hW
  replace w880 : r1 = aCopy (fun z => tg z 0) (mF 26) (fun z => tg z 2) (xs (i + 1)) (xs (i + 2)) (xs (i + 3)) (xs (i + 4)) (xs (i + 5)) := w880
  subst w880
  refine x_aload_n X dL_law_883 rfl (lv_at hl 1 rfl) ?_
  refine x_aload_n X dL_law_884 rfl (lv_at hl 3 rfl) ?_
  refine x_iload_n X dL_law_885 rfl (lv_at hl 0 rfl) ?_
  refine x_iconst (v := nI 1) X dL_law_886 (by decide) ?_
  refine n_iadd X dL_law_887 ?_
  refine x_sld X hW hX hbl hbA (j := i + 1) (by omega) (by omega) dL_law_888 ?_
  refine x_aload_n X dL_law_889 rfl (lv_at hl 3 rfl) ?_
  refine x_iload_n X dL_law_890 rfl (lv_at hl 0 rfl) ?_
  refine x_iconst (v := nI 2) X dL_law_891 (by decide) ?_
  refine n_iadd X dL_law_892 ?_
  refine x_sld X hW hX hbl hbA (j := i + 2) (by omega) (by omega) dL_law_893 ?_
  refine x_aload_n X dL_law_894 rfl (lv_at hl 3 rfl) ?_
  refine x_iload_n X dL_law_895 rfl (lv_at hl 0 rfl) ?_
  refine x_iconst (v := nI 3) X dL_law_896 (by decide) ?_
  refine n_iadd X dL_law_897 ?_
  refine x_sld X hW hX hbl hbA (j := i + 3) (by omega) (by omega) dL_law_898 ?_
  refine x_aload_n X dL_law_899 rfl (lv_at hl 3 rfl) ?_
  refine x_iload_n X dL_law_900 rfl (lv_at hl 0 rfl) ?_
  refine x_iconst (v := nI 4) X dL_law_901 (by decide) ?_
  refine n_iadd X dL_law_902 ?_
  refine x_sld X hW hX hbl hbA (j := i + 4) (by omega) (by omega) dL_law_903 ?_
  refine x_aload_n X dL_law_904 rfl (lv_at hl 3 rfl) ?_
  refine x_iload_n X dL_law_905 rfl (lv_at hl 0 rfl) ?_
  refine x_iconst (v := nI 5) X dL_law_906 (by decide) ?_
  refine n_iadd X dL_law_907 ?_
  refine x_sld X hW hX hbl hbA (j := i + 5) (by omega) (by omega) dL_law_908 ?_
  refine x_pcallVi X hW (As := [.int (xs (i + 1)), .int (xs (i + 2)), .int (xs (i + 3)), .int (xs (i + 4)), .int (xs (i + 5))]) (rest := [.int (aCopy (fun z => tg z 0) (mF 26) (fun z => tg z 2) (xs (i + 1)) (xs (i + 2)) (xs (i + 3)) (xs (i + 4)) (xs (i + 5)))]) (wz := fun u => (wX cI cZ xq xa (sF xg 6 (fCopy (fun z => tg z 0) (mF 26) (fun z => tg z 2) (xs (i + 1)) (xs (i + 2)) (xs (i + 3)) (xs (i + 4)) (xs (i + 5)))) xh ++ (wA cO (xa 0) ys ++ (wC cI cZ (xa 1) ca cg cF ++ (wC cI cZ (xa 2) da dg dF ++ (wR cI cZ (xa 3) ra rg rF rE ++ (wS cI cZ (xa 4) za zg zh zk zF ++ (wT cI cZ (ys 0) (ta 0) (tg 0) ++ (wB cI ((ta 0) 3) (tf 0) ++ (wT cI cZ (ys 1) (ta 1) (tg 1) ++ (wB cI ((ta 1) 3) (onR (xs (i + 1)) 4 (tf 1) (fun _ => onR (xs (i + 3)) 4 (tf 1) (fun _ => if copF (fun z => tg z 0) (mF 26) (fun z => tg z 2) 1 1 (xs (i + 2)) (xs (i + 4)) (xs (i + 5)) = 0 then mv (tf 1) (tf 1) (xs (i + 4)).toNatClampNeg (xs (i + 2)).toNatClampNeg (xs (i + 5)).toNatClampNeg else (tf 1)))) ++ (wT cI cZ (ys 2) (ta 2) (tg 2) ++ (wB cI ((ta 2) 3) (tf 2) ++ (wT cI cZ (ys 3) (ta 3) (tg 3) ++ (wB cI ((ta 3) 3) (tf 3) ++ (wM cI cZ mq ma (sF mg 0 (fCopy (fun z => tg z 0) ((mF 26)) (fun z => tg z 2) (xs (i + 1)) (xs (i + 2)) (xs (i + 3)) (xs (i + 4)) (xs (i + 5)))) mh mF (sF (sF mE 27 (sCopy (fun z => tg z 0) ((mF 26)) (fun z => tg z 2) (xs (i + 1)) (xs (i + 2)) (xs (i + 3)) (xs (i + 4)) (xs (i + 5)) ((mE 27)))) 28 u))))))))))))))))) (wX cI cZ xq xa (sF xg 6 (fCopy (fun z => tg z 0) (mF 26) (fun z => tg z 2) (xs (i + 1)) (xs (i + 2)) (xs (i + 3)) (xs (i + 4)) (xs (i + 5)))) xh ++ (wA cO (xa 0) ys ++ (wC cI cZ (xa 1) ca cg cF ++ (wC cI cZ (xa 2) da dg dF ++ (wR cI cZ (xa 3) ra rg rF rE ++ (wS cI cZ (xa 4) za zg zh zk zF ++ (wT cI cZ (ys 0) (ta 0) (tg 0) ++ (wB cI ((ta 0) 3) (tf 0) ++ (wT cI cZ (ys 1) (ta 1) (tg 1) ++ (wB cI ((ta 1) 3) (onR (xs (i + 1)) 4 (tf 1) (fun _ => onR (xs (i + 3)) 4 (tf 1) (fun _ => if copF (fun z => tg z 0) (mF 26) (fun z => tg z 2) 1 1 (xs (i + 2)) (xs (i + 4)) (xs (i + 5)) = 0 then mv (tf 1) (tf 1) (xs (i + 4)).toNatClampNeg (xs (i + 2)).toNatClampNeg (xs (i + 5)).toNatClampNeg else (tf 1)))) ++ (wT cI cZ (ys 2) (ta 2) (tg 2) ++ (wB cI ((ta 2) 3) (tf 2) ++ (wT cI cZ (ys 3) (ta 3) (tg 3) ++ (wB cI ((ta 3) 3) (tf 3))))))))))))))) (c_X6_copy l D cI cZ cO mq ma mg mh mF mE _ (xs (i + 1)) (xs (i + 2)) (xs (i + 3)) (xs (i + 4)) (xs (i + 5)) (fun z => tg z 0) (fun z => tg z 2) (show ∀ z, z < 4 → ((fun z => tg z 0) z = 0 ∧ (mE 25) z = (-1 : Int32)) ∨ ((fun z => tg z 0) z = 1 ∧ (mE 25) z = nI ((fun z => tg z 2) z)) from hts) (show ∀ z0, (fun z => tg z 2) z0 ≤ 60 from ht2) (show ∀ z0, (mF 26) z0 ≤ 2 from (fun z => by rw [htl]; exact ht1 z))) (cwV 5 X.2.2.2.2.2.1 gL_law_X6_copy rfl rfl rfl (by decide +kernel) ⟨Nat.le_of_ble_eq_true rfl, Nat.le_of_ble_eq_true rfl⟩) 5 rfl rfl rfl (ap1 (mf (mf (mf (mf (mf (mf (mf (mf (mf (mf (mf (mf (mf mf0)))))))))))))) (fun u => (ap1 (mf (mf (mf (mf (mf (mf (mf (mf (mf (mf (mf (mf (mf mf0))))))))))))))) rfl hl.1 rfl (Nat.le_of_ble_eq_true rfl) ⟨Nat.le_of_ble_eq_true rfl, Nat.le_of_ble_eq_true rfl⟩ dL_law_909 (fun r4 u5 H locs w909 hW => ?_)
  obtain ⟨o1_3, o1_3e⟩ : ∃ z, z = u5 := ⟨_, rfl⟩
  subst o1_3e
  have hW : Wd D A s.heap H locs (wX cI cZ xq xa (sF xg 6 (fCopy (fun z => tg z 0) (mF 26) (fun z => tg z 2) (xs (i + 1)) (xs (i + 2)) (xs (i + 3)) (xs (i + 4)) (xs (i + 5)))) xh ++ (wA cO (xa 0) ys ++ (wC cI cZ (xa 1) ca cg cF ++ (wC cI cZ (xa 2) da dg dF ++ (wR cI cZ (xa 3) ra rg rF rE ++ (wS cI cZ (xa 4) za zg zh zk zF ++ (wT cI cZ (ys 0) (ta 0) (tg 0) ++ (wB cI ((ta 0) 3) (tf 0) ++ (wT cI cZ (ys 1) (ta 1) (tg 1) ++ (wB cI ((ta 1) 3) (onR (xs (i + 1)) 4 (tf 1) (fun _ => onR (xs (i + 3)) 4 (tf 1) (fun _ => if copF (fun z => tg z 0) (mF 26) (fun z => tg z 2) 1 1 (xs (i + 2)) (xs (i + 4)) (xs (i + 5)) = 0 then mv (tf 1) (tf 1) (xs (i + 4)).toNatClampNeg (xs (i + 2)).toNatClampNeg (xs (i + 5)).toNatClampNeg else (tf 1)))) ++ (wT cI cZ (ys 2) (ta 2) (tg 2) ++ (wB cI ((ta 2) 3) (tf 2) ++ (wT cI cZ (ys 3) (ta 3) (tg 3) ++ (wB cI ((ta 3) 3) (tf 3) ++ (wM cI cZ mq ma (sF mg 0 (fCopy (fun z => tg z 0) ((mF 26)) (fun z => tg z 2) (xs (i + 1)) (xs (i + 2)) (xs (i + 3)) (xs (i + 4)) (xs (i + 5)))) mh mF (sF (sF mE 27 (sCopy (fun z => tg z 0) ((mF 26)) (fun z => tg z 2) (xs (i + 1)) (xs (i + 2)) (xs (i + 3)) (xs (i + 4)) (xs (i + 5)) ((mE 27)))) 28 o1_3)))))))))))))))) := hW
  replace w909 : r4 = aCopy (fun z => tg z 0) ((mF 26)) (fun z => tg z 2) (xs (i + 1)) (xs (i + 2)) (xs (i + 3)) (xs (i + 4)) (xs (i + 5)) := w909
  subst w909
  refine x_icmp_eq X 1045 dL_law_912 (by decide) (fun c912 => ?_) (fun c912 => by exact absurd (by (try rw [e1]); (try rw [e2]); (try rw [e3]); (try rw [e4]); (try rw [e5]); (try rw [f1]); (try rw [f2]); (try rw [f3]); (try rw [f4]); (try rfl)) c912)
  exact next _ _ _ ⟨xa, (sF xg 6 (fCopy (fun z => tg z 0) (mF 26) (fun z => tg z 2) (xs (i + 1)) (xs (i + 2)) (xs (i + 3)) (xs (i + 4)) (xs (i + 5)))), xh, ys, ca, cg, cF, da, dg, dF, ra, rg, rF, rE, za, zg, zh, zk, zF, ma, (sF mg 0 (fCopy (fun z => tg z 0) ((mF 26)) (fun z => tg z 2) (xs (i + 1)) (xs (i + 2)) (xs (i + 3)) (xs (i + 4)) (xs (i + 5)))), mh, mF, (sF (sF mE 27 (sCopy (fun z => tg z 0) ((mF 26)) (fun z => tg z 2) (xs (i + 1)) (xs (i + 2)) (xs (i + 3)) (xs (i + 4)) (xs (i + 5)) ((mE 27)))) 28 o1_3), ta, tg, (sF tf 1 (onR (xs (i + 1)) 4 (tf 1) (fun _ => onR (xs (i + 3)) 4 (tf 1) (fun _ => if copF (fun z => tg z 0) (mF 26) (fun z => tg z 2) 1 1 (xs (i + 2)) (xs (i + 4)) (xs (i + 5)) = 0 then mv (tf 1) (tf 1) (xs (i + 4)).toNatClampNeg (xs (i + 2)).toNatClampNeg (xs (i + 5)).toNatClampNeg else (tf 1))))), hW, hRC, hRR, hRD, hSK, RT_copy hRT (show 1 < 4 by decide) (show 1 < 4 by decide) (Or.inr hkj) (Or.inr hoj), ⟨hRX.1, rfl⟩, hRM⟩ (lv_sub hl [0, 1, 2, 3] rfl)
set_option maxHeartbeats 4000000 in
set_option maxRecDepth 100000 in
theorem law_copy_1_2 {p : Program} {e : Env} {s : State} {m : MethodId} {below : List Frame} {meth : Method} {c : Code} {D : va_G} {cI cZ cO : ClassId} {A : Nat → Prop} {Q : State → Prop} {l : Launch} {b L xq mq i : Nat} {xs : Nat → Int32} {H : Heap} {locs : List Loc} {ls : Array Slot} (X : Fx p s m #[Value.ref b] meth c code 4 ret wsL_law RL D (ty3 cI cZ cO) A) (hX : va_X b L xs s s.heap) (hbl : b < s.heap.size) (hbA : ¬ A b) (hL : L ≤ 3072) (hi : i + 6 ≤ L) (hI : lw_I D cI cZ cO A s.heap xq mq H locs) (hl : lv_has ls 4 [(3, .int (nI i)), (2, .ref mq), (1, .ref xq), (0, .ref b)]) (hkj : ¬ inR (xs (i + 1)) 4 ∨ xs (i + 1) = nI 1) (hoj : ¬ inR (xs (i + 3)) 4 ∨ xs (i + 3) = nI 2) (next : ∀ (H : Heap) (locs : List Loc) (ls : Array Slot), lw_I D cI cZ cO A s.heap xq mq H locs → lv_has ls 4 [(3, .int (nI i)), (2, .ref mq), (1, .ref xq), (0, .ref b)] → W p l e room_1 s m #[Value.ref b] below meth c H locs 600000 7302250 Q (F0 m 1045 ls [])) : W p l e room_1 s m #[Value.ref b] below meth c H locs 600000 7302250 Q (F0 m 854 ls []) := by
  obtain ⟨xa, xg, xh, ys, ca, cg, cF, da, dg, dF, ra, rg, rF, rE, za, zg, zh, zk, zF, ma, mg, mh, mF, mE, ta, tg, tf, hW, hRC, hRR, hRD, hSK, hRT, hRX, hRM⟩ := hI
  have hW : Wd D A s.heap H locs (wX cI cZ xq xa xg xh ++ (wA cO (xa 0) ys ++ (wC cI cZ (xa 1) ca cg cF ++ (wC cI cZ (xa 2) da dg dF ++ (wR cI cZ (xa 3) ra rg rF rE ++ (wS cI cZ (xa 4) za zg zh zk zF ++ (wT cI cZ (ys 0) (ta 0) (tg 0) ++ (wB cI ((ta 0) 3) (tf 0) ++ (wT cI cZ (ys 1) (ta 1) (tg 1) ++ (wB cI ((ta 1) 3) (tf 1) ++ (wT cI cZ (ys 2) (ta 2) (tg 2) ++ (wB cI ((ta 2) 3) (tf 2) ++ (wT cI cZ (ys 3) (ta 3) (tg 3) ++ (wB cI ((ta 3) 3) (tf 3) ++ (wM cI cZ mq ma mg mh mF mE))))))))))))))) := hW
  obtain ⟨h02, hn, hrn, hk, hlv, hm, e2, e1, e3, e4, e5⟩ := id hRC
  obtain ⟨hrc, hro, hra, hrd, f1, f2, f3, f4⟩ := id hRR
  obtain ⟨hdn, hdr, hdk, hdl, hdm⟩ := id hRD
  obtain ⟨ht0, ht1, ht2, htl, hts, htc⟩ := id hRT
  refine x_aload_n X dL_law_854 rfl (lv_at hl 2 rfl) ?_
  refine x_aload_n X dL_law_855 rfl (lv_at hl 3 rfl) ?_
  refine x_iload_n X dL_law_856 rfl (lv_at hl 0 rfl) ?_
  refine x_iconst (v := nI 1) X dL_law_857 (by decide) ?_
  refine n_iadd X dL_law_858 ?_
  refine x_sld X hW hX hbl hbA (j := i + 1) (by omega) (by omega) dL_law_859 ?_
  refine x_aload_n X dL_law_860 rfl (lv_at hl 3 rfl) ?_
  refine x_iload_n X dL_law_861 rfl (lv_at hl 0 rfl) ?_
  refine x_iconst (v := nI 2) X dL_law_862 (by decide) ?_
  refine n_iadd X dL_law_863 ?_
  refine x_sld X hW hX hbl hbA (j := i + 2) (by omega) (by omega) dL_law_864 ?_
  refine x_aload_n X dL_law_865 rfl (lv_at hl 3 rfl) ?_
  refine x_iload_n X dL_law_866 rfl (lv_at hl 0 rfl) ?_
  refine x_iconst (v := nI 3) X dL_law_867 (by decide) ?_
  refine n_iadd X dL_law_868 ?_
  refine x_sld X hW hX hbl hbA (j := i + 3) (by omega) (by omega) dL_law_869 ?_
  refine x_aload_n X dL_law_870 rfl (lv_at hl 3 rfl) ?_
  refine x_iload_n X dL_law_871 rfl (lv_at hl 0 rfl) ?_
  refine x_iconst (v := nI 4) X dL_law_872 (by decide) ?_
  refine n_iadd X dL_law_873 ?_
  refine x_sld X hW hX hbl hbA (j := i + 4) (by omega) (by omega) dL_law_874 ?_
  refine x_aload_n X dL_law_875 rfl (lv_at hl 3 rfl) ?_
  refine x_iload_n X dL_law_876 rfl (lv_at hl 0 rfl) ?_
  refine x_iconst (v := nI 5) X dL_law_877 (by decide) ?_
  refine n_iadd X dL_law_878 ?_
  refine x_sld X hW hX hbl hbA (j := i + 5) (by omega) (by omega) dL_law_879 ?_
  refine x_pcallVi X hW (As := [.int (xs (i + 1)), .int (xs (i + 2)), .int (xs (i + 3)), .int (xs (i + 4)), .int (xs (i + 5))]) (rest := []) (wz := fun u => (wX cI cZ xq xa (sF xg 6 (fCopy (fun z => tg z 0) (mF 26) (fun z => tg z 2) (xs (i + 1)) (xs (i + 2)) (xs (i + 3)) (xs (i + 4)) (xs (i + 5)))) xh ++ (wA cO (xa 0) ys ++ (wC cI cZ (xa 1) ca cg cF ++ (wC cI cZ (xa 2) da dg dF ++ (wR cI cZ (xa 3) ra rg rF rE ++ (wS cI cZ (xa 4) za zg zh zk zF ++ (wT cI cZ (ys 0) (ta 0) (tg 0) ++ (wB cI ((ta 0) 3) (tf 0) ++ (wT cI cZ (ys 1) (ta 1) (tg 1) ++ (wB cI ((ta 1) 3) (tf 1) ++ (wT cI cZ (ys 2) (ta 2) (tg 2) ++ (wB cI ((ta 2) 3) (onR (xs (i + 1)) 4 (tf 2) (fun _ => onR (xs (i + 3)) 4 (tf 2) (fun _ => if copF (fun z => tg z 0) (mF 26) (fun z => tg z 2) 1 2 (xs (i + 2)) (xs (i + 4)) (xs (i + 5)) = 0 then mv (tf 2) (tf 1) (xs (i + 4)).toNatClampNeg (xs (i + 2)).toNatClampNeg (xs (i + 5)).toNatClampNeg else (tf 2)))) ++ (wT cI cZ (ys 3) (ta 3) (tg 3) ++ (wB cI ((ta 3) 3) (tf 3) ++ (wM cI cZ mq ma mg mh mF mE)))))))))))))))) (wC cI cZ (xa 1) ca cg cF ++ (wC cI cZ (xa 2) da dg dF ++ (wR cI cZ (xa 3) ra rg rF rE ++ (wS cI cZ (xa 4) za zg zh zk zF ++ (wT cI cZ (ys 0) (ta 0) (tg 0) ++ (wB cI ((ta 0) 3) (tf 0) ++ (wT cI cZ (ys 3) (ta 3) (tg 3) ++ (wB cI ((ta 3) 3) (tf 3) ++ (wM cI cZ mq ma mg mh mF mE))))))))) (c_X5_copyP l D cI cZ cO xq xa xg xh ys (ta 1) (tg 1) (tf 1) (ta 2) (tg 2) (tf 2) _ (xs (i + 1)) (xs (i + 2)) (xs (i + 3)) (xs (i + 4)) (xs (i + 5)) 1 2 (fun z => tg z 0) (mF 26) (fun z => tg z 2) (show 1 < 4 from (by decide)) (show ((tg 1) 2) ≤ 60 from ht2 1) (show ((tg 1) 0) ≤ 1 from ht0 1) (show ((tg 1) 1) ≤ 2 from ht1 1) (show (fun z => tg z 0) 1 = ((tg 1) 0) from rfl) (show (mF 26) 1 = ((tg 1) 1) from htl 1) (show (fun z => tg z 2) 1 = ((tg 1) 2) from rfl) (show 2 < 4 from (by decide)) (show ((tg 2) 2) ≤ 60 from ht2 2) (show ((tg 2) 0) ≤ 1 from ht0 2) (show ((tg 2) 1) ≤ 2 from ht1 2) (show (fun z => tg z 0) 2 = ((tg 2) 0) from rfl) (show (mF 26) 2 = ((tg 2) 1) from htl 2) (show (fun z => tg z 2) 2 = ((tg 2) 2) from rfl) (show ¬ inR (xs (i + 1)) 4 ∨ (xs (i + 1)) = nI 1 from hkj) (show ¬ inR (xs (i + 3)) 4 ∨ (xs (i + 3)) = nI 2 from hoj)) (cwV 5 X.2.2.2.2.2.1 gL_law_X5_copy rfl rfl rfl (by decide +kernel) ⟨Nat.le_of_ble_eq_true rfl, Nat.le_of_ble_eq_true rfl⟩) 4 rfl rfl rfl (apn (mfr _ _) (apn (mfr _ _) (apn (mf (mf (mf (mf (mf (mf (mfr _ _))))))) (apn (mf (mf (mf (mf (mf (mf (mfr _ _))))))) (apn (mf (mf (mf (mf (mf (mf (mfr _ _))))))) (mf (mf (mf (mf (mf (mf (mfr _ _)))))))))))) (fun u => (apn (mfr _ _) (apn (mfr _ _) (apn (mf (mf (mf (mf (mf (mf (mfr _ _))))))) (apn (mf (mf (mf (mf (mf (mf (mfr _ _))))))) (apn (mf (mf (mf (mf (mf (mf (mfr _ _))))))) (mf (mf (mf (mf (mf (mf (mfr _ _))))))))))))) rfl hl.1 rfl (Nat.le_of_ble_eq_true rfl) ⟨Nat.le_of_ble_eq_true rfl, Nat.le_of_ble_eq_true rfl⟩ dL_law_880 (fun r1 u2 H locs w880 hW => ?_)
  have hW : Wd D A s.heap H locs (wX cI cZ xq xa (sF xg 6 (fCopy (fun z => tg z 0) (mF 26) (fun z => tg z 2) (xs (i + 1)) (xs (i + 2)) (xs (i + 3)) (xs (i + 4)) (xs (i + 5)))) xh ++ (wA cO (xa 0) ys ++ (wC cI cZ (xa 1) ca cg cF ++ (wC cI cZ (xa 2) da dg dF ++ (wR cI cZ (xa 3) ra rg rF rE ++ (wS cI cZ (xa 4) za zg zh zk zF ++ (wT cI cZ (ys 0) (ta 0) (tg 0) ++ (wB cI ((ta 0) 3) (tf 0) ++ (wT cI cZ (ys 1) (ta 1) (tg 1) ++ (wB cI ((ta 1) 3) (tf 1) ++ (wT cI cZ (ys 2) (ta 2) (tg 2) ++ (wB cI ((ta 2) 3) (onR (xs (i + 1)) 4 (tf 2) (fun _ => onR (xs (i + 3)) 4 (tf 2) (fun _ => if copF (fun z => tg z 0) (mF 26) (fun z => tg z 2) 1 2 (xs (i + 2)) (xs (i + 4)) (xs (i + 5)) = 0 then mv (tf 2) (tf 1) (xs (i + 4)).toNatClampNeg (xs (i + 2)).toNatClampNeg (xs (i + 5)).toNatClampNeg else (tf 2)))) ++ (wT cI cZ (ys 3) (ta 3) (tg 3) ++ (wB cI ((ta 3) 3) (tf 3) ++ (wM cI cZ mq ma mg mh mF mE))))))))))))))) := hW
  replace w880 : r1 = aCopy (fun z => tg z 0) (mF 26) (fun z => tg z 2) (xs (i + 1)) (xs (i + 2)) (xs (i + 3)) (xs (i + 4)) (xs (i + 5)) := w880
  subst w880
  refine x_aload_n X dL_law_883 rfl (lv_at hl 1 rfl) ?_
  refine x_aload_n X dL_law_884 rfl (lv_at hl 3 rfl) ?_
  refine x_iload_n X dL_law_885 rfl (lv_at hl 0 rfl) ?_
  refine x_iconst (v := nI 1) X dL_law_886 (by decide) ?_
  refine n_iadd X dL_law_887 ?_
  refine x_sld X hW hX hbl hbA (j := i + 1) (by omega) (by omega) dL_law_888 ?_
  refine x_aload_n X dL_law_889 rfl (lv_at hl 3 rfl) ?_
  refine x_iload_n X dL_law_890 rfl (lv_at hl 0 rfl) ?_
  refine x_iconst (v := nI 2) X dL_law_891 (by decide) ?_
  refine n_iadd X dL_law_892 ?_
  refine x_sld X hW hX hbl hbA (j := i + 2) (by omega) (by omega) dL_law_893 ?_
  refine x_aload_n X dL_law_894 rfl (lv_at hl 3 rfl) ?_
  refine x_iload_n X dL_law_895 rfl (lv_at hl 0 rfl) ?_
  refine x_iconst (v := nI 3) X dL_law_896 (by decide) ?_
  refine n_iadd X dL_law_897 ?_
  refine x_sld X hW hX hbl hbA (j := i + 3) (by omega) (by omega) dL_law_898 ?_
  refine x_aload_n X dL_law_899 rfl (lv_at hl 3 rfl) ?_
  refine x_iload_n X dL_law_900 rfl (lv_at hl 0 rfl) ?_
  refine x_iconst (v := nI 4) X dL_law_901 (by decide) ?_
  refine n_iadd X dL_law_902 ?_
  refine x_sld X hW hX hbl hbA (j := i + 4) (by omega) (by omega) dL_law_903 ?_
  refine x_aload_n X dL_law_904 rfl (lv_at hl 3 rfl) ?_
  refine x_iload_n X dL_law_905 rfl (lv_at hl 0 rfl) ?_
  refine x_iconst (v := nI 5) X dL_law_906 (by decide) ?_
  refine n_iadd X dL_law_907 ?_
  refine x_sld X hW hX hbl hbA (j := i + 5) (by omega) (by omega) dL_law_908 ?_
  refine x_pcallVi X hW (As := [.int (xs (i + 1)), .int (xs (i + 2)), .int (xs (i + 3)), .int (xs (i + 4)), .int (xs (i + 5))]) (rest := [.int (aCopy (fun z => tg z 0) (mF 26) (fun z => tg z 2) (xs (i + 1)) (xs (i + 2)) (xs (i + 3)) (xs (i + 4)) (xs (i + 5)))]) (wz := fun u => (wX cI cZ xq xa (sF xg 6 (fCopy (fun z => tg z 0) (mF 26) (fun z => tg z 2) (xs (i + 1)) (xs (i + 2)) (xs (i + 3)) (xs (i + 4)) (xs (i + 5)))) xh ++ (wA cO (xa 0) ys ++ (wC cI cZ (xa 1) ca cg cF ++ (wC cI cZ (xa 2) da dg dF ++ (wR cI cZ (xa 3) ra rg rF rE ++ (wS cI cZ (xa 4) za zg zh zk zF ++ (wT cI cZ (ys 0) (ta 0) (tg 0) ++ (wB cI ((ta 0) 3) (tf 0) ++ (wT cI cZ (ys 1) (ta 1) (tg 1) ++ (wB cI ((ta 1) 3) (tf 1) ++ (wT cI cZ (ys 2) (ta 2) (tg 2) ++ (wB cI ((ta 2) 3) (onR (xs (i + 1)) 4 (tf 2) (fun _ => onR (xs (i + 3)) 4 (tf 2) (fun _ => if copF (fun z => tg z 0) (mF 26) (fun z => tg z 2) 1 2 (xs (i + 2)) (xs (i + 4)) (xs (i + 5)) = 0 then mv (tf 2) (tf 1) (xs (i + 4)).toNatClampNeg (xs (i + 2)).toNatClampNeg (xs (i + 5)).toNatClampNeg else (tf 2)))) ++ (wT cI cZ (ys 3) (ta 3) (tg 3) ++ (wB cI ((ta 3) 3) (tf 3) ++ (wM cI cZ mq ma (sF mg 0 (fCopy (fun z => tg z 0) ((mF 26)) (fun z => tg z 2) (xs (i + 1)) (xs (i + 2)) (xs (i + 3)) (xs (i + 4)) (xs (i + 5)))) mh mF (sF (sF mE 27 (sCopy (fun z => tg z 0) ((mF 26)) (fun z => tg z 2) (xs (i + 1)) (xs (i + 2)) (xs (i + 3)) (xs (i + 4)) (xs (i + 5)) ((mE 27)))) 28 u))))))))))))))))) (wX cI cZ xq xa (sF xg 6 (fCopy (fun z => tg z 0) (mF 26) (fun z => tg z 2) (xs (i + 1)) (xs (i + 2)) (xs (i + 3)) (xs (i + 4)) (xs (i + 5)))) xh ++ (wA cO (xa 0) ys ++ (wC cI cZ (xa 1) ca cg cF ++ (wC cI cZ (xa 2) da dg dF ++ (wR cI cZ (xa 3) ra rg rF rE ++ (wS cI cZ (xa 4) za zg zh zk zF ++ (wT cI cZ (ys 0) (ta 0) (tg 0) ++ (wB cI ((ta 0) 3) (tf 0) ++ (wT cI cZ (ys 1) (ta 1) (tg 1) ++ (wB cI ((ta 1) 3) (tf 1) ++ (wT cI cZ (ys 2) (ta 2) (tg 2) ++ (wB cI ((ta 2) 3) (onR (xs (i + 1)) 4 (tf 2) (fun _ => onR (xs (i + 3)) 4 (tf 2) (fun _ => if copF (fun z => tg z 0) (mF 26) (fun z => tg z 2) 1 2 (xs (i + 2)) (xs (i + 4)) (xs (i + 5)) = 0 then mv (tf 2) (tf 1) (xs (i + 4)).toNatClampNeg (xs (i + 2)).toNatClampNeg (xs (i + 5)).toNatClampNeg else (tf 2)))) ++ (wT cI cZ (ys 3) (ta 3) (tg 3) ++ (wB cI ((ta 3) 3) (tf 3))))))))))))))) (c_X6_copy l D cI cZ cO mq ma mg mh mF mE _ (xs (i + 1)) (xs (i + 2)) (xs (i + 3)) (xs (i + 4)) (xs (i + 5)) (fun z => tg z 0) (fun z => tg z 2) (show ∀ z, z < 4 → ((fun z => tg z 0) z = 0 ∧ (mE 25) z = (-1 : Int32)) ∨ ((fun z => tg z 0) z = 1 ∧ (mE 25) z = nI ((fun z => tg z 2) z)) from hts) (show ∀ z0, (fun z => tg z 2) z0 ≤ 60 from ht2) (show ∀ z0, (mF 26) z0 ≤ 2 from (fun z => by rw [htl]; exact ht1 z))) (cwV 5 X.2.2.2.2.2.1 gL_law_X6_copy rfl rfl rfl (by decide +kernel) ⟨Nat.le_of_ble_eq_true rfl, Nat.le_of_ble_eq_true rfl⟩) 5 rfl rfl rfl (ap1 (mf (mf (mf (mf (mf (mf (mf (mf (mf (mf (mf (mf (mf mf0)))))))))))))) (fun u => (ap1 (mf (mf (mf (mf (mf (mf (mf (mf (mf (mf (mf (mf (mf mf0))))))))))))))) rfl hl.1 rfl (Nat.le_of_ble_eq_true rfl) ⟨Nat.le_of_ble_eq_true rfl, Nat.le_of_ble_eq_true rfl⟩ dL_law_909 (fun r4 u5 H locs w909 hW => ?_)
  obtain ⟨o1_3, o1_3e⟩ : ∃ z, z = u5 := ⟨_, rfl⟩
  subst o1_3e
  have hW : Wd D A s.heap H locs (wX cI cZ xq xa (sF xg 6 (fCopy (fun z => tg z 0) (mF 26) (fun z => tg z 2) (xs (i + 1)) (xs (i + 2)) (xs (i + 3)) (xs (i + 4)) (xs (i + 5)))) xh ++ (wA cO (xa 0) ys ++ (wC cI cZ (xa 1) ca cg cF ++ (wC cI cZ (xa 2) da dg dF ++ (wR cI cZ (xa 3) ra rg rF rE ++ (wS cI cZ (xa 4) za zg zh zk zF ++ (wT cI cZ (ys 0) (ta 0) (tg 0) ++ (wB cI ((ta 0) 3) (tf 0) ++ (wT cI cZ (ys 1) (ta 1) (tg 1) ++ (wB cI ((ta 1) 3) (tf 1) ++ (wT cI cZ (ys 2) (ta 2) (tg 2) ++ (wB cI ((ta 2) 3) (onR (xs (i + 1)) 4 (tf 2) (fun _ => onR (xs (i + 3)) 4 (tf 2) (fun _ => if copF (fun z => tg z 0) (mF 26) (fun z => tg z 2) 1 2 (xs (i + 2)) (xs (i + 4)) (xs (i + 5)) = 0 then mv (tf 2) (tf 1) (xs (i + 4)).toNatClampNeg (xs (i + 2)).toNatClampNeg (xs (i + 5)).toNatClampNeg else (tf 2)))) ++ (wT cI cZ (ys 3) (ta 3) (tg 3) ++ (wB cI ((ta 3) 3) (tf 3) ++ (wM cI cZ mq ma (sF mg 0 (fCopy (fun z => tg z 0) ((mF 26)) (fun z => tg z 2) (xs (i + 1)) (xs (i + 2)) (xs (i + 3)) (xs (i + 4)) (xs (i + 5)))) mh mF (sF (sF mE 27 (sCopy (fun z => tg z 0) ((mF 26)) (fun z => tg z 2) (xs (i + 1)) (xs (i + 2)) (xs (i + 3)) (xs (i + 4)) (xs (i + 5)) ((mE 27)))) 28 o1_3)))))))))))))))) := hW
  replace w909 : r4 = aCopy (fun z => tg z 0) ((mF 26)) (fun z => tg z 2) (xs (i + 1)) (xs (i + 2)) (xs (i + 3)) (xs (i + 4)) (xs (i + 5)) := w909
  subst w909
  refine x_icmp_eq X 1045 dL_law_912 (by decide) (fun c912 => ?_) (fun c912 => by exact absurd (by (try rw [e1]); (try rw [e2]); (try rw [e3]); (try rw [e4]); (try rw [e5]); (try rw [f1]); (try rw [f2]); (try rw [f3]); (try rw [f4]); (try rfl)) c912)
  exact next _ _ _ ⟨xa, (sF xg 6 (fCopy (fun z => tg z 0) (mF 26) (fun z => tg z 2) (xs (i + 1)) (xs (i + 2)) (xs (i + 3)) (xs (i + 4)) (xs (i + 5)))), xh, ys, ca, cg, cF, da, dg, dF, ra, rg, rF, rE, za, zg, zh, zk, zF, ma, (sF mg 0 (fCopy (fun z => tg z 0) ((mF 26)) (fun z => tg z 2) (xs (i + 1)) (xs (i + 2)) (xs (i + 3)) (xs (i + 4)) (xs (i + 5)))), mh, mF, (sF (sF mE 27 (sCopy (fun z => tg z 0) ((mF 26)) (fun z => tg z 2) (xs (i + 1)) (xs (i + 2)) (xs (i + 3)) (xs (i + 4)) (xs (i + 5)) ((mE 27)))) 28 o1_3), ta, tg, (sF tf 2 (onR (xs (i + 1)) 4 (tf 2) (fun _ => onR (xs (i + 3)) 4 (tf 2) (fun _ => if copF (fun z => tg z 0) (mF 26) (fun z => tg z 2) 1 2 (xs (i + 2)) (xs (i + 4)) (xs (i + 5)) = 0 then mv (tf 2) (tf 1) (xs (i + 4)).toNatClampNeg (xs (i + 2)).toNatClampNeg (xs (i + 5)).toNatClampNeg else (tf 2))))), hW, hRC, hRR, hRD, hSK, RT_copy hRT (show 1 < 4 by decide) (show 2 < 4 by decide) hkj hoj, ⟨hRX.1, rfl⟩, hRM⟩ (lv_sub hl [0, 1, 2, 3] rfl)
set_option maxHeartbeats 4000000 in
set_option maxRecDepth 100000 in
theorem law_copy_1_3 {p : Program} {e : Env} {s : State} {m : MethodId} {below : List Frame} {meth : Method} {c : Code} {D : va_G} {cI cZ cO : ClassId} {A : Nat → Prop} {Q : State → Prop} {l : Launch} {b L xq mq i : Nat} {xs : Nat → Int32} {H : Heap} {locs : List Loc} {ls : Array Slot} (X : Fx p s m #[Value.ref b] meth c code 4 ret wsL_law RL D (ty3 cI cZ cO) A) (hX : va_X b L xs s s.heap) (hbl : b < s.heap.size) (hbA : ¬ A b) (hL : L ≤ 3072) (hi : i + 6 ≤ L) (hI : lw_I D cI cZ cO A s.heap xq mq H locs) (hl : lv_has ls 4 [(3, .int (nI i)), (2, .ref mq), (1, .ref xq), (0, .ref b)]) (hkj : ¬ inR (xs (i + 1)) 4 ∨ xs (i + 1) = nI 1) (hoj : ¬ inR (xs (i + 3)) 4 ∨ xs (i + 3) = nI 3) (next : ∀ (H : Heap) (locs : List Loc) (ls : Array Slot), lw_I D cI cZ cO A s.heap xq mq H locs → lv_has ls 4 [(3, .int (nI i)), (2, .ref mq), (1, .ref xq), (0, .ref b)] → W p l e room_1 s m #[Value.ref b] below meth c H locs 600000 7302250 Q (F0 m 1045 ls [])) : W p l e room_1 s m #[Value.ref b] below meth c H locs 600000 7302250 Q (F0 m 854 ls []) := by
  obtain ⟨xa, xg, xh, ys, ca, cg, cF, da, dg, dF, ra, rg, rF, rE, za, zg, zh, zk, zF, ma, mg, mh, mF, mE, ta, tg, tf, hW, hRC, hRR, hRD, hSK, hRT, hRX, hRM⟩ := hI
  have hW : Wd D A s.heap H locs (wX cI cZ xq xa xg xh ++ (wA cO (xa 0) ys ++ (wC cI cZ (xa 1) ca cg cF ++ (wC cI cZ (xa 2) da dg dF ++ (wR cI cZ (xa 3) ra rg rF rE ++ (wS cI cZ (xa 4) za zg zh zk zF ++ (wT cI cZ (ys 0) (ta 0) (tg 0) ++ (wB cI ((ta 0) 3) (tf 0) ++ (wT cI cZ (ys 1) (ta 1) (tg 1) ++ (wB cI ((ta 1) 3) (tf 1) ++ (wT cI cZ (ys 2) (ta 2) (tg 2) ++ (wB cI ((ta 2) 3) (tf 2) ++ (wT cI cZ (ys 3) (ta 3) (tg 3) ++ (wB cI ((ta 3) 3) (tf 3) ++ (wM cI cZ mq ma mg mh mF mE))))))))))))))) := hW
  obtain ⟨h02, hn, hrn, hk, hlv, hm, e2, e1, e3, e4, e5⟩ := id hRC
  obtain ⟨hrc, hro, hra, hrd, f1, f2, f3, f4⟩ := id hRR
  obtain ⟨hdn, hdr, hdk, hdl, hdm⟩ := id hRD
  obtain ⟨ht0, ht1, ht2, htl, hts, htc⟩ := id hRT
  refine x_aload_n X dL_law_854 rfl (lv_at hl 2 rfl) ?_
  refine x_aload_n X dL_law_855 rfl (lv_at hl 3 rfl) ?_
  refine x_iload_n X dL_law_856 rfl (lv_at hl 0 rfl) ?_
  refine x_iconst (v := nI 1) X dL_law_857 (by decide) ?_
  refine n_iadd X dL_law_858 ?_
  refine x_sld X hW hX hbl hbA (j := i + 1) (by omega) (by omega) dL_law_859 ?_
  refine x_aload_n X dL_law_860 rfl (lv_at hl 3 rfl) ?_
  refine x_iload_n X dL_law_861 rfl (lv_at hl 0 rfl) ?_
  refine x_iconst (v := nI 2) X dL_law_862 (by decide) ?_
  refine n_iadd X dL_law_863 ?_
  refine x_sld X hW hX hbl hbA (j := i + 2) (by omega) (by omega) dL_law_864 ?_
  refine x_aload_n X dL_law_865 rfl (lv_at hl 3 rfl) ?_
  refine x_iload_n X dL_law_866 rfl (lv_at hl 0 rfl) ?_
  refine x_iconst (v := nI 3) X dL_law_867 (by decide) ?_
  refine n_iadd X dL_law_868 ?_
  refine x_sld X hW hX hbl hbA (j := i + 3) (by omega) (by omega) dL_law_869 ?_
  refine x_aload_n X dL_law_870 rfl (lv_at hl 3 rfl) ?_
  refine x_iload_n X dL_law_871 rfl (lv_at hl 0 rfl) ?_
  refine x_iconst (v := nI 4) X dL_law_872 (by decide) ?_
  refine n_iadd X dL_law_873 ?_
  refine x_sld X hW hX hbl hbA (j := i + 4) (by omega) (by omega) dL_law_874 ?_
  refine x_aload_n X dL_law_875 rfl (lv_at hl 3 rfl) ?_
  refine x_iload_n X dL_law_876 rfl (lv_at hl 0 rfl) ?_
  refine x_iconst (v := nI 5) X dL_law_877 (by decide) ?_
  refine n_iadd X dL_law_878 ?_
  refine x_sld X hW hX hbl hbA (j := i + 5) (by omega) (by omega) dL_law_879 ?_
  refine x_pcallVi X hW (As := [.int (xs (i + 1)), .int (xs (i + 2)), .int (xs (i + 3)), .int (xs (i + 4)), .int (xs (i + 5))]) (rest := []) (wz := fun u => (wX cI cZ xq xa (sF xg 6 (fCopy (fun z => tg z 0) (mF 26) (fun z => tg z 2) (xs (i + 1)) (xs (i + 2)) (xs (i + 3)) (xs (i + 4)) (xs (i + 5)))) xh ++ (wA cO (xa 0) ys ++ (wC cI cZ (xa 1) ca cg cF ++ (wC cI cZ (xa 2) da dg dF ++ (wR cI cZ (xa 3) ra rg rF rE ++ (wS cI cZ (xa 4) za zg zh zk zF ++ (wT cI cZ (ys 0) (ta 0) (tg 0) ++ (wB cI ((ta 0) 3) (tf 0) ++ (wT cI cZ (ys 1) (ta 1) (tg 1) ++ (wB cI ((ta 1) 3) (tf 1) ++ (wT cI cZ (ys 2) (ta 2) (tg 2) ++ (wB cI ((ta 2) 3) (tf 2) ++ (wT cI cZ (ys 3) (ta 3) (tg 3) ++ (wB cI ((ta 3) 3) (onR (xs (i + 1)) 4 (tf 3) (fun _ => onR (xs (i + 3)) 4 (tf 3) (fun _ => if copF (fun z => tg z 0) (mF 26) (fun z => tg z 2) 1 3 (xs (i + 2)) (xs (i + 4)) (xs (i + 5)) = 0 then mv (tf 3) (tf 1) (xs (i + 4)).toNatClampNeg (xs (i + 2)).toNatClampNeg (xs (i + 5)).toNatClampNeg else (tf 3)))) ++ (wM cI cZ mq ma mg mh mF mE)))))))))))))))) (wC cI cZ (xa 1) ca cg cF ++ (wC cI cZ (xa 2) da dg dF ++ (wR cI cZ (xa 3) ra rg rF rE ++ (wS cI cZ (xa 4) za zg zh zk zF ++ (wT cI cZ (ys 0) (ta 0) (tg 0) ++ (wB cI ((ta 0) 3) (tf 0) ++ (wT cI cZ (ys 2) (ta 2) (tg 2) ++ (wB cI ((ta 2) 3) (tf 2) ++ (wM cI cZ mq ma mg mh mF mE))))))))) (c_X5_copyP l D cI cZ cO xq xa xg xh ys (ta 1) (tg 1) (tf 1) (ta 3) (tg 3) (tf 3) _ (xs (i + 1)) (xs (i + 2)) (xs (i + 3)) (xs (i + 4)) (xs (i + 5)) 1 3 (fun z => tg z 0) (mF 26) (fun z => tg z 2) (show 1 < 4 from (by decide)) (show ((tg 1) 2) ≤ 60 from ht2 1) (show ((tg 1) 0) ≤ 1 from ht0 1) (show ((tg 1) 1) ≤ 2 from ht1 1) (show (fun z => tg z 0) 1 = ((tg 1) 0) from rfl) (show (mF 26) 1 = ((tg 1) 1) from htl 1) (show (fun z => tg z 2) 1 = ((tg 1) 2) from rfl) (show 3 < 4 from (by decide)) (show ((tg 3) 2) ≤ 60 from ht2 3) (show ((tg 3) 0) ≤ 1 from ht0 3) (show ((tg 3) 1) ≤ 2 from ht1 3) (show (fun z => tg z 0) 3 = ((tg 3) 0) from rfl) (show (mF 26) 3 = ((tg 3) 1) from htl 3) (show (fun z => tg z 2) 3 = ((tg 3) 2) from rfl) (show ¬ inR (xs (i + 1)) 4 ∨ (xs (i + 1)) = nI 1 from hkj) (show ¬ inR (xs (i + 3)) 4 ∨ (xs (i + 3)) = nI 3 from hoj)) (cwV 5 X.2.2.2.2.2.1 gL_law_X5_copy rfl rfl rfl (by decide +kernel) ⟨Nat.le_of_ble_eq_true rfl, Nat.le_of_ble_eq_true rfl⟩) 4 rfl rfl rfl (apn (mfr _ _) (apn (mfr _ _) (apn (mf (mf (mf (mf (mf (mf (mfr _ _))))))) (apn (mf (mf (mf (mf (mf (mf (mfr _ _))))))) (apn (mf (mf (mf (mf (mf (mf (mf (mf (mfr _ _))))))))) (mf (mf (mf (mf (mf (mf (mf (mf (mfr _ _)))))))))))))) (fun u => (apn (mfr _ _) (apn (mfr _ _) (apn (mf (mf (mf (mf (mf (mf (mfr _ _))))))) (apn (mf (mf (mf (mf (mf (mf (mfr _ _))))))) (apn (mf (mf (mf (mf (mf (mf (mf (mf (mfr _ _))))))))) (mf (mf (mf (mf (mf (mf (mf (mf (mfr _ _))))))))))))))) rfl hl.1 rfl (Nat.le_of_ble_eq_true rfl) ⟨Nat.le_of_ble_eq_true rfl, Nat.le_of_ble_eq_true rfl⟩ dL_law_880 (fun r1 u2 H locs w880 hW => ?_)
  have hW : Wd D A s.heap H locs (wX cI cZ xq xa (sF xg 6 (fCopy (fun z => tg z 0) (mF 26) (fun z => tg z 2) (xs (i + 1)) (xs (i + 2)) (xs (i + 3)) (xs (i + 4)) (xs (i + 5)))) xh ++ (wA cO (xa 0) ys ++ (wC cI cZ (xa 1) ca cg cF ++ (wC cI cZ (xa 2) da dg dF ++ (wR cI cZ (xa 3) ra rg rF rE ++ (wS cI cZ (xa 4) za zg zh zk zF ++ (wT cI cZ (ys 0) (ta 0) (tg 0) ++ (wB cI ((ta 0) 3) (tf 0) ++ (wT cI cZ (ys 1) (ta 1) (tg 1) ++ (wB cI ((ta 1) 3) (tf 1) ++ (wT cI cZ (ys 2) (ta 2) (tg 2) ++ (wB cI ((ta 2) 3) (tf 2) ++ (wT cI cZ (ys 3) (ta 3) (tg 3) ++ (wB cI ((ta 3) 3) (onR (xs (i + 1)) 4 (tf 3) (fun _ => onR (xs (i + 3)) 4 (tf 3) (fun _ => if copF (fun z => tg z 0) (mF 26) (fun z => tg z 2) 1 3 (xs (i + 2)) (xs (i + 4)) (xs (i + 5)) = 0 then mv (tf 3) (tf 1) (xs (i + 4)).toNatClampNeg (xs (i + 2)).toNatClampNeg (xs (i + 5)).toNatClampNeg else (tf 3)))) ++ (wM cI cZ mq ma mg mh mF mE))))))))))))))) := hW
  replace w880 : r1 = aCopy (fun z => tg z 0) (mF 26) (fun z => tg z 2) (xs (i + 1)) (xs (i + 2)) (xs (i + 3)) (xs (i + 4)) (xs (i + 5)) := w880
  subst w880
  refine x_aload_n X dL_law_883 rfl (lv_at hl 1 rfl) ?_
  refine x_aload_n X dL_law_884 rfl (lv_at hl 3 rfl) ?_
  refine x_iload_n X dL_law_885 rfl (lv_at hl 0 rfl) ?_
  refine x_iconst (v := nI 1) X dL_law_886 (by decide) ?_
  refine n_iadd X dL_law_887 ?_
  refine x_sld X hW hX hbl hbA (j := i + 1) (by omega) (by omega) dL_law_888 ?_
  refine x_aload_n X dL_law_889 rfl (lv_at hl 3 rfl) ?_
  refine x_iload_n X dL_law_890 rfl (lv_at hl 0 rfl) ?_
  refine x_iconst (v := nI 2) X dL_law_891 (by decide) ?_
  refine n_iadd X dL_law_892 ?_
  refine x_sld X hW hX hbl hbA (j := i + 2) (by omega) (by omega) dL_law_893 ?_
  refine x_aload_n X dL_law_894 rfl (lv_at hl 3 rfl) ?_
  refine x_iload_n X dL_law_895 rfl (lv_at hl 0 rfl) ?_
  refine x_iconst (v := nI 3) X dL_law_896 (by decide) ?_
  refine n_iadd X dL_law_897 ?_
  refine x_sld X hW hX hbl hbA (j := i + 3) (by omega) (by omega) dL_law_898 ?_
  refine x_aload_n X dL_law_899 rfl (lv_at hl 3 rfl) ?_
  refine x_iload_n X dL_law_900 rfl (lv_at hl 0 rfl) ?_
  refine x_iconst (v := nI 4) X dL_law_901 (by decide) ?_
  refine n_iadd X dL_law_902 ?_
  refine x_sld X hW hX hbl hbA (j := i + 4) (by omega) (by omega) dL_law_903 ?_
  refine x_aload_n X dL_law_904 rfl (lv_at hl 3 rfl) ?_
  refine x_iload_n X dL_law_905 rfl (lv_at hl 0 rfl) ?_
  refine x_iconst (v := nI 5) X dL_law_906 (by decide) ?_
  refine n_iadd X dL_law_907 ?_
  refine x_sld X hW hX hbl hbA (j := i + 5) (by omega) (by omega) dL_law_908 ?_
  refine x_pcallVi X hW (As := [.int (xs (i + 1)), .int (xs (i + 2)), .int (xs (i + 3)), .int (xs (i + 4)), .int (xs (i + 5))]) (rest := [.int (aCopy (fun z => tg z 0) (mF 26) (fun z => tg z 2) (xs (i + 1)) (xs (i + 2)) (xs (i + 3)) (xs (i + 4)) (xs (i + 5)))]) (wz := fun u => (wX cI cZ xq xa (sF xg 6 (fCopy (fun z => tg z 0) (mF 26) (fun z => tg z 2) (xs (i + 1)) (xs (i + 2)) (xs (i + 3)) (xs (i + 4)) (xs (i + 5)))) xh ++ (wA cO (xa 0) ys ++ (wC cI cZ (xa 1) ca cg cF ++ (wC cI cZ (xa 2) da dg dF ++ (wR cI cZ (xa 3) ra rg rF rE ++ (wS cI cZ (xa 4) za zg zh zk zF ++ (wT cI cZ (ys 0) (ta 0) (tg 0) ++ (wB cI ((ta 0) 3) (tf 0) ++ (wT cI cZ (ys 1) (ta 1) (tg 1) ++ (wB cI ((ta 1) 3) (tf 1) ++ (wT cI cZ (ys 2) (ta 2) (tg 2) ++ (wB cI ((ta 2) 3) (tf 2) ++ (wT cI cZ (ys 3) (ta 3) (tg 3) ++ (wB cI ((ta 3) 3) (onR (xs (i + 1)) 4 (tf 3) (fun _ => onR (xs (i + 3)) 4 (tf 3) (fun _ => if copF (fun z => tg z 0) (mF 26) (fun z => tg z 2) 1 3 (xs (i + 2)) (xs (i + 4)) (xs (i + 5)) = 0 then mv (tf 3) (tf 1) (xs (i + 4)).toNatClampNeg (xs (i + 2)).toNatClampNeg (xs (i + 5)).toNatClampNeg else (tf 3)))) ++ (wM cI cZ mq ma (sF mg 0 (fCopy (fun z => tg z 0) ((mF 26)) (fun z => tg z 2) (xs (i + 1)) (xs (i + 2)) (xs (i + 3)) (xs (i + 4)) (xs (i + 5)))) mh mF (sF (sF mE 27 (sCopy (fun z => tg z 0) ((mF 26)) (fun z => tg z 2) (xs (i + 1)) (xs (i + 2)) (xs (i + 3)) (xs (i + 4)) (xs (i + 5)) ((mE 27)))) 28 u))))))))))))))))) (wX cI cZ xq xa (sF xg 6 (fCopy (fun z => tg z 0) (mF 26) (fun z => tg z 2) (xs (i + 1)) (xs (i + 2)) (xs (i + 3)) (xs (i + 4)) (xs (i + 5)))) xh ++ (wA cO (xa 0) ys ++ (wC cI cZ (xa 1) ca cg cF ++ (wC cI cZ (xa 2) da dg dF ++ (wR cI cZ (xa 3) ra rg rF rE ++ (wS cI cZ (xa 4) za zg zh zk zF ++ (wT cI cZ (ys 0) (ta 0) (tg 0) ++ (wB cI ((ta 0) 3) (tf 0) ++ (wT cI cZ (ys 1) (ta 1) (tg 1) ++ (wB cI ((ta 1) 3) (tf 1) ++ (wT cI cZ (ys 2) (ta 2) (tg 2) ++ (wB cI ((ta 2) 3) (tf 2) ++ (wT cI cZ (ys 3) (ta 3) (tg 3) ++ (wB cI ((ta 3) 3) (onR (xs (i + 1)) 4 (tf 3) (fun _ => onR (xs (i + 3)) 4 (tf 3) (fun _ => if copF (fun z => tg z 0) (mF 26) (fun z => tg z 2) 1 3 (xs (i + 2)) (xs (i + 4)) (xs (i + 5)) = 0 then mv (tf 3) (tf 1) (xs (i + 4)).toNatClampNeg (xs (i + 2)).toNatClampNeg (xs (i + 5)).toNatClampNeg else (tf 3)))))))))))))))))) (c_X6_copy l D cI cZ cO mq ma mg mh mF mE _ (xs (i + 1)) (xs (i + 2)) (xs (i + 3)) (xs (i + 4)) (xs (i + 5)) (fun z => tg z 0) (fun z => tg z 2) (show ∀ z, z < 4 → ((fun z => tg z 0) z = 0 ∧ (mE 25) z = (-1 : Int32)) ∨ ((fun z => tg z 0) z = 1 ∧ (mE 25) z = nI ((fun z => tg z 2) z)) from hts) (show ∀ z0, (fun z => tg z 2) z0 ≤ 60 from ht2) (show ∀ z0, (mF 26) z0 ≤ 2 from (fun z => by rw [htl]; exact ht1 z))) (cwV 5 X.2.2.2.2.2.1 gL_law_X6_copy rfl rfl rfl (by decide +kernel) ⟨Nat.le_of_ble_eq_true rfl, Nat.le_of_ble_eq_true rfl⟩) 5 rfl rfl rfl (ap1 (mf (mf (mf (mf (mf (mf (mf (mf (mf (mf (mf (mf (mf mf0)))))))))))))) (fun u => (ap1 (mf (mf (mf (mf (mf (mf (mf (mf (mf (mf (mf (mf (mf mf0))))))))))))))) rfl hl.1 rfl (Nat.le_of_ble_eq_true rfl) ⟨Nat.le_of_ble_eq_true rfl, Nat.le_of_ble_eq_true rfl⟩ dL_law_909 (fun r4 u5 H locs w909 hW => ?_)
  obtain ⟨o1_3, o1_3e⟩ : ∃ z, z = u5 := ⟨_, rfl⟩
  subst o1_3e
  have hW : Wd D A s.heap H locs (wX cI cZ xq xa (sF xg 6 (fCopy (fun z => tg z 0) (mF 26) (fun z => tg z 2) (xs (i + 1)) (xs (i + 2)) (xs (i + 3)) (xs (i + 4)) (xs (i + 5)))) xh ++ (wA cO (xa 0) ys ++ (wC cI cZ (xa 1) ca cg cF ++ (wC cI cZ (xa 2) da dg dF ++ (wR cI cZ (xa 3) ra rg rF rE ++ (wS cI cZ (xa 4) za zg zh zk zF ++ (wT cI cZ (ys 0) (ta 0) (tg 0) ++ (wB cI ((ta 0) 3) (tf 0) ++ (wT cI cZ (ys 1) (ta 1) (tg 1) ++ (wB cI ((ta 1) 3) (tf 1) ++ (wT cI cZ (ys 2) (ta 2) (tg 2) ++ (wB cI ((ta 2) 3) (tf 2) ++ (wT cI cZ (ys 3) (ta 3) (tg 3) ++ (wB cI ((ta 3) 3) (onR (xs (i + 1)) 4 (tf 3) (fun _ => onR (xs (i + 3)) 4 (tf 3) (fun _ => if copF (fun z => tg z 0) (mF 26) (fun z => tg z 2) 1 3 (xs (i + 2)) (xs (i + 4)) (xs (i + 5)) = 0 then mv (tf 3) (tf 1) (xs (i + 4)).toNatClampNeg (xs (i + 2)).toNatClampNeg (xs (i + 5)).toNatClampNeg else (tf 3)))) ++ (wM cI cZ mq ma (sF mg 0 (fCopy (fun z => tg z 0) ((mF 26)) (fun z => tg z 2) (xs (i + 1)) (xs (i + 2)) (xs (i + 3)) (xs (i + 4)) (xs (i + 5)))) mh mF (sF (sF mE 27 (sCopy (fun z => tg z 0) ((mF 26)) (fun z => tg z 2) (xs (i + 1)) (xs (i + 2)) (xs (i + 3)) (xs (i + 4)) (xs (i + 5)) ((mE 27)))) 28 o1_3)))))))))))))))) := hW
  replace w909 : r4 = aCopy (fun z => tg z 0) ((mF 26)) (fun z => tg z 2) (xs (i + 1)) (xs (i + 2)) (xs (i + 3)) (xs (i + 4)) (xs (i + 5)) := w909
  subst w909
  refine x_icmp_eq X 1045 dL_law_912 (by decide) (fun c912 => ?_) (fun c912 => by exact absurd (by (try rw [e1]); (try rw [e2]); (try rw [e3]); (try rw [e4]); (try rw [e5]); (try rw [f1]); (try rw [f2]); (try rw [f3]); (try rw [f4]); (try rfl)) c912)
  exact next _ _ _ ⟨xa, (sF xg 6 (fCopy (fun z => tg z 0) (mF 26) (fun z => tg z 2) (xs (i + 1)) (xs (i + 2)) (xs (i + 3)) (xs (i + 4)) (xs (i + 5)))), xh, ys, ca, cg, cF, da, dg, dF, ra, rg, rF, rE, za, zg, zh, zk, zF, ma, (sF mg 0 (fCopy (fun z => tg z 0) ((mF 26)) (fun z => tg z 2) (xs (i + 1)) (xs (i + 2)) (xs (i + 3)) (xs (i + 4)) (xs (i + 5)))), mh, mF, (sF (sF mE 27 (sCopy (fun z => tg z 0) ((mF 26)) (fun z => tg z 2) (xs (i + 1)) (xs (i + 2)) (xs (i + 3)) (xs (i + 4)) (xs (i + 5)) ((mE 27)))) 28 o1_3), ta, tg, (sF tf 3 (onR (xs (i + 1)) 4 (tf 3) (fun _ => onR (xs (i + 3)) 4 (tf 3) (fun _ => if copF (fun z => tg z 0) (mF 26) (fun z => tg z 2) 1 3 (xs (i + 2)) (xs (i + 4)) (xs (i + 5)) = 0 then mv (tf 3) (tf 1) (xs (i + 4)).toNatClampNeg (xs (i + 2)).toNatClampNeg (xs (i + 5)).toNatClampNeg else (tf 3))))), hW, hRC, hRR, hRD, hSK, RT_copy hRT (show 1 < 4 by decide) (show 3 < 4 by decide) hkj hoj, ⟨hRX.1, rfl⟩, hRM⟩ (lv_sub hl [0, 1, 2, 3] rfl)
set_option maxHeartbeats 4000000 in
set_option maxRecDepth 100000 in
theorem law_copy_2_0 {p : Program} {e : Env} {s : State} {m : MethodId} {below : List Frame} {meth : Method} {c : Code} {D : va_G} {cI cZ cO : ClassId} {A : Nat → Prop} {Q : State → Prop} {l : Launch} {b L xq mq i : Nat} {xs : Nat → Int32} {H : Heap} {locs : List Loc} {ls : Array Slot} (X : Fx p s m #[Value.ref b] meth c code 4 ret wsL_law RL D (ty3 cI cZ cO) A) (hX : va_X b L xs s s.heap) (hbl : b < s.heap.size) (hbA : ¬ A b) (hL : L ≤ 3072) (hi : i + 6 ≤ L) (hI : lw_I D cI cZ cO A s.heap xq mq H locs) (hl : lv_has ls 4 [(3, .int (nI i)), (2, .ref mq), (1, .ref xq), (0, .ref b)]) (hkj : ¬ inR (xs (i + 1)) 4 ∨ xs (i + 1) = nI 2) (hoj : ¬ inR (xs (i + 3)) 4 ∨ xs (i + 3) = nI 0) (next : ∀ (H : Heap) (locs : List Loc) (ls : Array Slot), lw_I D cI cZ cO A s.heap xq mq H locs → lv_has ls 4 [(3, .int (nI i)), (2, .ref mq), (1, .ref xq), (0, .ref b)] → W p l e room_1 s m #[Value.ref b] below meth c H locs 600000 7302250 Q (F0 m 1045 ls [])) : W p l e room_1 s m #[Value.ref b] below meth c H locs 600000 7302250 Q (F0 m 854 ls []) := by
  obtain ⟨xa, xg, xh, ys, ca, cg, cF, da, dg, dF, ra, rg, rF, rE, za, zg, zh, zk, zF, ma, mg, mh, mF, mE, ta, tg, tf, hW, hRC, hRR, hRD, hSK, hRT, hRX, hRM⟩ := hI
  have hW : Wd D A s.heap H locs (wX cI cZ xq xa xg xh ++ (wA cO (xa 0) ys ++ (wC cI cZ (xa 1) ca cg cF ++ (wC cI cZ (xa 2) da dg dF ++ (wR cI cZ (xa 3) ra rg rF rE ++ (wS cI cZ (xa 4) za zg zh zk zF ++ (wT cI cZ (ys 0) (ta 0) (tg 0) ++ (wB cI ((ta 0) 3) (tf 0) ++ (wT cI cZ (ys 1) (ta 1) (tg 1) ++ (wB cI ((ta 1) 3) (tf 1) ++ (wT cI cZ (ys 2) (ta 2) (tg 2) ++ (wB cI ((ta 2) 3) (tf 2) ++ (wT cI cZ (ys 3) (ta 3) (tg 3) ++ (wB cI ((ta 3) 3) (tf 3) ++ (wM cI cZ mq ma mg mh mF mE))))))))))))))) := hW
  obtain ⟨h02, hn, hrn, hk, hlv, hm, e2, e1, e3, e4, e5⟩ := id hRC
  obtain ⟨hrc, hro, hra, hrd, f1, f2, f3, f4⟩ := id hRR
  obtain ⟨hdn, hdr, hdk, hdl, hdm⟩ := id hRD
  obtain ⟨ht0, ht1, ht2, htl, hts, htc⟩ := id hRT
  refine x_aload_n X dL_law_854 rfl (lv_at hl 2 rfl) ?_
  refine x_aload_n X dL_law_855 rfl (lv_at hl 3 rfl) ?_
  refine x_iload_n X dL_law_856 rfl (lv_at hl 0 rfl) ?_
  refine x_iconst (v := nI 1) X dL_law_857 (by decide) ?_
  refine n_iadd X dL_law_858 ?_
  refine x_sld X hW hX hbl hbA (j := i + 1) (by omega) (by omega) dL_law_859 ?_
  refine x_aload_n X dL_law_860 rfl (lv_at hl 3 rfl) ?_
  refine x_iload_n X dL_law_861 rfl (lv_at hl 0 rfl) ?_
  refine x_iconst (v := nI 2) X dL_law_862 (by decide) ?_
  refine n_iadd X dL_law_863 ?_
  refine x_sld X hW hX hbl hbA (j := i + 2) (by omega) (by omega) dL_law_864 ?_
  refine x_aload_n X dL_law_865 rfl (lv_at hl 3 rfl) ?_
  refine x_iload_n X dL_law_866 rfl (lv_at hl 0 rfl) ?_
  refine x_iconst (v := nI 3) X dL_law_867 (by decide) ?_
  refine n_iadd X dL_law_868 ?_
  refine x_sld X hW hX hbl hbA (j := i + 3) (by omega) (by omega) dL_law_869 ?_
  refine x_aload_n X dL_law_870 rfl (lv_at hl 3 rfl) ?_
  refine x_iload_n X dL_law_871 rfl (lv_at hl 0 rfl) ?_
  refine x_iconst (v := nI 4) X dL_law_872 (by decide) ?_
  refine n_iadd X dL_law_873 ?_
  refine x_sld X hW hX hbl hbA (j := i + 4) (by omega) (by omega) dL_law_874 ?_
  refine x_aload_n X dL_law_875 rfl (lv_at hl 3 rfl) ?_
  refine x_iload_n X dL_law_876 rfl (lv_at hl 0 rfl) ?_
  refine x_iconst (v := nI 5) X dL_law_877 (by decide) ?_
  refine n_iadd X dL_law_878 ?_
  refine x_sld X hW hX hbl hbA (j := i + 5) (by omega) (by omega) dL_law_879 ?_
  refine x_pcallVi X hW (As := [.int (xs (i + 1)), .int (xs (i + 2)), .int (xs (i + 3)), .int (xs (i + 4)), .int (xs (i + 5))]) (rest := []) (wz := fun u => (wX cI cZ xq xa (sF xg 6 (fCopy (fun z => tg z 0) (mF 26) (fun z => tg z 2) (xs (i + 1)) (xs (i + 2)) (xs (i + 3)) (xs (i + 4)) (xs (i + 5)))) xh ++ (wA cO (xa 0) ys ++ (wC cI cZ (xa 1) ca cg cF ++ (wC cI cZ (xa 2) da dg dF ++ (wR cI cZ (xa 3) ra rg rF rE ++ (wS cI cZ (xa 4) za zg zh zk zF ++ (wT cI cZ (ys 0) (ta 0) (tg 0) ++ (wB cI ((ta 0) 3) (onR (xs (i + 1)) 4 (tf 0) (fun _ => onR (xs (i + 3)) 4 (tf 0) (fun _ => if copF (fun z => tg z 0) (mF 26) (fun z => tg z 2) 2 0 (xs (i + 2)) (xs (i + 4)) (xs (i + 5)) = 0 then mv (tf 0) (tf 2) (xs (i + 4)).toNatClampNeg (xs (i + 2)).toNatClampNeg (xs (i + 5)).toNatClampNeg else (tf 0)))) ++ (wT cI cZ (ys 1) (ta 1) (tg 1) ++ (wB cI ((ta 1) 3) (tf 1) ++ (wT cI cZ (ys 2) (ta 2) (tg 2) ++ (wB cI ((ta 2) 3) (tf 2) ++ (wT cI cZ (ys 3) (ta 3) (tg 3) ++ (wB cI ((ta 3) 3) (tf 3) ++ (wM cI cZ mq ma mg mh mF mE)))))))))))))))) (wC cI cZ (xa 1) ca cg cF ++ (wC cI cZ (xa 2) da dg dF ++ (wR cI cZ (xa 3) ra rg rF rE ++ (wS cI cZ (xa 4) za zg zh zk zF ++ (wT cI cZ (ys 1) (ta 1) (tg 1) ++ (wB cI ((ta 1) 3) (tf 1) ++ (wT cI cZ (ys 3) (ta 3) (tg 3) ++ (wB cI ((ta 3) 3) (tf 3) ++ (wM cI cZ mq ma mg mh mF mE))))))))) (c_X5_copyP l D cI cZ cO xq xa xg xh ys (ta 2) (tg 2) (tf 2) (ta 0) (tg 0) (tf 0) _ (xs (i + 1)) (xs (i + 2)) (xs (i + 3)) (xs (i + 4)) (xs (i + 5)) 2 0 (fun z => tg z 0) (mF 26) (fun z => tg z 2) (show 2 < 4 from (by decide)) (show ((tg 2) 2) ≤ 60 from ht2 2) (show ((tg 2) 0) ≤ 1 from ht0 2) (show ((tg 2) 1) ≤ 2 from ht1 2) (show (fun z => tg z 0) 2 = ((tg 2) 0) from rfl) (show (mF 26) 2 = ((tg 2) 1) from htl 2) (show (fun z => tg z 2) 2 = ((tg 2) 2) from rfl) (show 0 < 4 from (by decide)) (show ((tg 0) 2) ≤ 60 from ht2 0) (show ((tg 0) 0) ≤ 1 from ht0 0) (show ((tg 0) 1) ≤ 2 from ht1 0) (show (fun z => tg z 0) 0 = ((tg 0) 0) from rfl) (show (mF 26) 0 = ((tg 0) 1) from htl 0) (show (fun z => tg z 2) 0 = ((tg 0) 2) from rfl) (show ¬ inR (xs (i + 1)) 4 ∨ (xs (i + 1)) = nI 2 from hkj) (show ¬ inR (xs (i + 3)) 4 ∨ (xs (i + 3)) = nI 0 from hoj)) (cwV 5 X.2.2.2.2.2.1 gL_law_X5_copy rfl rfl rfl (by decide +kernel) ⟨Nat.le_of_ble_eq_true rfl, Nat.le_of_ble_eq_true rfl⟩) 4 rfl rfl rfl (apn (mfr _ _) (apn (mfr _ _) (apn (mf (mf (mf (mf (mf (mf (mf (mf (mfr _ _))))))))) (apn (mf (mf (mf (mf (mf (mf (mf (mf (mfr _ _))))))))) (apn (mf (mf (mf (mf (mfr _ _))))) (mf (mf (mf (mf (mfr _ _)))))))))) (fun u => (apn (mfr _ _) (apn (mfr _ _) (apn (mf (mf (mf (mf (mf (mf (mf (mf (mfr _ _))))))))) (apn (mf (mf (mf (mf (mf (mf (mf (mf (mfr _ _))))))))) (apn (mf (mf (mf (mf (mfr _ _))))) (mf (mf (mf (mf (mfr _ _))))))))))) rfl hl.1 rfl (Nat.le_of_ble_eq_true rfl) ⟨Nat.le_of_ble_eq_true rfl, Nat.le_of_ble_eq_true rfl⟩ dL_law_880 (fun r1 u2 H locs w880 hW => ?_)
  have hW : Wd D A s.heap H locs (wX cI cZ xq xa (sF xg 6 (fCopy (fun z => tg z 0) (mF 26) (fun z => tg z 2) (xs (i + 1)) (xs (i + 2)) (xs (i + 3)) (xs (i + 4)) (xs (i + 5)))) xh ++ (wA cO (xa 0) ys ++ (wC cI cZ (xa 1) ca cg cF ++ (wC cI cZ (xa 2) da dg dF ++ (wR cI cZ (xa 3) ra rg rF rE ++ (wS cI cZ (xa 4) za zg zh zk zF ++ (wT cI cZ (ys 0) (ta 0) (tg 0) ++ (wB cI ((ta 0) 3) (onR (xs (i + 1)) 4 (tf 0) (fun _ => onR (xs (i + 3)) 4 (tf 0) (fun _ => if copF (fun z => tg z 0) (mF 26) (fun z => tg z 2) 2 0 (xs (i + 2)) (xs (i + 4)) (xs (i + 5)) = 0 then mv (tf 0) (tf 2) (xs (i + 4)).toNatClampNeg (xs (i + 2)).toNatClampNeg (xs (i + 5)).toNatClampNeg else (tf 0)))) ++ (wT cI cZ (ys 1) (ta 1) (tg 1) ++ (wB cI ((ta 1) 3) (tf 1) ++ (wT cI cZ (ys 2) (ta 2) (tg 2) ++ (wB cI ((ta 2) 3) (tf 2) ++ (wT cI cZ (ys 3) (ta 3) (tg 3) ++ (wB cI ((ta 3) 3) (tf 3) ++ (wM cI cZ mq ma mg mh mF mE))))))))))))))) := hW
  replace w880 : r1 = aCopy (fun z => tg z 0) (mF 26) (fun z => tg z 2) (xs (i + 1)) (xs (i + 2)) (xs (i + 3)) (xs (i + 4)) (xs (i + 5)) := w880
  subst w880
  refine x_aload_n X dL_law_883 rfl (lv_at hl 1 rfl) ?_
  refine x_aload_n X dL_law_884 rfl (lv_at hl 3 rfl) ?_
  refine x_iload_n X dL_law_885 rfl (lv_at hl 0 rfl) ?_
  refine x_iconst (v := nI 1) X dL_law_886 (by decide) ?_
  refine n_iadd X dL_law_887 ?_
  refine x_sld X hW hX hbl hbA (j := i + 1) (by omega) (by omega) dL_law_888 ?_
  refine x_aload_n X dL_law_889 rfl (lv_at hl 3 rfl) ?_
  refine x_iload_n X dL_law_890 rfl (lv_at hl 0 rfl) ?_
  refine x_iconst (v := nI 2) X dL_law_891 (by decide) ?_
  refine n_iadd X dL_law_892 ?_
  refine x_sld X hW hX hbl hbA (j := i + 2) (by omega) (by omega) dL_law_893 ?_
  refine x_aload_n X dL_law_894 rfl (lv_at hl 3 rfl) ?_
  refine x_iload_n X dL_law_895 rfl (lv_at hl 0 rfl) ?_
  refine x_iconst (v := nI 3) X dL_law_896 (by decide) ?_
  refine n_iadd X dL_law_897 ?_
  refine x_sld X hW hX hbl hbA (j := i + 3) (by omega) (by omega) dL_law_898 ?_
  refine x_aload_n X dL_law_899 rfl (lv_at hl 3 rfl) ?_
  refine x_iload_n X dL_law_900 rfl (lv_at hl 0 rfl) ?_
  refine x_iconst (v := nI 4) X dL_law_901 (by decide) ?_
  refine n_iadd X dL_law_902 ?_
  refine x_sld X hW hX hbl hbA (j := i + 4) (by omega) (by omega) dL_law_903 ?_
  refine x_aload_n X dL_law_904 rfl (lv_at hl 3 rfl) ?_
  refine x_iload_n X dL_law_905 rfl (lv_at hl 0 rfl) ?_
  refine x_iconst (v := nI 5) X dL_law_906 (by decide) ?_
  refine n_iadd X dL_law_907 ?_
  refine x_sld X hW hX hbl hbA (j := i + 5) (by omega) (by omega) dL_law_908 ?_
  refine x_pcallVi X hW (As := [.int (xs (i + 1)), .int (xs (i + 2)), .int (xs (i + 3)), .int (xs (i + 4)), .int (xs (i + 5))]) (rest := [.int (aCopy (fun z => tg z 0) (mF 26) (fun z => tg z 2) (xs (i + 1)) (xs (i + 2)) (xs (i + 3)) (xs (i + 4)) (xs (i + 5)))]) (wz := fun u => (wX cI cZ xq xa (sF xg 6 (fCopy (fun z => tg z 0) (mF 26) (fun z => tg z 2) (xs (i + 1)) (xs (i + 2)) (xs (i + 3)) (xs (i + 4)) (xs (i + 5)))) xh ++ (wA cO (xa 0) ys ++ (wC cI cZ (xa 1) ca cg cF ++ (wC cI cZ (xa 2) da dg dF ++ (wR cI cZ (xa 3) ra rg rF rE ++ (wS cI cZ (xa 4) za zg zh zk zF ++ (wT cI cZ (ys 0) (ta 0) (tg 0) ++ (wB cI ((ta 0) 3) (onR (xs (i + 1)) 4 (tf 0) (fun _ => onR (xs (i + 3)) 4 (tf 0) (fun _ => if copF (fun z => tg z 0) (mF 26) (fun z => tg z 2) 2 0 (xs (i + 2)) (xs (i + 4)) (xs (i + 5)) = 0 then mv (tf 0) (tf 2) (xs (i + 4)).toNatClampNeg (xs (i + 2)).toNatClampNeg (xs (i + 5)).toNatClampNeg else (tf 0)))) ++ (wT cI cZ (ys 1) (ta 1) (tg 1) ++ (wB cI ((ta 1) 3) (tf 1) ++ (wT cI cZ (ys 2) (ta 2) (tg 2) ++ (wB cI ((ta 2) 3) (tf 2) ++ (wT cI cZ (ys 3) (ta 3) (tg 3) ++ (wB cI ((ta 3) 3) (tf 3) ++ (wM cI cZ mq ma (sF mg 0 (fCopy (fun z => tg z 0) ((mF 26)) (fun z => tg z 2) (xs (i + 1)) (xs (i + 2)) (xs (i + 3)) (xs (i + 4)) (xs (i + 5)))) mh mF (sF (sF mE 27 (sCopy (fun z => tg z 0) ((mF 26)) (fun z => tg z 2) (xs (i + 1)) (xs (i + 2)) (xs (i + 3)) (xs (i + 4)) (xs (i + 5)) ((mE 27)))) 28 u))))))))))))))))) (wX cI cZ xq xa (sF xg 6 (fCopy (fun z => tg z 0) (mF 26) (fun z => tg z 2) (xs (i + 1)) (xs (i + 2)) (xs (i + 3)) (xs (i + 4)) (xs (i + 5)))) xh ++ (wA cO (xa 0) ys ++ (wC cI cZ (xa 1) ca cg cF ++ (wC cI cZ (xa 2) da dg dF ++ (wR cI cZ (xa 3) ra rg rF rE ++ (wS cI cZ (xa 4) za zg zh zk zF ++ (wT cI cZ (ys 0) (ta 0) (tg 0) ++ (wB cI ((ta 0) 3) (onR (xs (i + 1)) 4 (tf 0) (fun _ => onR (xs (i + 3)) 4 (tf 0) (fun _ => if copF (fun z => tg z 0) (mF 26) (fun z => tg z 2) 2 0 (xs (i + 2)) (xs (i + 4)) (xs (i + 5)) = 0 then mv (tf 0) (tf 2) (xs (i + 4)).toNatClampNeg (xs (i + 2)).toNatClampNeg (xs (i + 5)).toNatClampNeg else (tf 0)))) ++ (wT cI cZ (ys 1) (ta 1) (tg 1) ++ (wB cI ((ta 1) 3) (tf 1) ++ (wT cI cZ (ys 2) (ta 2) (tg 2) ++ (wB cI ((ta 2) 3) (tf 2) ++ (wT cI cZ (ys 3) (ta 3) (tg 3) ++ (wB cI ((ta 3) 3) (tf 3))))))))))))))) (c_X6_copy l D cI cZ cO mq ma mg mh mF mE _ (xs (i + 1)) (xs (i + 2)) (xs (i + 3)) (xs (i + 4)) (xs (i + 5)) (fun z => tg z 0) (fun z => tg z 2) (show ∀ z, z < 4 → ((fun z => tg z 0) z = 0 ∧ (mE 25) z = (-1 : Int32)) ∨ ((fun z => tg z 0) z = 1 ∧ (mE 25) z = nI ((fun z => tg z 2) z)) from hts) (show ∀ z0, (fun z => tg z 2) z0 ≤ 60 from ht2) (show ∀ z0, (mF 26) z0 ≤ 2 from (fun z => by rw [htl]; exact ht1 z))) (cwV 5 X.2.2.2.2.2.1 gL_law_X6_copy rfl rfl rfl (by decide +kernel) ⟨Nat.le_of_ble_eq_true rfl, Nat.le_of_ble_eq_true rfl⟩) 5 rfl rfl rfl (ap1 (mf (mf (mf (mf (mf (mf (mf (mf (mf (mf (mf (mf (mf mf0)))))))))))))) (fun u => (ap1 (mf (mf (mf (mf (mf (mf (mf (mf (mf (mf (mf (mf (mf mf0))))))))))))))) rfl hl.1 rfl (Nat.le_of_ble_eq_true rfl) ⟨Nat.le_of_ble_eq_true rfl, Nat.le_of_ble_eq_true rfl⟩ dL_law_909 (fun r4 u5 H locs w909 hW => ?_)
  obtain ⟨o1_3, o1_3e⟩ : ∃ z, z = u5 := ⟨_, rfl⟩
  subst o1_3e
  have hW : Wd D A s.heap H locs (wX cI cZ xq xa (sF xg 6 (fCopy (fun z => tg z 0) (mF 26) (fun z => tg z 2) (xs (i + 1)) (xs (i + 2)) (xs (i + 3)) (xs (i + 4)) (xs (i + 5)))) xh ++ (wA cO (xa 0) ys ++ (wC cI cZ (xa 1) ca cg cF ++ (wC cI cZ (xa 2) da dg dF ++ (wR cI cZ (xa 3) ra rg rF rE ++ (wS cI cZ (xa 4) za zg zh zk zF ++ (wT cI cZ (ys 0) (ta 0) (tg 0) ++ (wB cI ((ta 0) 3) (onR (xs (i + 1)) 4 (tf 0) (fun _ => onR (xs (i + 3)) 4 (tf 0) (fun _ => if copF (fun z => tg z 0) (mF 26) (fun z => tg z 2) 2 0 (xs (i + 2)) (xs (i + 4)) (xs (i + 5)) = 0 then mv (tf 0) (tf 2) (xs (i + 4)).toNatClampNeg (xs (i + 2)).toNatClampNeg (xs (i + 5)).toNatClampNeg else (tf 0)))) ++ (wT cI cZ (ys 1) (ta 1) (tg 1) ++ (wB cI ((ta 1) 3) (tf 1) ++ (wT cI cZ (ys 2) (ta 2) (tg 2) ++ (wB cI ((ta 2) 3) (tf 2) ++ (wT cI cZ (ys 3) (ta 3) (tg 3) ++ (wB cI ((ta 3) 3) (tf 3) ++ (wM cI cZ mq ma (sF mg 0 (fCopy (fun z => tg z 0) ((mF 26)) (fun z => tg z 2) (xs (i + 1)) (xs (i + 2)) (xs (i + 3)) (xs (i + 4)) (xs (i + 5)))) mh mF (sF (sF mE 27 (sCopy (fun z => tg z 0) ((mF 26)) (fun z => tg z 2) (xs (i + 1)) (xs (i + 2)) (xs (i + 3)) (xs (i + 4)) (xs (i + 5)) ((mE 27)))) 28 o1_3)))))))))))))))) := hW
  replace w909 : r4 = aCopy (fun z => tg z 0) ((mF 26)) (fun z => tg z 2) (xs (i + 1)) (xs (i + 2)) (xs (i + 3)) (xs (i + 4)) (xs (i + 5)) := w909
  subst w909
  refine x_icmp_eq X 1045 dL_law_912 (by decide) (fun c912 => ?_) (fun c912 => by exact absurd (by (try rw [e1]); (try rw [e2]); (try rw [e3]); (try rw [e4]); (try rw [e5]); (try rw [f1]); (try rw [f2]); (try rw [f3]); (try rw [f4]); (try rfl)) c912)
  exact next _ _ _ ⟨xa, (sF xg 6 (fCopy (fun z => tg z 0) (mF 26) (fun z => tg z 2) (xs (i + 1)) (xs (i + 2)) (xs (i + 3)) (xs (i + 4)) (xs (i + 5)))), xh, ys, ca, cg, cF, da, dg, dF, ra, rg, rF, rE, za, zg, zh, zk, zF, ma, (sF mg 0 (fCopy (fun z => tg z 0) ((mF 26)) (fun z => tg z 2) (xs (i + 1)) (xs (i + 2)) (xs (i + 3)) (xs (i + 4)) (xs (i + 5)))), mh, mF, (sF (sF mE 27 (sCopy (fun z => tg z 0) ((mF 26)) (fun z => tg z 2) (xs (i + 1)) (xs (i + 2)) (xs (i + 3)) (xs (i + 4)) (xs (i + 5)) ((mE 27)))) 28 o1_3), ta, tg, (sF tf 0 (onR (xs (i + 1)) 4 (tf 0) (fun _ => onR (xs (i + 3)) 4 (tf 0) (fun _ => if copF (fun z => tg z 0) (mF 26) (fun z => tg z 2) 2 0 (xs (i + 2)) (xs (i + 4)) (xs (i + 5)) = 0 then mv (tf 0) (tf 2) (xs (i + 4)).toNatClampNeg (xs (i + 2)).toNatClampNeg (xs (i + 5)).toNatClampNeg else (tf 0))))), hW, hRC, hRR, hRD, hSK, RT_copy hRT (show 2 < 4 by decide) (show 0 < 4 by decide) hkj hoj, ⟨hRX.1, rfl⟩, hRM⟩ (lv_sub hl [0, 1, 2, 3] rfl)
set_option maxHeartbeats 4000000 in
set_option maxRecDepth 100000 in
theorem law_copy_2_1 {p : Program} {e : Env} {s : State} {m : MethodId} {below : List Frame} {meth : Method} {c : Code} {D : va_G} {cI cZ cO : ClassId} {A : Nat → Prop} {Q : State → Prop} {l : Launch} {b L xq mq i : Nat} {xs : Nat → Int32} {H : Heap} {locs : List Loc} {ls : Array Slot} (X : Fx p s m #[Value.ref b] meth c code 4 ret wsL_law RL D (ty3 cI cZ cO) A) (hX : va_X b L xs s s.heap) (hbl : b < s.heap.size) (hbA : ¬ A b) (hL : L ≤ 3072) (hi : i + 6 ≤ L) (hI : lw_I D cI cZ cO A s.heap xq mq H locs) (hl : lv_has ls 4 [(3, .int (nI i)), (2, .ref mq), (1, .ref xq), (0, .ref b)]) (hkj : ¬ inR (xs (i + 1)) 4 ∨ xs (i + 1) = nI 2) (hoj : ¬ inR (xs (i + 3)) 4 ∨ xs (i + 3) = nI 1) (next : ∀ (H : Heap) (locs : List Loc) (ls : Array Slot), lw_I D cI cZ cO A s.heap xq mq H locs → lv_has ls 4 [(3, .int (nI i)), (2, .ref mq), (1, .ref xq), (0, .ref b)] → W p l e room_1 s m #[Value.ref b] below meth c H locs 600000 7302250 Q (F0 m 1045 ls [])) : W p l e room_1 s m #[Value.ref b] below meth c H locs 600000 7302250 Q (F0 m 854 ls []) := by
  obtain ⟨xa, xg, xh, ys, ca, cg, cF, da, dg, dF, ra, rg, rF, rE, za, zg, zh, zk, zF, ma, mg, mh, mF, mE, ta, tg, tf, hW, hRC, hRR, hRD, hSK, hRT, hRX, hRM⟩ := hI
  have hW : Wd D A s.heap H locs (wX cI cZ xq xa xg xh ++ (wA cO (xa 0) ys ++ (wC cI cZ (xa 1) ca cg cF ++ (wC cI cZ (xa 2) da dg dF ++ (wR cI cZ (xa 3) ra rg rF rE ++ (wS cI cZ (xa 4) za zg zh zk zF ++ (wT cI cZ (ys 0) (ta 0) (tg 0) ++ (wB cI ((ta 0) 3) (tf 0) ++ (wT cI cZ (ys 1) (ta 1) (tg 1) ++ (wB cI ((ta 1) 3) (tf 1) ++ (wT cI cZ (ys 2) (ta 2) (tg 2) ++ (wB cI ((ta 2) 3) (tf 2) ++ (wT cI cZ (ys 3) (ta 3) (tg 3) ++ (wB cI ((ta 3) 3) (tf 3) ++ (wM cI cZ mq ma mg mh mF mE))))))))))))))) := hW
  obtain ⟨h02, hn, hrn, hk, hlv, hm, e2, e1, e3, e4, e5⟩ := id hRC
  obtain ⟨hrc, hro, hra, hrd, f1, f2, f3, f4⟩ := id hRR
  obtain ⟨hdn, hdr, hdk, hdl, hdm⟩ := id hRD
  obtain ⟨ht0, ht1, ht2, htl, hts, htc⟩ := id hRT
  refine x_aload_n X dL_law_854 rfl (lv_at hl 2 rfl) ?_
  refine x_aload_n X dL_law_855 rfl (lv_at hl 3 rfl) ?_
  refine x_iload_n X dL_law_856 rfl (lv_at hl 0 rfl) ?_
  refine x_iconst (v := nI 1) X dL_law_857 (by decide) ?_
  refine n_iadd X dL_law_858 ?_
  refine x_sld X hW hX hbl hbA (j := i + 1) (by omega) (by omega) dL_law_859 ?_
  refine x_aload_n X dL_law_860 rfl (lv_at hl 3 rfl) ?_
  refine x_iload_n X dL_law_861 rfl (lv_at hl 0 rfl) ?_
  refine x_iconst (v := nI 2) X dL_law_862 (by decide) ?_
  refine n_iadd X dL_law_863 ?_
  refine x_sld X hW hX hbl hbA (j := i + 2) (by omega) (by omega) dL_law_864 ?_
  refine x_aload_n X dL_law_865 rfl (lv_at hl 3 rfl) ?_
  refine x_iload_n X dL_law_866 rfl (lv_at hl 0 rfl) ?_
  refine x_iconst (v := nI 3) X dL_law_867 (by decide) ?_
  refine n_iadd X dL_law_868 ?_
  refine x_sld X hW hX hbl hbA (j := i + 3) (by omega) (by omega) dL_law_869 ?_
  refine x_aload_n X dL_law_870 rfl (lv_at hl 3 rfl) ?_
  refine x_iload_n X dL_law_871 rfl (lv_at hl 0 rfl) ?_
  refine x_iconst (v := nI 4) X dL_law_872 (by decide) ?_
  refine n_iadd X dL_law_873 ?_
  refine x_sld X hW hX hbl hbA (j := i + 4) (by omega) (by omega) dL_law_874 ?_
  refine x_aload_n X dL_law_875 rfl (lv_at hl 3 rfl) ?_
  refine x_iload_n X dL_law_876 rfl (lv_at hl 0 rfl) ?_
  refine x_iconst (v := nI 5) X dL_law_877 (by decide) ?_
  refine n_iadd X dL_law_878 ?_
  refine x_sld X hW hX hbl hbA (j := i + 5) (by omega) (by omega) dL_law_879 ?_
  refine x_pcallVi X hW (As := [.int (xs (i + 1)), .int (xs (i + 2)), .int (xs (i + 3)), .int (xs (i + 4)), .int (xs (i + 5))]) (rest := []) (wz := fun u => (wX cI cZ xq xa (sF xg 6 (fCopy (fun z => tg z 0) (mF 26) (fun z => tg z 2) (xs (i + 1)) (xs (i + 2)) (xs (i + 3)) (xs (i + 4)) (xs (i + 5)))) xh ++ (wA cO (xa 0) ys ++ (wC cI cZ (xa 1) ca cg cF ++ (wC cI cZ (xa 2) da dg dF ++ (wR cI cZ (xa 3) ra rg rF rE ++ (wS cI cZ (xa 4) za zg zh zk zF ++ (wT cI cZ (ys 0) (ta 0) (tg 0) ++ (wB cI ((ta 0) 3) (tf 0) ++ (wT cI cZ (ys 1) (ta 1) (tg 1) ++ (wB cI ((ta 1) 3) (onR (xs (i + 1)) 4 (tf 1) (fun _ => onR (xs (i + 3)) 4 (tf 1) (fun _ => if copF (fun z => tg z 0) (mF 26) (fun z => tg z 2) 2 1 (xs (i + 2)) (xs (i + 4)) (xs (i + 5)) = 0 then mv (tf 1) (tf 2) (xs (i + 4)).toNatClampNeg (xs (i + 2)).toNatClampNeg (xs (i + 5)).toNatClampNeg else (tf 1)))) ++ (wT cI cZ (ys 2) (ta 2) (tg 2) ++ (wB cI ((ta 2) 3) (tf 2) ++ (wT cI cZ (ys 3) (ta 3) (tg 3) ++ (wB cI ((ta 3) 3) (tf 3) ++ (wM cI cZ mq ma mg mh mF mE)))))))))))))))) (wC cI cZ (xa 1) ca cg cF ++ (wC cI cZ (xa 2) da dg dF ++ (wR cI cZ (xa 3) ra rg rF rE ++ (wS cI cZ (xa 4) za zg zh zk zF ++ (wT cI cZ (ys 0) (ta 0) (tg 0) ++ (wB cI ((ta 0) 3) (tf 0) ++ (wT cI cZ (ys 3) (ta 3) (tg 3) ++ (wB cI ((ta 3) 3) (tf 3) ++ (wM cI cZ mq ma mg mh mF mE))))))))) (c_X5_copyP l D cI cZ cO xq xa xg xh ys (ta 2) (tg 2) (tf 2) (ta 1) (tg 1) (tf 1) _ (xs (i + 1)) (xs (i + 2)) (xs (i + 3)) (xs (i + 4)) (xs (i + 5)) 2 1 (fun z => tg z 0) (mF 26) (fun z => tg z 2) (show 2 < 4 from (by decide)) (show ((tg 2) 2) ≤ 60 from ht2 2) (show ((tg 2) 0) ≤ 1 from ht0 2) (show ((tg 2) 1) ≤ 2 from ht1 2) (show (fun z => tg z 0) 2 = ((tg 2) 0) from rfl) (show (mF 26) 2 = ((tg 2) 1) from htl 2) (show (fun z => tg z 2) 2 = ((tg 2) 2) from rfl) (show 1 < 4 from (by decide)) (show ((tg 1) 2) ≤ 60 from ht2 1) (show ((tg 1) 0) ≤ 1 from ht0 1) (show ((tg 1) 1) ≤ 2 from ht1 1) (show (fun z => tg z 0) 1 = ((tg 1) 0) from rfl) (show (mF 26) 1 = ((tg 1) 1) from htl 1) (show (fun z => tg z 2) 1 = ((tg 1) 2) from rfl) (show ¬ inR (xs (i + 1)) 4 ∨ (xs (i + 1)) = nI 2 from hkj) (show ¬ inR (xs (i + 3)) 4 ∨ (xs (i + 3)) = nI 1 from hoj)) (cwV 5 X.2.2.2.2.2.1 gL_law_X5_copy rfl rfl rfl (by decide +kernel) ⟨Nat.le_of_ble_eq_true rfl, Nat.le_of_ble_eq_true rfl⟩) 4 rfl rfl rfl (apn (mfr _ _) (apn (mfr _ _) (apn (mf (mf (mf (mf (mf (mf (mf (mf (mfr _ _))))))))) (apn (mf (mf (mf (mf (mf (mf (mf (mf (mfr _ _))))))))) (apn (mf (mf (mf (mf (mf (mf (mfr _ _))))))) (mf (mf (mf (mf (mf (mf (mfr _ _)))))))))))) (fun u => (apn (mfr _ _) (apn (mfr _ _) (apn (mf (mf (mf (mf (mf (mf (mf (mf (mfr _ _))))))))) (apn (mf (mf (mf (mf (mf (mf (mf (mf (mfr _ _))))))))) (apn (mf (mf (mf (mf (mf (mf (mfr _ _))))))) (mf (mf (mf (mf (mf (mf (mfr _ _))))))))))))) rfl hl.1 rfl (Nat.le_of_ble_eq_true rfl) ⟨Nat.le_of_ble_eq_true rfl, Nat.le_of_ble_eq_true rfl⟩ dL_law_880 (fun r1 u2 H locs w880 hW => ?_)
  have hW : Wd D A s.heap H locs (wX cI cZ xq xa (sF xg 6 (fCopy (fun z => tg z 0) (mF 26) (fun z => tg z 2) (xs (i + 1)) (xs (i + 2)) (xs (i + 3)) (xs (i + 4)) (xs (i + 5)))) xh ++ (wA cO (xa 0) ys ++ (wC cI cZ (xa 1) ca cg cF ++ (wC cI cZ (xa 2) da dg dF ++ (wR cI cZ (xa 3) ra rg rF rE ++ (wS cI cZ (xa 4) za zg zh zk zF ++ (wT cI cZ (ys 0) (ta 0) (tg 0) ++ (wB cI ((ta 0) 3) (tf 0) ++ (wT cI cZ (ys 1) (ta 1) (tg 1) ++ (wB cI ((ta 1) 3) (onR (xs (i + 1)) 4 (tf 1) (fun _ => onR (xs (i + 3)) 4 (tf 1) (fun _ => if copF (fun z => tg z 0) (mF 26) (fun z => tg z 2) 2 1 (xs (i + 2)) (xs (i + 4)) (xs (i + 5)) = 0 then mv (tf 1) (tf 2) (xs (i + 4)).toNatClampNeg (xs (i + 2)).toNatClampNeg (xs (i + 5)).toNatClampNeg else (tf 1)))) ++ (wT cI cZ (ys 2) (ta 2) (tg 2) ++ (wB cI ((ta 2) 3) (tf 2) ++ (wT cI cZ (ys 3) (ta 3) (tg 3) ++ (wB cI ((ta 3) 3) (tf 3) ++ (wM cI cZ mq ma mg mh mF mE))))))))))))))) := hW
  replace w880 : r1 = aCopy (fun z => tg z 0) (mF 26) (fun z => tg z 2) (xs (i + 1)) (xs (i + 2)) (xs (i + 3)) (xs (i + 4)) (xs (i + 5)) := w880
  subst w880
  refine x_aload_n X dL_law_883 rfl (lv_at hl 1 rfl) ?_
  refine x_aload_n X dL_law_884 rfl (lv_at hl 3 rfl) ?_
  refine x_iload_n X dL_law_885 rfl (lv_at hl 0 rfl) ?_
  refine x_iconst (v := nI 1) X dL_law_886 (by decide) ?_
  refine n_iadd X dL_law_887 ?_
  refine x_sld X hW hX hbl hbA (j := i + 1) (by omega) (by omega) dL_law_888 ?_
  refine x_aload_n X dL_law_889 rfl (lv_at hl 3 rfl) ?_
  refine x_iload_n X dL_law_890 rfl (lv_at hl 0 rfl) ?_
  refine x_iconst (v := nI 2) X dL_law_891 (by decide) ?_
  refine n_iadd X dL_law_892 ?_
  refine x_sld X hW hX hbl hbA (j := i + 2) (by omega) (by omega) dL_law_893 ?_
  refine x_aload_n X dL_law_894 rfl (lv_at hl 3 rfl) ?_
  refine x_iload_n X dL_law_895 rfl (lv_at hl 0 rfl) ?_
  refine x_iconst (v := nI 3) X dL_law_896 (by decide) ?_
  refine n_iadd X dL_law_897 ?_
  refine x_sld X hW hX hbl hbA (j := i + 3) (by omega) (by omega) dL_law_898 ?_
  refine x_aload_n X dL_law_899 rfl (lv_at hl 3 rfl) ?_
  refine x_iload_n X dL_law_900 rfl (lv_at hl 0 rfl) ?_
  refine x_iconst (v := nI 4) X dL_law_901 (by decide) ?_
  refine n_iadd X dL_law_902 ?_
  refine x_sld X hW hX hbl hbA (j := i + 4) (by omega) (by omega) dL_law_903 ?_
  refine x_aload_n X dL_law_904 rfl (lv_at hl 3 rfl) ?_
  refine x_iload_n X dL_law_905 rfl (lv_at hl 0 rfl) ?_
  refine x_iconst (v := nI 5) X dL_law_906 (by decide) ?_
  refine n_iadd X dL_law_907 ?_
  refine x_sld X hW hX hbl hbA (j := i + 5) (by omega) (by omega) dL_law_908 ?_
  refine x_pcallVi X hW (As := [.int (xs (i + 1)), .int (xs (i + 2)), .int (xs (i + 3)), .int (xs (i + 4)), .int (xs (i + 5))]) (rest := [.int (aCopy (fun z => tg z 0) (mF 26) (fun z => tg z 2) (xs (i + 1)) (xs (i + 2)) (xs (i + 3)) (xs (i + 4)) (xs (i + 5)))]) (wz := fun u => (wX cI cZ xq xa (sF xg 6 (fCopy (fun z => tg z 0) (mF 26) (fun z => tg z 2) (xs (i + 1)) (xs (i + 2)) (xs (i + 3)) (xs (i + 4)) (xs (i + 5)))) xh ++ (wA cO (xa 0) ys ++ (wC cI cZ (xa 1) ca cg cF ++ (wC cI cZ (xa 2) da dg dF ++ (wR cI cZ (xa 3) ra rg rF rE ++ (wS cI cZ (xa 4) za zg zh zk zF ++ (wT cI cZ (ys 0) (ta 0) (tg 0) ++ (wB cI ((ta 0) 3) (tf 0) ++ (wT cI cZ (ys 1) (ta 1) (tg 1) ++ (wB cI ((ta 1) 3) (onR (xs (i + 1)) 4 (tf 1) (fun _ => onR (xs (i + 3)) 4 (tf 1) (fun _ => if copF (fun z => tg z 0) (mF 26) (fun z => tg z 2) 2 1 (xs (i + 2)) (xs (i + 4)) (xs (i + 5)) = 0 then mv (tf 1) (tf 2) (xs (i + 4)).toNatClampNeg (xs (i + 2)).toNatClampNeg (xs (i + 5)).toNatClampNeg else (tf 1)))) ++ (wT cI cZ (ys 2) (ta 2) (tg 2) ++ (wB cI ((ta 2) 3) (tf 2) ++ (wT cI cZ (ys 3) (ta 3) (tg 3) ++ (wB cI ((ta 3) 3) (tf 3) ++ (wM cI cZ mq ma (sF mg 0 (fCopy (fun z => tg z 0) ((mF 26)) (fun z => tg z 2) (xs (i + 1)) (xs (i + 2)) (xs (i + 3)) (xs (i + 4)) (xs (i + 5)))) mh mF (sF (sF mE 27 (sCopy (fun z => tg z 0) ((mF 26)) (fun z => tg z 2) (xs (i + 1)) (xs (i + 2)) (xs (i + 3)) (xs (i + 4)) (xs (i + 5)) ((mE 27)))) 28 u))))))))))))))))) (wX cI cZ xq xa (sF xg 6 (fCopy (fun z => tg z 0) (mF 26) (fun z => tg z 2) (xs (i + 1)) (xs (i + 2)) (xs (i + 3)) (xs (i + 4)) (xs (i + 5)))) xh ++ (wA cO (xa 0) ys ++ (wC cI cZ (xa 1) ca cg cF ++ (wC cI cZ (xa 2) da dg dF ++ (wR cI cZ (xa 3) ra rg rF rE ++ (wS cI cZ (xa 4) za zg zh zk zF ++ (wT cI cZ (ys 0) (ta 0) (tg 0) ++ (wB cI ((ta 0) 3) (tf 0) ++ (wT cI cZ (ys 1) (ta 1) (tg 1) ++ (wB cI ((ta 1) 3) (onR (xs (i + 1)) 4 (tf 1) (fun _ => onR (xs (i + 3)) 4 (tf 1) (fun _ => if copF (fun z => tg z 0) (mF 26) (fun z => tg z 2) 2 1 (xs (i + 2)) (xs (i + 4)) (xs (i + 5)) = 0 then mv (tf 1) (tf 2) (xs (i + 4)).toNatClampNeg (xs (i + 2)).toNatClampNeg (xs (i + 5)).toNatClampNeg else (tf 1)))) ++ (wT cI cZ (ys 2) (ta 2) (tg 2) ++ (wB cI ((ta 2) 3) (tf 2) ++ (wT cI cZ (ys 3) (ta 3) (tg 3) ++ (wB cI ((ta 3) 3) (tf 3))))))))))))))) (c_X6_copy l D cI cZ cO mq ma mg mh mF mE _ (xs (i + 1)) (xs (i + 2)) (xs (i + 3)) (xs (i + 4)) (xs (i + 5)) (fun z => tg z 0) (fun z => tg z 2) (show ∀ z, z < 4 → ((fun z => tg z 0) z = 0 ∧ (mE 25) z = (-1 : Int32)) ∨ ((fun z => tg z 0) z = 1 ∧ (mE 25) z = nI ((fun z => tg z 2) z)) from hts) (show ∀ z0, (fun z => tg z 2) z0 ≤ 60 from ht2) (show ∀ z0, (mF 26) z0 ≤ 2 from (fun z => by rw [htl]; exact ht1 z))) (cwV 5 X.2.2.2.2.2.1 gL_law_X6_copy rfl rfl rfl (by decide +kernel) ⟨Nat.le_of_ble_eq_true rfl, Nat.le_of_ble_eq_true rfl⟩) 5 rfl rfl rfl (ap1 (mf (mf (mf (mf (mf (mf (mf (mf (mf (mf (mf (mf (mf mf0)))))))))))))) (fun u => (ap1 (mf (mf (mf (mf (mf (mf (mf (mf (mf (mf (mf (mf (mf mf0))))))))))))))) rfl hl.1 rfl (Nat.le_of_ble_eq_true rfl) ⟨Nat.le_of_ble_eq_true rfl, Nat.le_of_ble_eq_true rfl⟩ dL_law_909 (fun r4 u5 H locs w909 hW => ?_)
  obtain ⟨o1_3, o1_3e⟩ : ∃ z, z = u5 := ⟨_, rfl⟩
  subst o1_3e
  have hW : Wd D A s.heap H locs (wX cI cZ xq xa (sF xg 6 (fCopy (fun z => tg z 0) (mF 26) (fun z => tg z 2) (xs (i + 1)) (xs (i + 2)) (xs (i + 3)) (xs (i + 4)) (xs (i + 5)))) xh ++ (wA cO (xa 0) ys ++ (wC cI cZ (xa 1) ca cg cF ++ (wC cI cZ (xa 2) da dg dF ++ (wR cI cZ (xa 3) ra rg rF rE ++ (wS cI cZ (xa 4) za zg zh zk zF ++ (wT cI cZ (ys 0) (ta 0) (tg 0) ++ (wB cI ((ta 0) 3) (tf 0) ++ (wT cI cZ (ys 1) (ta 1) (tg 1) ++ (wB cI ((ta 1) 3) (onR (xs (i + 1)) 4 (tf 1) (fun _ => onR (xs (i + 3)) 4 (tf 1) (fun _ => if copF (fun z => tg z 0) (mF 26) (fun z => tg z 2) 2 1 (xs (i + 2)) (xs (i + 4)) (xs (i + 5)) = 0 then mv (tf 1) (tf 2) (xs (i + 4)).toNatClampNeg (xs (i + 2)).toNatClampNeg (xs (i + 5)).toNatClampNeg else (tf 1)))) ++ (wT cI cZ (ys 2) (ta 2) (tg 2) ++ (wB cI ((ta 2) 3) (tf 2) ++ (wT cI cZ (ys 3) (ta 3) (tg 3) ++ (wB cI ((ta 3) 3) (tf 3) ++ (wM cI cZ mq ma (sF mg 0 (fCopy (fun z => tg z 0) ((mF 26)) (fun z => tg z 2) (xs (i + 1)) (xs (i + 2)) (xs (i + 3)) (xs (i + 4)) (xs (i + 5)))) mh mF (sF (sF mE 27 (sCopy (fun z => tg z 0) ((mF 26)) (fun z => tg z 2) (xs (i + 1)) (xs (i + 2)) (xs (i + 3)) (xs (i + 4)) (xs (i + 5)) ((mE 27)))) 28 o1_3)))))))))))))))) := hW
  replace w909 : r4 = aCopy (fun z => tg z 0) ((mF 26)) (fun z => tg z 2) (xs (i + 1)) (xs (i + 2)) (xs (i + 3)) (xs (i + 4)) (xs (i + 5)) := w909
  subst w909
  refine x_icmp_eq X 1045 dL_law_912 (by decide) (fun c912 => ?_) (fun c912 => by exact absurd (by (try rw [e1]); (try rw [e2]); (try rw [e3]); (try rw [e4]); (try rw [e5]); (try rw [f1]); (try rw [f2]); (try rw [f3]); (try rw [f4]); (try rfl)) c912)
  exact next _ _ _ ⟨xa, (sF xg 6 (fCopy (fun z => tg z 0) (mF 26) (fun z => tg z 2) (xs (i + 1)) (xs (i + 2)) (xs (i + 3)) (xs (i + 4)) (xs (i + 5)))), xh, ys, ca, cg, cF, da, dg, dF, ra, rg, rF, rE, za, zg, zh, zk, zF, ma, (sF mg 0 (fCopy (fun z => tg z 0) ((mF 26)) (fun z => tg z 2) (xs (i + 1)) (xs (i + 2)) (xs (i + 3)) (xs (i + 4)) (xs (i + 5)))), mh, mF, (sF (sF mE 27 (sCopy (fun z => tg z 0) ((mF 26)) (fun z => tg z 2) (xs (i + 1)) (xs (i + 2)) (xs (i + 3)) (xs (i + 4)) (xs (i + 5)) ((mE 27)))) 28 o1_3), ta, tg, (sF tf 1 (onR (xs (i + 1)) 4 (tf 1) (fun _ => onR (xs (i + 3)) 4 (tf 1) (fun _ => if copF (fun z => tg z 0) (mF 26) (fun z => tg z 2) 2 1 (xs (i + 2)) (xs (i + 4)) (xs (i + 5)) = 0 then mv (tf 1) (tf 2) (xs (i + 4)).toNatClampNeg (xs (i + 2)).toNatClampNeg (xs (i + 5)).toNatClampNeg else (tf 1))))), hW, hRC, hRR, hRD, hSK, RT_copy hRT (show 2 < 4 by decide) (show 1 < 4 by decide) hkj hoj, ⟨hRX.1, rfl⟩, hRM⟩ (lv_sub hl [0, 1, 2, 3] rfl)
set_option maxHeartbeats 4000000 in
set_option maxRecDepth 100000 in
theorem law_copy_2_2 {p : Program} {e : Env} {s : State} {m : MethodId} {below : List Frame} {meth : Method} {c : Code} {D : va_G} {cI cZ cO : ClassId} {A : Nat → Prop} {Q : State → Prop} {l : Launch} {b L xq mq i : Nat} {xs : Nat → Int32} {H : Heap} {locs : List Loc} {ls : Array Slot} (X : Fx p s m #[Value.ref b] meth c code 4 ret wsL_law RL D (ty3 cI cZ cO) A) (hX : va_X b L xs s s.heap) (hbl : b < s.heap.size) (hbA : ¬ A b) (hL : L ≤ 3072) (hi : i + 6 ≤ L) (hI : lw_I D cI cZ cO A s.heap xq mq H locs) (hl : lv_has ls 4 [(3, .int (nI i)), (2, .ref mq), (1, .ref xq), (0, .ref b)]) (hkj : xs (i + 1) = nI 2) (hoj : xs (i + 3) = nI 2) (next : ∀ (H : Heap) (locs : List Loc) (ls : Array Slot), lw_I D cI cZ cO A s.heap xq mq H locs → lv_has ls 4 [(3, .int (nI i)), (2, .ref mq), (1, .ref xq), (0, .ref b)] → W p l e room_1 s m #[Value.ref b] below meth c H locs 600000 7302250 Q (F0 m 1045 ls [])) : W p l e room_1 s m #[Value.ref b] below meth c H locs 600000 7302250 Q (F0 m 854 ls []) := by
  obtain ⟨xa, xg, xh, ys, ca, cg, cF, da, dg, dF, ra, rg, rF, rE, za, zg, zh, zk, zF, ma, mg, mh, mF, mE, ta, tg, tf, hW, hRC, hRR, hRD, hSK, hRT, hRX, hRM⟩ := hI
  have hW : Wd D A s.heap H locs (wX cI cZ xq xa xg xh ++ (wA cO (xa 0) ys ++ (wC cI cZ (xa 1) ca cg cF ++ (wC cI cZ (xa 2) da dg dF ++ (wR cI cZ (xa 3) ra rg rF rE ++ (wS cI cZ (xa 4) za zg zh zk zF ++ (wT cI cZ (ys 0) (ta 0) (tg 0) ++ (wB cI ((ta 0) 3) (tf 0) ++ (wT cI cZ (ys 1) (ta 1) (tg 1) ++ (wB cI ((ta 1) 3) (tf 1) ++ (wT cI cZ (ys 2) (ta 2) (tg 2) ++ (wB cI ((ta 2) 3) (tf 2) ++ (wT cI cZ (ys 3) (ta 3) (tg 3) ++ (wB cI ((ta 3) 3) (tf 3) ++ (wM cI cZ mq ma mg mh mF mE))))))))))))))) := hW
  obtain ⟨h02, hn, hrn, hk, hlv, hm, e2, e1, e3, e4, e5⟩ := id hRC
  obtain ⟨hrc, hro, hra, hrd, f1, f2, f3, f4⟩ := id hRR
  obtain ⟨hdn, hdr, hdk, hdl, hdm⟩ := id hRD
  obtain ⟨ht0, ht1, ht2, htl, hts, htc⟩ := id hRT
  refine x_aload_n X dL_law_854 rfl (lv_at hl 2 rfl) ?_
  refine x_aload_n X dL_law_855 rfl (lv_at hl 3 rfl) ?_
  refine x_iload_n X dL_law_856 rfl (lv_at hl 0 rfl) ?_
  refine x_iconst (v := nI 1) X dL_law_857 (by decide) ?_
  refine n_iadd X dL_law_858 ?_
  refine x_sld X hW hX hbl hbA (j := i + 1) (by omega) (by omega) dL_law_859 ?_
  refine x_aload_n X dL_law_860 rfl (lv_at hl 3 rfl) ?_
  refine x_iload_n X dL_law_861 rfl (lv_at hl 0 rfl) ?_
  refine x_iconst (v := nI 2) X dL_law_862 (by decide) ?_
  refine n_iadd X dL_law_863 ?_
  refine x_sld X hW hX hbl hbA (j := i + 2) (by omega) (by omega) dL_law_864 ?_
  refine x_aload_n X dL_law_865 rfl (lv_at hl 3 rfl) ?_
  refine x_iload_n X dL_law_866 rfl (lv_at hl 0 rfl) ?_
  refine x_iconst (v := nI 3) X dL_law_867 (by decide) ?_
  refine n_iadd X dL_law_868 ?_
  refine x_sld X hW hX hbl hbA (j := i + 3) (by omega) (by omega) dL_law_869 ?_
  refine x_aload_n X dL_law_870 rfl (lv_at hl 3 rfl) ?_
  refine x_iload_n X dL_law_871 rfl (lv_at hl 0 rfl) ?_
  refine x_iconst (v := nI 4) X dL_law_872 (by decide) ?_
  refine n_iadd X dL_law_873 ?_
  refine x_sld X hW hX hbl hbA (j := i + 4) (by omega) (by omega) dL_law_874 ?_
  refine x_aload_n X dL_law_875 rfl (lv_at hl 3 rfl) ?_
  refine x_iload_n X dL_law_876 rfl (lv_at hl 0 rfl) ?_
  refine x_iconst (v := nI 5) X dL_law_877 (by decide) ?_
  refine n_iadd X dL_law_878 ?_
  refine x_sld X hW hX hbl hbA (j := i + 5) (by omega) (by omega) dL_law_879 ?_
  refine x_pcallVi X hW (As := [.int (xs (i + 1)), .int (xs (i + 2)), .int (xs (i + 3)), .int (xs (i + 4)), .int (xs (i + 5))]) (rest := []) (wz := fun u => (wX cI cZ xq xa (sF xg 6 (fCopy (fun z => tg z 0) (mF 26) (fun z => tg z 2) (xs (i + 1)) (xs (i + 2)) (xs (i + 3)) (xs (i + 4)) (xs (i + 5)))) xh ++ (wA cO (xa 0) ys ++ (wC cI cZ (xa 1) ca cg cF ++ (wC cI cZ (xa 2) da dg dF ++ (wR cI cZ (xa 3) ra rg rF rE ++ (wS cI cZ (xa 4) za zg zh zk zF ++ (wT cI cZ (ys 0) (ta 0) (tg 0) ++ (wB cI ((ta 0) 3) (tf 0) ++ (wT cI cZ (ys 1) (ta 1) (tg 1) ++ (wB cI ((ta 1) 3) (tf 1) ++ (wT cI cZ (ys 2) (ta 2) (tg 2) ++ (wB cI ((ta 2) 3) (onR (xs (i + 1)) 4 (tf 2) (fun _ => onR (xs (i + 3)) 4 (tf 2) (fun _ => if copF (fun z => tg z 0) (mF 26) (fun z => tg z 2) 2 2 (xs (i + 2)) (xs (i + 4)) (xs (i + 5)) = 0 then mv (tf 2) (tf 2) (xs (i + 4)).toNatClampNeg (xs (i + 2)).toNatClampNeg (xs (i + 5)).toNatClampNeg else (tf 2)))) ++ (wT cI cZ (ys 3) (ta 3) (tg 3) ++ (wB cI ((ta 3) 3) (tf 3) ++ (wM cI cZ mq ma mg mh mF mE)))))))))))))))) (wC cI cZ (xa 1) ca cg cF ++ (wC cI cZ (xa 2) da dg dF ++ (wR cI cZ (xa 3) ra rg rF rE ++ (wS cI cZ (xa 4) za zg zh zk zF ++ (wT cI cZ (ys 0) (ta 0) (tg 0) ++ (wB cI ((ta 0) 3) (tf 0) ++ (wT cI cZ (ys 1) (ta 1) (tg 1) ++ (wB cI ((ta 1) 3) (tf 1) ++ (wT cI cZ (ys 3) (ta 3) (tg 3) ++ (wB cI ((ta 3) 3) (tf 3) ++ (wM cI cZ mq ma mg mh mF mE))))))))))) (c_X5_copyS l D cI cZ cO xq xa xg xh ys (ta 2) (tg 2) (tf 2) _ (xs (i + 1)) (xs (i + 2)) (xs (i + 3)) (xs (i + 4)) (xs (i + 5)) 2 (fun z => tg z 0) (mF 26) (fun z => tg z 2) (show 2 < 4 from (by decide)) (show ((tg 2) 2) ≤ 60 from ht2 2) (show ((tg 2) 0) ≤ 1 from ht0 2) (show ((tg 2) 1) ≤ 2 from ht1 2) (show (fun z => tg z 0) 2 = ((tg 2) 0) from rfl) (show (mF 26) 2 = ((tg 2) 1) from htl 2) (show (fun z => tg z 2) 2 = ((tg 2) 2) from rfl) (show (xs (i + 1)) = nI 2 from hkj) (show (xs (i + 3)) = nI 2 from hoj)) (cwV 5 X.2.2.2.2.2.1 gL_law_X5_copy rfl rfl rfl (by decide +kernel) ⟨Nat.le_of_ble_eq_true rfl, Nat.le_of_ble_eq_true rfl⟩) 4 rfl rfl rfl (apn (mfr _ _) (apn (mfr _ _) (apn (mf (mf (mf (mf (mf (mf (mf (mf (mfr _ _))))))))) (mf (mf (mf (mf (mf (mf (mf (mf (mfr _ _)))))))))))) (fun u => (apn (mfr _ _) (apn (mfr _ _) (apn (mf (mf (mf (mf (mf (mf (mf (mf (mfr _ _))))))))) (mf (mf (mf (mf (mf (mf (mf (mf (mfr _ _))))))))))))) rfl hl.1 rfl (Nat.le_of_ble_eq_true rfl) ⟨Nat.le_of_ble_eq_true rfl, Nat.le_of_ble_eq_true rfl⟩ dL_law_880 (fun r1 u2 H locs w880 hW => ?_)
  have hW : Wd D A s.heap H locs (wX cI cZ xq xa (sF xg 6 (fCopy (fun z => tg z 0) (mF 26) (fun z => tg z 2) (xs (i + 1)) (xs (i + 2)) (xs (i + 3)) (xs (i + 4)) (xs (i + 5)))) xh ++ (wA cO (xa 0) ys ++ (wC cI cZ (xa 1) ca cg cF ++ (wC cI cZ (xa 2) da dg dF ++ (wR cI cZ (xa 3) ra rg rF rE ++ (wS cI cZ (xa 4) za zg zh zk zF ++ (wT cI cZ (ys 0) (ta 0) (tg 0) ++ (wB cI ((ta 0) 3) (tf 0) ++ (wT cI cZ (ys 1) (ta 1) (tg 1) ++ (wB cI ((ta 1) 3) (tf 1) ++ (wT cI cZ (ys 2) (ta 2) (tg 2) ++ (wB cI ((ta 2) 3) (onR (xs (i + 1)) 4 (tf 2) (fun _ => onR (xs (i + 3)) 4 (tf 2) (fun _ => if copF (fun z => tg z 0) (mF 26) (fun z => tg z 2) 2 2 (xs (i + 2)) (xs (i + 4)) (xs (i + 5)) = 0 then mv (tf 2) (tf 2) (xs (i + 4)).toNatClampNeg (xs (i + 2)).toNatClampNeg (xs (i + 5)).toNatClampNeg else (tf 2)))) ++ (wT cI cZ (ys 3) (ta 3) (tg 3) ++ (wB cI ((ta 3) 3) (tf 3) ++ (wM cI cZ mq ma mg mh mF mE))))))))))))))) := hW
  replace w880 : r1 = aCopy (fun z => tg z 0) (mF 26) (fun z => tg z 2) (xs (i + 1)) (xs (i + 2)) (xs (i + 3)) (xs (i + 4)) (xs (i + 5)) := w880
  subst w880
  refine x_aload_n X dL_law_883 rfl (lv_at hl 1 rfl) ?_
  refine x_aload_n X dL_law_884 rfl (lv_at hl 3 rfl) ?_
  refine x_iload_n X dL_law_885 rfl (lv_at hl 0 rfl) ?_
  refine x_iconst (v := nI 1) X dL_law_886 (by decide) ?_
  refine n_iadd X dL_law_887 ?_
  refine x_sld X hW hX hbl hbA (j := i + 1) (by omega) (by omega) dL_law_888 ?_
  refine x_aload_n X dL_law_889 rfl (lv_at hl 3 rfl) ?_
  refine x_iload_n X dL_law_890 rfl (lv_at hl 0 rfl) ?_
  refine x_iconst (v := nI 2) X dL_law_891 (by decide) ?_
  refine n_iadd X dL_law_892 ?_
  refine x_sld X hW hX hbl hbA (j := i + 2) (by omega) (by omega) dL_law_893 ?_
  refine x_aload_n X dL_law_894 rfl (lv_at hl 3 rfl) ?_
  refine x_iload_n X dL_law_895 rfl (lv_at hl 0 rfl) ?_
  refine x_iconst (v := nI 3) X dL_law_896 (by decide) ?_
  refine n_iadd X dL_law_897 ?_
  refine x_sld X hW hX hbl hbA (j := i + 3) (by omega) (by omega) dL_law_898 ?_
  refine x_aload_n X dL_law_899 rfl (lv_at hl 3 rfl) ?_
  refine x_iload_n X dL_law_900 rfl (lv_at hl 0 rfl) ?_
  refine x_iconst (v := nI 4) X dL_law_901 (by decide) ?_
  refine n_iadd X dL_law_902 ?_
  refine x_sld X hW hX hbl hbA (j := i + 4) (by omega) (by omega) dL_law_903 ?_
  refine x_aload_n X dL_law_904 rfl (lv_at hl 3 rfl) ?_
  refine x_iload_n X dL_law_905 rfl (lv_at hl 0 rfl) ?_
  refine x_iconst (v := nI 5) X dL_law_906 (by decide) ?_
  refine n_iadd X dL_law_907 ?_
  refine x_sld X hW hX hbl hbA (j := i + 5) (by omega) (by omega) dL_law_908 ?_
  refine x_pcallVi X hW (As := [.int (xs (i + 1)), .int (xs (i + 2)), .int (xs (i + 3)), .int (xs (i + 4)), .int (xs (i + 5))]) (rest := [.int (aCopy (fun z => tg z 0) (mF 26) (fun z => tg z 2) (xs (i + 1)) (xs (i + 2)) (xs (i + 3)) (xs (i + 4)) (xs (i + 5)))]) (wz := fun u => (wX cI cZ xq xa (sF xg 6 (fCopy (fun z => tg z 0) (mF 26) (fun z => tg z 2) (xs (i + 1)) (xs (i + 2)) (xs (i + 3)) (xs (i + 4)) (xs (i + 5)))) xh ++ (wA cO (xa 0) ys ++ (wC cI cZ (xa 1) ca cg cF ++ (wC cI cZ (xa 2) da dg dF ++ (wR cI cZ (xa 3) ra rg rF rE ++ (wS cI cZ (xa 4) za zg zh zk zF ++ (wT cI cZ (ys 0) (ta 0) (tg 0) ++ (wB cI ((ta 0) 3) (tf 0) ++ (wT cI cZ (ys 1) (ta 1) (tg 1) ++ (wB cI ((ta 1) 3) (tf 1) ++ (wT cI cZ (ys 2) (ta 2) (tg 2) ++ (wB cI ((ta 2) 3) (onR (xs (i + 1)) 4 (tf 2) (fun _ => onR (xs (i + 3)) 4 (tf 2) (fun _ => if copF (fun z => tg z 0) (mF 26) (fun z => tg z 2) 2 2 (xs (i + 2)) (xs (i + 4)) (xs (i + 5)) = 0 then mv (tf 2) (tf 2) (xs (i + 4)).toNatClampNeg (xs (i + 2)).toNatClampNeg (xs (i + 5)).toNatClampNeg else (tf 2)))) ++ (wT cI cZ (ys 3) (ta 3) (tg 3) ++ (wB cI ((ta 3) 3) (tf 3) ++ (wM cI cZ mq ma (sF mg 0 (fCopy (fun z => tg z 0) ((mF 26)) (fun z => tg z 2) (xs (i + 1)) (xs (i + 2)) (xs (i + 3)) (xs (i + 4)) (xs (i + 5)))) mh mF (sF (sF mE 27 (sCopy (fun z => tg z 0) ((mF 26)) (fun z => tg z 2) (xs (i + 1)) (xs (i + 2)) (xs (i + 3)) (xs (i + 4)) (xs (i + 5)) ((mE 27)))) 28 u))))))))))))))))) (wX cI cZ xq xa (sF xg 6 (fCopy (fun z => tg z 0) (mF 26) (fun z => tg z 2) (xs (i + 1)) (xs (i + 2)) (xs (i + 3)) (xs (i + 4)) (xs (i + 5)))) xh ++ (wA cO (xa 0) ys ++ (wC cI cZ (xa 1) ca cg cF ++ (wC cI cZ (xa 2) da dg dF ++ (wR cI cZ (xa 3) ra rg rF rE ++ (wS cI cZ (xa 4) za zg zh zk zF ++ (wT cI cZ (ys 0) (ta 0) (tg 0) ++ (wB cI ((ta 0) 3) (tf 0) ++ (wT cI cZ (ys 1) (ta 1) (tg 1) ++ (wB cI ((ta 1) 3) (tf 1) ++ (wT cI cZ (ys 2) (ta 2) (tg 2) ++ (wB cI ((ta 2) 3) (onR (xs (i + 1)) 4 (tf 2) (fun _ => onR (xs (i + 3)) 4 (tf 2) (fun _ => if copF (fun z => tg z 0) (mF 26) (fun z => tg z 2) 2 2 (xs (i + 2)) (xs (i + 4)) (xs (i + 5)) = 0 then mv (tf 2) (tf 2) (xs (i + 4)).toNatClampNeg (xs (i + 2)).toNatClampNeg (xs (i + 5)).toNatClampNeg else (tf 2)))) ++ (wT cI cZ (ys 3) (ta 3) (tg 3) ++ (wB cI ((ta 3) 3) (tf 3))))))))))))))) (c_X6_copy l D cI cZ cO mq ma mg mh mF mE _ (xs (i + 1)) (xs (i + 2)) (xs (i + 3)) (xs (i + 4)) (xs (i + 5)) (fun z => tg z 0) (fun z => tg z 2) (show ∀ z, z < 4 → ((fun z => tg z 0) z = 0 ∧ (mE 25) z = (-1 : Int32)) ∨ ((fun z => tg z 0) z = 1 ∧ (mE 25) z = nI ((fun z => tg z 2) z)) from hts) (show ∀ z0, (fun z => tg z 2) z0 ≤ 60 from ht2) (show ∀ z0, (mF 26) z0 ≤ 2 from (fun z => by rw [htl]; exact ht1 z))) (cwV 5 X.2.2.2.2.2.1 gL_law_X6_copy rfl rfl rfl (by decide +kernel) ⟨Nat.le_of_ble_eq_true rfl, Nat.le_of_ble_eq_true rfl⟩) 5 rfl rfl rfl (ap1 (mf (mf (mf (mf (mf (mf (mf (mf (mf (mf (mf (mf (mf mf0)))))))))))))) (fun u => (ap1 (mf (mf (mf (mf (mf (mf (mf (mf (mf (mf (mf (mf (mf mf0))))))))))))))) rfl hl.1 rfl (Nat.le_of_ble_eq_true rfl) ⟨Nat.le_of_ble_eq_true rfl, Nat.le_of_ble_eq_true rfl⟩ dL_law_909 (fun r4 u5 H locs w909 hW => ?_)
  obtain ⟨o1_3, o1_3e⟩ : ∃ z, z = u5 := ⟨_, rfl⟩
  subst o1_3e
  have hW : Wd D A s.heap H locs (wX cI cZ xq xa (sF xg 6 (fCopy (fun z => tg z 0) (mF 26) (fun z => tg z 2) (xs (i + 1)) (xs (i + 2)) (xs (i + 3)) (xs (i + 4)) (xs (i + 5)))) xh ++ (wA cO (xa 0) ys ++ (wC cI cZ (xa 1) ca cg cF ++ (wC cI cZ (xa 2) da dg dF ++ (wR cI cZ (xa 3) ra rg rF rE ++ (wS cI cZ (xa 4) za zg zh zk zF ++ (wT cI cZ (ys 0) (ta 0) (tg 0) ++ (wB cI ((ta 0) 3) (tf 0) ++ (wT cI cZ (ys 1) (ta 1) (tg 1) ++ (wB cI ((ta 1) 3) (tf 1) ++ (wT cI cZ (ys 2) (ta 2) (tg 2) ++ (wB cI ((ta 2) 3) (onR (xs (i + 1)) 4 (tf 2) (fun _ => onR (xs (i + 3)) 4 (tf 2) (fun _ => if copF (fun z => tg z 0) (mF 26) (fun z => tg z 2) 2 2 (xs (i + 2)) (xs (i + 4)) (xs (i + 5)) = 0 then mv (tf 2) (tf 2) (xs (i + 4)).toNatClampNeg (xs (i + 2)).toNatClampNeg (xs (i + 5)).toNatClampNeg else (tf 2)))) ++ (wT cI cZ (ys 3) (ta 3) (tg 3) ++ (wB cI ((ta 3) 3) (tf 3) ++ (wM cI cZ mq ma (sF mg 0 (fCopy (fun z => tg z 0) ((mF 26)) (fun z => tg z 2) (xs (i + 1)) (xs (i + 2)) (xs (i + 3)) (xs (i + 4)) (xs (i + 5)))) mh mF (sF (sF mE 27 (sCopy (fun z => tg z 0) ((mF 26)) (fun z => tg z 2) (xs (i + 1)) (xs (i + 2)) (xs (i + 3)) (xs (i + 4)) (xs (i + 5)) ((mE 27)))) 28 o1_3)))))))))))))))) := hW
  replace w909 : r4 = aCopy (fun z => tg z 0) ((mF 26)) (fun z => tg z 2) (xs (i + 1)) (xs (i + 2)) (xs (i + 3)) (xs (i + 4)) (xs (i + 5)) := w909
  subst w909
  refine x_icmp_eq X 1045 dL_law_912 (by decide) (fun c912 => ?_) (fun c912 => by exact absurd (by (try rw [e1]); (try rw [e2]); (try rw [e3]); (try rw [e4]); (try rw [e5]); (try rw [f1]); (try rw [f2]); (try rw [f3]); (try rw [f4]); (try rfl)) c912)
  exact next _ _ _ ⟨xa, (sF xg 6 (fCopy (fun z => tg z 0) (mF 26) (fun z => tg z 2) (xs (i + 1)) (xs (i + 2)) (xs (i + 3)) (xs (i + 4)) (xs (i + 5)))), xh, ys, ca, cg, cF, da, dg, dF, ra, rg, rF, rE, za, zg, zh, zk, zF, ma, (sF mg 0 (fCopy (fun z => tg z 0) ((mF 26)) (fun z => tg z 2) (xs (i + 1)) (xs (i + 2)) (xs (i + 3)) (xs (i + 4)) (xs (i + 5)))), mh, mF, (sF (sF mE 27 (sCopy (fun z => tg z 0) ((mF 26)) (fun z => tg z 2) (xs (i + 1)) (xs (i + 2)) (xs (i + 3)) (xs (i + 4)) (xs (i + 5)) ((mE 27)))) 28 o1_3), ta, tg, (sF tf 2 (onR (xs (i + 1)) 4 (tf 2) (fun _ => onR (xs (i + 3)) 4 (tf 2) (fun _ => if copF (fun z => tg z 0) (mF 26) (fun z => tg z 2) 2 2 (xs (i + 2)) (xs (i + 4)) (xs (i + 5)) = 0 then mv (tf 2) (tf 2) (xs (i + 4)).toNatClampNeg (xs (i + 2)).toNatClampNeg (xs (i + 5)).toNatClampNeg else (tf 2))))), hW, hRC, hRR, hRD, hSK, RT_copy hRT (show 2 < 4 by decide) (show 2 < 4 by decide) (Or.inr hkj) (Or.inr hoj), ⟨hRX.1, rfl⟩, hRM⟩ (lv_sub hl [0, 1, 2, 3] rfl)
set_option maxHeartbeats 4000000 in
set_option maxRecDepth 100000 in
theorem law_copy_2_3 {p : Program} {e : Env} {s : State} {m : MethodId} {below : List Frame} {meth : Method} {c : Code} {D : va_G} {cI cZ cO : ClassId} {A : Nat → Prop} {Q : State → Prop} {l : Launch} {b L xq mq i : Nat} {xs : Nat → Int32} {H : Heap} {locs : List Loc} {ls : Array Slot} (X : Fx p s m #[Value.ref b] meth c code 4 ret wsL_law RL D (ty3 cI cZ cO) A) (hX : va_X b L xs s s.heap) (hbl : b < s.heap.size) (hbA : ¬ A b) (hL : L ≤ 3072) (hi : i + 6 ≤ L) (hI : lw_I D cI cZ cO A s.heap xq mq H locs) (hl : lv_has ls 4 [(3, .int (nI i)), (2, .ref mq), (1, .ref xq), (0, .ref b)]) (hkj : ¬ inR (xs (i + 1)) 4 ∨ xs (i + 1) = nI 2) (hoj : ¬ inR (xs (i + 3)) 4 ∨ xs (i + 3) = nI 3) (next : ∀ (H : Heap) (locs : List Loc) (ls : Array Slot), lw_I D cI cZ cO A s.heap xq mq H locs → lv_has ls 4 [(3, .int (nI i)), (2, .ref mq), (1, .ref xq), (0, .ref b)] → W p l e room_1 s m #[Value.ref b] below meth c H locs 600000 7302250 Q (F0 m 1045 ls [])) : W p l e room_1 s m #[Value.ref b] below meth c H locs 600000 7302250 Q (F0 m 854 ls []) := by
  obtain ⟨xa, xg, xh, ys, ca, cg, cF, da, dg, dF, ra, rg, rF, rE, za, zg, zh, zk, zF, ma, mg, mh, mF, mE, ta, tg, tf, hW, hRC, hRR, hRD, hSK, hRT, hRX, hRM⟩ := hI
  have hW : Wd D A s.heap H locs (wX cI cZ xq xa xg xh ++ (wA cO (xa 0) ys ++ (wC cI cZ (xa 1) ca cg cF ++ (wC cI cZ (xa 2) da dg dF ++ (wR cI cZ (xa 3) ra rg rF rE ++ (wS cI cZ (xa 4) za zg zh zk zF ++ (wT cI cZ (ys 0) (ta 0) (tg 0) ++ (wB cI ((ta 0) 3) (tf 0) ++ (wT cI cZ (ys 1) (ta 1) (tg 1) ++ (wB cI ((ta 1) 3) (tf 1) ++ (wT cI cZ (ys 2) (ta 2) (tg 2) ++ (wB cI ((ta 2) 3) (tf 2) ++ (wT cI cZ (ys 3) (ta 3) (tg 3) ++ (wB cI ((ta 3) 3) (tf 3) ++ (wM cI cZ mq ma mg mh mF mE))))))))))))))) := hW
  obtain ⟨h02, hn, hrn, hk, hlv, hm, e2, e1, e3, e4, e5⟩ := id hRC
  obtain ⟨hrc, hro, hra, hrd, f1, f2, f3, f4⟩ := id hRR
  obtain ⟨hdn, hdr, hdk, hdl, hdm⟩ := id hRD
  obtain ⟨ht0, ht1, ht2, htl, hts, htc⟩ := id hRT
  refine x_aload_n X dL_law_854 rfl (lv_at hl 2 rfl) ?_
  refine x_aload_n X dL_law_855 rfl (lv_at hl 3 rfl) ?_
  refine x_iload_n X dL_law_856 rfl (lv_at hl 0 rfl) ?_
  refine x_iconst (v := nI 1) X dL_law_857 (by decide) ?_
  refine n_iadd X dL_law_858 ?_
  refine x_sld X hW hX hbl hbA (j := i + 1) (by omega) (by omega) dL_law_859 ?_
  refine x_aload_n X dL_law_860 rfl (lv_at hl 3 rfl) ?_
  refine x_iload_n X dL_law_861 rfl (lv_at hl 0 rfl) ?_
  refine x_iconst (v := nI 2) X dL_law_862 (by decide) ?_
  refine n_iadd X dL_law_863 ?_
  refine x_sld X hW hX hbl hbA (j := i + 2) (by omega) (by omega) dL_law_864 ?_
  refine x_aload_n X dL_law_865 rfl (lv_at hl 3 rfl) ?_
  refine x_iload_n X dL_law_866 rfl (lv_at hl 0 rfl) ?_
  refine x_iconst (v := nI 3) X dL_law_867 (by decide) ?_
  refine n_iadd X dL_law_868 ?_
  refine x_sld X hW hX hbl hbA (j := i + 3) (by omega) (by omega) dL_law_869 ?_
  refine x_aload_n X dL_law_870 rfl (lv_at hl 3 rfl) ?_
  refine x_iload_n X dL_law_871 rfl (lv_at hl 0 rfl) ?_
  refine x_iconst (v := nI 4) X dL_law_872 (by decide) ?_
  refine n_iadd X dL_law_873 ?_
  refine x_sld X hW hX hbl hbA (j := i + 4) (by omega) (by omega) dL_law_874 ?_
  refine x_aload_n X dL_law_875 rfl (lv_at hl 3 rfl) ?_
  refine x_iload_n X dL_law_876 rfl (lv_at hl 0 rfl) ?_
  refine x_iconst (v := nI 5) X dL_law_877 (by decide) ?_
  refine n_iadd X dL_law_878 ?_
  refine x_sld X hW hX hbl hbA (j := i + 5) (by omega) (by omega) dL_law_879 ?_
  refine x_pcallVi X hW (As := [.int (xs (i + 1)), .int (xs (i + 2)), .int (xs (i + 3)), .int (xs (i + 4)), .int (xs (i + 5))]) (rest := []) (wz := fun u => (wX cI cZ xq xa (sF xg 6 (fCopy (fun z => tg z 0) (mF 26) (fun z => tg z 2) (xs (i + 1)) (xs (i + 2)) (xs (i + 3)) (xs (i + 4)) (xs (i + 5)))) xh ++ (wA cO (xa 0) ys ++ (wC cI cZ (xa 1) ca cg cF ++ (wC cI cZ (xa 2) da dg dF ++ (wR cI cZ (xa 3) ra rg rF rE ++ (wS cI cZ (xa 4) za zg zh zk zF ++ (wT cI cZ (ys 0) (ta 0) (tg 0) ++ (wB cI ((ta 0) 3) (tf 0) ++ (wT cI cZ (ys 1) (ta 1) (tg 1) ++ (wB cI ((ta 1) 3) (tf 1) ++ (wT cI cZ (ys 2) (ta 2) (tg 2) ++ (wB cI ((ta 2) 3) (tf 2) ++ (wT cI cZ (ys 3) (ta 3) (tg 3) ++ (wB cI ((ta 3) 3) (onR (xs (i + 1)) 4 (tf 3) (fun _ => onR (xs (i + 3)) 4 (tf 3) (fun _ => if copF (fun z => tg z 0) (mF 26) (fun z => tg z 2) 2 3 (xs (i + 2)) (xs (i + 4)) (xs (i + 5)) = 0 then mv (tf 3) (tf 2) (xs (i + 4)).toNatClampNeg (xs (i + 2)).toNatClampNeg (xs (i + 5)).toNatClampNeg else (tf 3)))) ++ (wM cI cZ mq ma mg mh mF mE)))))))))))))))) (wC cI cZ (xa 1) ca cg cF ++ (wC cI cZ (xa 2) da dg dF ++ (wR cI cZ (xa 3) ra rg rF rE ++ (wS cI cZ (xa 4) za zg zh zk zF ++ (wT cI cZ (ys 0) (ta 0) (tg 0) ++ (wB cI ((ta 0) 3) (tf 0) ++ (wT cI cZ (ys 1) (ta 1) (tg 1) ++ (wB cI ((ta 1) 3) (tf 1) ++ (wM cI cZ mq ma mg mh mF mE))))))))) (c_X5_copyP l D cI cZ cO xq xa xg xh ys (ta 2) (tg 2) (tf 2) (ta 3) (tg 3) (tf 3) _ (xs (i + 1)) (xs (i + 2)) (xs (i + 3)) (xs (i + 4)) (xs (i + 5)) 2 3 (fun z => tg z 0) (mF 26) (fun z => tg z 2) (show 2 < 4 from (by decide)) (show ((tg 2) 2) ≤ 60 from ht2 2) (show ((tg 2) 0) ≤ 1 from ht0 2) (show ((tg 2) 1) ≤ 2 from ht1 2) (show (fun z => tg z 0) 2 = ((tg 2) 0) from rfl) (show (mF 26) 2 = ((tg 2) 1) from htl 2) (show (fun z => tg z 2) 2 = ((tg 2) 2) from rfl) (show 3 < 4 from (by decide)) (show ((tg 3) 2) ≤ 60 from ht2 3) (show ((tg 3) 0) ≤ 1 from ht0 3) (show ((tg 3) 1) ≤ 2 from ht1 3) (show (fun z => tg z 0) 3 = ((tg 3) 0) from rfl) (show (mF 26) 3 = ((tg 3) 1) from htl 3) (show (fun z => tg z 2) 3 = ((tg 3) 2) from rfl) (show ¬ inR (xs (i + 1)) 4 ∨ (xs (i + 1)) = nI 2 from hkj) (show ¬ inR (xs (i + 3)) 4 ∨ (xs (i + 3)) = nI 3 from hoj)) (cwV 5 X.2.2.2.2.2.1 gL_law_X5_copy rfl rfl rfl (by decide +kernel) ⟨Nat.le_of_ble_eq_true rfl, Nat.le_of_ble_eq_true rfl⟩) 4 rfl rfl rfl (apn (mfr _ _) (apn (mfr _ _) (apn (mf (mf (mf (mf (mf (mf (mf (mf (mfr _ _))))))))) (apn (mf (mf (mf (mf (mf (mf (mf (mf (mfr _ _))))))))) (apn (mf (mf (mf (mf (mf (mf (mf (mf (mfr _ _))))))))) (mf (mf (mf (mf (mf (mf (mf (mf (mfr _ _)))))))))))))) (fun u => (apn (mfr _ _) (apn (mfr _ _) (apn (mf (mf (mf (mf (mf (mf (mf (mf (mfr _ _))))))))) (apn (mf (mf (mf (mf (mf (mf (mf (mf (mfr _ _))))))))) (apn (mf (mf (mf (mf (mf (mf (mf (mf (mfr _ _))))))))) (mf (mf (mf (mf (mf (mf (mf (mf (mfr _ _))))))))))))))) rfl hl.1 rfl (Nat.le_of_ble_eq_true rfl) ⟨Nat.le_of_ble_eq_true rfl, Nat.le_of_ble_eq_true rfl⟩ dL_law_880 (fun r1 u2 H locs w880 hW => ?_)
  have hW : Wd D A s.heap H locs (wX cI cZ xq xa (sF xg 6 (fCopy (fun z => tg z 0) (mF 26) (fun z => tg z 2) (xs (i + 1)) (xs (i + 2)) (xs (i + 3)) (xs (i + 4)) (xs (i + 5)))) xh ++ (wA cO (xa 0) ys ++ (wC cI cZ (xa 1) ca cg cF ++ (wC cI cZ (xa 2) da dg dF ++ (wR cI cZ (xa 3) ra rg rF rE ++ (wS cI cZ (xa 4) za zg zh zk zF ++ (wT cI cZ (ys 0) (ta 0) (tg 0) ++ (wB cI ((ta 0) 3) (tf 0) ++ (wT cI cZ (ys 1) (ta 1) (tg 1) ++ (wB cI ((ta 1) 3) (tf 1) ++ (wT cI cZ (ys 2) (ta 2) (tg 2) ++ (wB cI ((ta 2) 3) (tf 2) ++ (wT cI cZ (ys 3) (ta 3) (tg 3) ++ (wB cI ((ta 3) 3) (onR (xs (i + 1)) 4 (tf 3) (fun _ => onR (xs (i + 3)) 4 (tf 3) (fun _ => if copF (fun z => tg z 0) (mF 26) (fun z => tg z 2) 2 3 (xs (i + 2)) (xs (i + 4)) (xs (i + 5)) = 0 then mv (tf 3) (tf 2) (xs (i + 4)).toNatClampNeg (xs (i + 2)).toNatClampNeg (xs (i + 5)).toNatClampNeg else (tf 3)))) ++ (wM cI cZ mq ma mg mh mF mE))))))))))))))) := hW
  replace w880 : r1 = aCopy (fun z => tg z 0) (mF 26) (fun z => tg z 2) (xs (i + 1)) (xs (i + 2)) (xs (i + 3)) (xs (i + 4)) (xs (i + 5)) := w880
  subst w880
  refine x_aload_n X dL_law_883 rfl (lv_at hl 1 rfl) ?_
  refine x_aload_n X dL_law_884 rfl (lv_at hl 3 rfl) ?_
  refine x_iload_n X dL_law_885 rfl (lv_at hl 0 rfl) ?_
  refine x_iconst (v := nI 1) X dL_law_886 (by decide) ?_
  refine n_iadd X dL_law_887 ?_
  refine x_sld X hW hX hbl hbA (j := i + 1) (by omega) (by omega) dL_law_888 ?_
  refine x_aload_n X dL_law_889 rfl (lv_at hl 3 rfl) ?_
  refine x_iload_n X dL_law_890 rfl (lv_at hl 0 rfl) ?_
  refine x_iconst (v := nI 2) X dL_law_891 (by decide) ?_
  refine n_iadd X dL_law_892 ?_
  refine x_sld X hW hX hbl hbA (j := i + 2) (by omega) (by omega) dL_law_893 ?_
  refine x_aload_n X dL_law_894 rfl (lv_at hl 3 rfl) ?_
  refine x_iload_n X dL_law_895 rfl (lv_at hl 0 rfl) ?_
  refine x_iconst (v := nI 3) X dL_law_896 (by decide) ?_
  refine n_iadd X dL_law_897 ?_
  refine x_sld X hW hX hbl hbA (j := i + 3) (by omega) (by omega) dL_law_898 ?_
  refine x_aload_n X dL_law_899 rfl (lv_at hl 3 rfl) ?_
  refine x_iload_n X dL_law_900 rfl (lv_at hl 0 rfl) ?_
  refine x_iconst (v := nI 4) X dL_law_901 (by decide) ?_
  refine n_iadd X dL_law_902 ?_
  refine x_sld X hW hX hbl hbA (j := i + 4) (by omega) (by omega) dL_law_903 ?_
  refine x_aload_n X dL_law_904 rfl (lv_at hl 3 rfl) ?_
  refine x_iload_n X dL_law_905 rfl (lv_at hl 0 rfl) ?_
  refine x_iconst (v := nI 5) X dL_law_906 (by decide) ?_
  refine n_iadd X dL_law_907 ?_
  refine x_sld X hW hX hbl hbA (j := i + 5) (by omega) (by omega) dL_law_908 ?_
  refine x_pcallVi X hW (As := [.int (xs (i + 1)), .int (xs (i + 2)), .int (xs (i + 3)), .int (xs (i + 4)), .int (xs (i + 5))]) (rest := [.int (aCopy (fun z => tg z 0) (mF 26) (fun z => tg z 2) (xs (i + 1)) (xs (i + 2)) (xs (i + 3)) (xs (i + 4)) (xs (i + 5)))]) (wz := fun u => (wX cI cZ xq xa (sF xg 6 (fCopy (fun z => tg z 0) (mF 26) (fun z => tg z 2) (xs (i + 1)) (xs (i + 2)) (xs (i + 3)) (xs (i + 4)) (xs (i + 5)))) xh ++ (wA cO (xa 0) ys ++ (wC cI cZ (xa 1) ca cg cF ++ (wC cI cZ (xa 2) da dg dF ++ (wR cI cZ (xa 3) ra rg rF rE ++ (wS cI cZ (xa 4) za zg zh zk zF ++ (wT cI cZ (ys 0) (ta 0) (tg 0) ++ (wB cI ((ta 0) 3) (tf 0) ++ (wT cI cZ (ys 1) (ta 1) (tg 1) ++ (wB cI ((ta 1) 3) (tf 1) ++ (wT cI cZ (ys 2) (ta 2) (tg 2) ++ (wB cI ((ta 2) 3) (tf 2) ++ (wT cI cZ (ys 3) (ta 3) (tg 3) ++ (wB cI ((ta 3) 3) (onR (xs (i + 1)) 4 (tf 3) (fun _ => onR (xs (i + 3)) 4 (tf 3) (fun _ => if copF (fun z => tg z 0) (mF 26) (fun z => tg z 2) 2 3 (xs (i + 2)) (xs (i + 4)) (xs (i + 5)) = 0 then mv (tf 3) (tf 2) (xs (i + 4)).toNatClampNeg (xs (i + 2)).toNatClampNeg (xs (i + 5)).toNatClampNeg else (tf 3)))) ++ (wM cI cZ mq ma (sF mg 0 (fCopy (fun z => tg z 0) ((mF 26)) (fun z => tg z 2) (xs (i + 1)) (xs (i + 2)) (xs (i + 3)) (xs (i + 4)) (xs (i + 5)))) mh mF (sF (sF mE 27 (sCopy (fun z => tg z 0) ((mF 26)) (fun z => tg z 2) (xs (i + 1)) (xs (i + 2)) (xs (i + 3)) (xs (i + 4)) (xs (i + 5)) ((mE 27)))) 28 u))))))))))))))))) (wX cI cZ xq xa (sF xg 6 (fCopy (fun z => tg z 0) (mF 26) (fun z => tg z 2) (xs (i + 1)) (xs (i + 2)) (xs (i + 3)) (xs (i + 4)) (xs (i + 5)))) xh ++ (wA cO (xa 0) ys ++ (wC cI cZ (xa 1) ca cg cF ++ (wC cI cZ (xa 2) da dg dF ++ (wR cI cZ (xa 3) ra rg rF rE ++ (wS cI cZ (xa 4) za zg zh zk zF ++ (wT cI cZ (ys 0) (ta 0) (tg 0) ++ (wB cI ((ta 0) 3) (tf 0) ++ (wT cI cZ (ys 1) (ta 1) (tg 1) ++ (wB cI ((ta 1) 3) (tf 1) ++ (wT cI cZ (ys 2) (ta 2) (tg 2) ++ (wB cI ((ta 2) 3) (tf 2) ++ (wT cI cZ (ys 3) (ta 3) (tg 3) ++ (wB cI ((ta 3) 3) (onR (xs (i + 1)) 4 (tf 3) (fun _ => onR (xs (i + 3)) 4 (tf 3) (fun _ => if copF (fun z => tg z 0) (mF 26) (fun z => tg z 2) 2 3 (xs (i + 2)) (xs (i + 4)) (xs (i + 5)) = 0 then mv (tf 3) (tf 2) (xs (i + 4)).toNatClampNeg (xs (i + 2)).toNatClampNeg (xs (i + 5)).toNatClampNeg else (tf 3)))))))))))))))))) (c_X6_copy l D cI cZ cO mq ma mg mh mF mE _ (xs (i + 1)) (xs (i + 2)) (xs (i + 3)) (xs (i + 4)) (xs (i + 5)) (fun z => tg z 0) (fun z => tg z 2) (show ∀ z, z < 4 → ((fun z => tg z 0) z = 0 ∧ (mE 25) z = (-1 : Int32)) ∨ ((fun z => tg z 0) z = 1 ∧ (mE 25) z = nI ((fun z => tg z 2) z)) from hts) (show ∀ z0, (fun z => tg z 2) z0 ≤ 60 from ht2) (show ∀ z0, (mF 26) z0 ≤ 2 from (fun z => by rw [htl]; exact ht1 z))) (cwV 5 X.2.2.2.2.2.1 gL_law_X6_copy rfl rfl rfl (by decide +kernel) ⟨Nat.le_of_ble_eq_true rfl, Nat.le_of_ble_eq_true rfl⟩) 5 rfl rfl rfl (ap1 (mf (mf (mf (mf (mf (mf (mf (mf (mf (mf (mf (mf (mf mf0)))))))))))))) (fun u => (ap1 (mf (mf (mf (mf (mf (mf (mf (mf (mf (mf (mf (mf (mf mf0))))))))))))))) rfl hl.1 rfl (Nat.le_of_ble_eq_true rfl) ⟨Nat.le_of_ble_eq_true rfl, Nat.le_of_ble_eq_true rfl⟩ dL_law_909 (fun r4 u5 H locs w909 hW => ?_)
  obtain ⟨o1_3, o1_3e⟩ : ∃ z, z = u5 := ⟨_, rfl⟩
  subst o1_3e
  have hW : Wd D A s.heap H locs (wX cI cZ xq xa (sF xg 6 (fCopy (fun z => tg z 0) (mF 26) (fun z => tg z 2) (xs (i + 1)) (xs (i + 2)) (xs (i + 3)) (xs (i + 4)) (xs (i + 5)))) xh ++ (wA cO (xa 0) ys ++ (wC cI cZ (xa 1) ca cg cF ++ (wC cI cZ (xa 2) da dg dF ++ (wR cI cZ (xa 3) ra rg rF rE ++ (wS cI cZ (xa 4) za zg zh zk zF ++ (wT cI cZ (ys 0) (ta 0) (tg 0) ++ (wB cI ((ta 0) 3) (tf 0) ++ (wT cI cZ (ys 1) (ta 1) (tg 1) ++ (wB cI ((ta 1) 3) (tf 1) ++ (wT cI cZ (ys 2) (ta 2) (tg 2) ++ (wB cI ((ta 2) 3) (tf 2) ++ (wT cI cZ (ys 3) (ta 3) (tg 3) ++ (wB cI ((ta 3) 3) (onR (xs (i + 1)) 4 (tf 3) (fun _ => onR (xs (i + 3)) 4 (tf 3) (fun _ => if copF (fun z => tg z 0) (mF 26) (fun z => tg z 2) 2 3 (xs (i + 2)) (xs (i + 4)) (xs (i + 5)) = 0 then mv (tf 3) (tf 2) (xs (i + 4)).toNatClampNeg (xs (i + 2)).toNatClampNeg (xs (i + 5)).toNatClampNeg else (tf 3)))) ++ (wM cI cZ mq ma (sF mg 0 (fCopy (fun z => tg z 0) ((mF 26)) (fun z => tg z 2) (xs (i + 1)) (xs (i + 2)) (xs (i + 3)) (xs (i + 4)) (xs (i + 5)))) mh mF (sF (sF mE 27 (sCopy (fun z => tg z 0) ((mF 26)) (fun z => tg z 2) (xs (i + 1)) (xs (i + 2)) (xs (i + 3)) (xs (i + 4)) (xs (i + 5)) ((mE 27)))) 28 o1_3)))))))))))))))) := hW
  replace w909 : r4 = aCopy (fun z => tg z 0) ((mF 26)) (fun z => tg z 2) (xs (i + 1)) (xs (i + 2)) (xs (i + 3)) (xs (i + 4)) (xs (i + 5)) := w909
  subst w909
  refine x_icmp_eq X 1045 dL_law_912 (by decide) (fun c912 => ?_) (fun c912 => by exact absurd (by (try rw [e1]); (try rw [e2]); (try rw [e3]); (try rw [e4]); (try rw [e5]); (try rw [f1]); (try rw [f2]); (try rw [f3]); (try rw [f4]); (try rfl)) c912)
  exact next _ _ _ ⟨xa, (sF xg 6 (fCopy (fun z => tg z 0) (mF 26) (fun z => tg z 2) (xs (i + 1)) (xs (i + 2)) (xs (i + 3)) (xs (i + 4)) (xs (i + 5)))), xh, ys, ca, cg, cF, da, dg, dF, ra, rg, rF, rE, za, zg, zh, zk, zF, ma, (sF mg 0 (fCopy (fun z => tg z 0) ((mF 26)) (fun z => tg z 2) (xs (i + 1)) (xs (i + 2)) (xs (i + 3)) (xs (i + 4)) (xs (i + 5)))), mh, mF, (sF (sF mE 27 (sCopy (fun z => tg z 0) ((mF 26)) (fun z => tg z 2) (xs (i + 1)) (xs (i + 2)) (xs (i + 3)) (xs (i + 4)) (xs (i + 5)) ((mE 27)))) 28 o1_3), ta, tg, (sF tf 3 (onR (xs (i + 1)) 4 (tf 3) (fun _ => onR (xs (i + 3)) 4 (tf 3) (fun _ => if copF (fun z => tg z 0) (mF 26) (fun z => tg z 2) 2 3 (xs (i + 2)) (xs (i + 4)) (xs (i + 5)) = 0 then mv (tf 3) (tf 2) (xs (i + 4)).toNatClampNeg (xs (i + 2)).toNatClampNeg (xs (i + 5)).toNatClampNeg else (tf 3))))), hW, hRC, hRR, hRD, hSK, RT_copy hRT (show 2 < 4 by decide) (show 3 < 4 by decide) hkj hoj, ⟨hRX.1, rfl⟩, hRM⟩ (lv_sub hl [0, 1, 2, 3] rfl)
set_option maxHeartbeats 4000000 in
set_option maxRecDepth 100000 in
theorem law_copy_3_0 {p : Program} {e : Env} {s : State} {m : MethodId} {below : List Frame} {meth : Method} {c : Code} {D : va_G} {cI cZ cO : ClassId} {A : Nat → Prop} {Q : State → Prop} {l : Launch} {b L xq mq i : Nat} {xs : Nat → Int32} {H : Heap} {locs : List Loc} {ls : Array Slot} (X : Fx p s m #[Value.ref b] meth c code 4 ret wsL_law RL D (ty3 cI cZ cO) A) (hX : va_X b L xs s s.heap) (hbl : b < s.heap.size) (hbA : ¬ A b) (hL : L ≤ 3072) (hi : i + 6 ≤ L) (hI : lw_I D cI cZ cO A s.heap xq mq H locs) (hl : lv_has ls 4 [(3, .int (nI i)), (2, .ref mq), (1, .ref xq), (0, .ref b)]) (hkj : ¬ inR (xs (i + 1)) 4 ∨ xs (i + 1) = nI 3) (hoj : ¬ inR (xs (i + 3)) 4 ∨ xs (i + 3) = nI 0) (next : ∀ (H : Heap) (locs : List Loc) (ls : Array Slot), lw_I D cI cZ cO A s.heap xq mq H locs → lv_has ls 4 [(3, .int (nI i)), (2, .ref mq), (1, .ref xq), (0, .ref b)] → W p l e room_1 s m #[Value.ref b] below meth c H locs 600000 7302250 Q (F0 m 1045 ls [])) : W p l e room_1 s m #[Value.ref b] below meth c H locs 600000 7302250 Q (F0 m 854 ls []) := by
  obtain ⟨xa, xg, xh, ys, ca, cg, cF, da, dg, dF, ra, rg, rF, rE, za, zg, zh, zk, zF, ma, mg, mh, mF, mE, ta, tg, tf, hW, hRC, hRR, hRD, hSK, hRT, hRX, hRM⟩ := hI
  have hW : Wd D A s.heap H locs (wX cI cZ xq xa xg xh ++ (wA cO (xa 0) ys ++ (wC cI cZ (xa 1) ca cg cF ++ (wC cI cZ (xa 2) da dg dF ++ (wR cI cZ (xa 3) ra rg rF rE ++ (wS cI cZ (xa 4) za zg zh zk zF ++ (wT cI cZ (ys 0) (ta 0) (tg 0) ++ (wB cI ((ta 0) 3) (tf 0) ++ (wT cI cZ (ys 1) (ta 1) (tg 1) ++ (wB cI ((ta 1) 3) (tf 1) ++ (wT cI cZ (ys 2) (ta 2) (tg 2) ++ (wB cI ((ta 2) 3) (tf 2) ++ (wT cI cZ (ys 3) (ta 3) (tg 3) ++ (wB cI ((ta 3) 3) (tf 3) ++ (wM cI cZ mq ma mg mh mF mE))))))))))))))) := hW
  obtain ⟨h02, hn, hrn, hk, hlv, hm, e2, e1, e3, e4, e5⟩ := id hRC
  obtain ⟨hrc, hro, hra, hrd, f1, f2, f3, f4⟩ := id hRR
  obtain ⟨hdn, hdr, hdk, hdl, hdm⟩ := id hRD
  obtain ⟨ht0, ht1, ht2, htl, hts, htc⟩ := id hRT
  refine x_aload_n X dL_law_854 rfl (lv_at hl 2 rfl) ?_
  refine x_aload_n X dL_law_855 rfl (lv_at hl 3 rfl) ?_
  refine x_iload_n X dL_law_856 rfl (lv_at hl 0 rfl) ?_
  refine x_iconst (v := nI 1) X dL_law_857 (by decide) ?_
  refine n_iadd X dL_law_858 ?_
  refine x_sld X hW hX hbl hbA (j := i + 1) (by omega) (by omega) dL_law_859 ?_
  refine x_aload_n X dL_law_860 rfl (lv_at hl 3 rfl) ?_
  refine x_iload_n X dL_law_861 rfl (lv_at hl 0 rfl) ?_
  refine x_iconst (v := nI 2) X dL_law_862 (by decide) ?_
  refine n_iadd X dL_law_863 ?_
  refine x_sld X hW hX hbl hbA (j := i + 2) (by omega) (by omega) dL_law_864 ?_
  refine x_aload_n X dL_law_865 rfl (lv_at hl 3 rfl) ?_
  refine x_iload_n X dL_law_866 rfl (lv_at hl 0 rfl) ?_
  refine x_iconst (v := nI 3) X dL_law_867 (by decide) ?_
  refine n_iadd X dL_law_868 ?_
  refine x_sld X hW hX hbl hbA (j := i + 3) (by omega) (by omega) dL_law_869 ?_
  refine x_aload_n X dL_law_870 rfl (lv_at hl 3 rfl) ?_
  refine x_iload_n X dL_law_871 rfl (lv_at hl 0 rfl) ?_
  refine x_iconst (v := nI 4) X dL_law_872 (by decide) ?_
  refine n_iadd X dL_law_873 ?_
  refine x_sld X hW hX hbl hbA (j := i + 4) (by omega) (by omega) dL_law_874 ?_
  refine x_aload_n X dL_law_875 rfl (lv_at hl 3 rfl) ?_
  refine x_iload_n X dL_law_876 rfl (lv_at hl 0 rfl) ?_
  refine x_iconst (v := nI 5) X dL_law_877 (by decide) ?_
  refine n_iadd X dL_law_878 ?_
  refine x_sld X hW hX hbl hbA (j := i + 5) (by omega) (by omega) dL_law_879 ?_
  refine x_pcallVi X hW (As := [.int (xs (i + 1)), .int (xs (i + 2)), .int (xs (i + 3)), .int (xs (i + 4)), .int (xs (i + 5))]) (rest := []) (wz := fun u => (wX cI cZ xq xa (sF xg 6 (fCopy (fun z => tg z 0) (mF 26) (fun z => tg z 2) (xs (i + 1)) (xs (i + 2)) (xs (i + 3)) (xs (i + 4)) (xs (i + 5)))) xh ++ (wA cO (xa 0) ys ++ (wC cI cZ (xa 1) ca cg cF ++ (wC cI cZ (xa 2) da dg dF ++ (wR cI cZ (xa 3) ra rg rF rE ++ (wS cI cZ (xa 4) za zg zh zk zF ++ (wT cI cZ (ys 0) (ta 0) (tg 0) ++ (wB cI ((ta 0) 3) (onR (xs (i + 1)) 4 (tf 0) (fun _ => onR (xs (i + 3)) 4 (tf 0) (fun _ => if copF (fun z => tg z 0) (mF 26) (fun z => tg z 2) 3 0 (xs (i + 2)) (xs (i + 4)) (xs (i + 5)) = 0 then mv (tf 0) (tf 3) (xs (i + 4)).toNatClampNeg (xs (i + 2)).toNatClampNeg (xs (i + 5)).toNatClampNeg else (tf 0)))) ++ (wT cI cZ (ys 1) (ta 1) (tg 1) ++ (wB cI ((ta 1) 3) (tf 1) ++ (wT cI cZ (ys 2) (ta 2) (tg 2) ++ (wB cI ((ta 2) 3) (tf 2) ++ (wT cI cZ (ys 3) (ta 3) (tg 3) ++ (wB cI ((ta 3) 3) (tf 3) ++ (wM cI cZ mq ma mg mh mF mE)))))))))))))))) (wC cI cZ (xa 1) ca cg cF ++ (wC cI cZ (xa 2) da dg dF ++ (wR cI cZ (xa 3) ra rg rF rE ++ (wS cI cZ (xa 4) za zg zh zk zF ++ (wT cI cZ (ys 1) (ta 1) (tg 1) ++ (wB cI ((ta 1) 3) (tf 1) ++ (wT cI cZ (ys 2) (ta 2) (tg 2) ++ (wB cI ((ta 2) 3) (tf 2) ++ (wM cI cZ mq ma mg mh mF mE))))))))) (c_X5_copyP l D cI cZ cO xq xa xg xh ys (ta 3) (tg 3) (tf 3) (ta 0) (tg 0) (tf 0) _ (xs (i + 1)) (xs (i + 2)) (xs (i + 3)) (xs (i + 4)) (xs (i + 5)) 3 0 (fun z => tg z 0) (mF 26) (fun z => tg z 2) (show 3 < 4 from (by decide)) (show ((tg 3) 2) ≤ 60 from ht2 3) (show ((tg 3) 0) ≤ 1 from ht0 3) (show ((tg 3) 1) ≤ 2 from ht1 3) (show (fun z => tg z 0) 3 = ((tg 3) 0) from rfl) (show (mF 26) 3 = ((tg 3) 1) from htl 3) (show (fun z => tg z 2) 3 = ((tg 3) 2) from rfl) (show 0 < 4 from (by decide)) (show ((tg 0) 2) ≤ 60 from ht2 0) (show ((tg 0) 0) ≤ 1 from ht0 0) (show ((tg 0) 1) ≤ 2 from ht1 0) (show (fun z => tg z 0) 0 = ((tg 0) 0) from rfl) (show (mF 26) 0 = ((tg 0) 1) from htl 0) (show (fun z => tg z 2) 0 = ((tg 0) 2) from rfl) (show ¬ inR (xs (i + 1)) 4 ∨ (xs (i + 1)) = nI 3 from hkj) (show ¬ inR (xs (i + 3)) 4 ∨ (xs (i + 3)) = nI 0 from hoj)) (cwV 5 X.2.2.2.2.2.1 gL_law_X5_copy rfl rfl rfl (by decide +kernel) ⟨Nat.le_of_ble_eq_true rfl, Nat.le_of_ble_eq_true rfl⟩) 4 rfl rfl rfl (apn (mfr _ _) (apn (mfr _ _) (apn (mf (mf (mf (mf (mf (mf (mf (mf (mf (mf (mfr _ _))))))))))) (apn (mf (mf (mf (mf (mf (mf (mf (mf (mf (mf (mfr _ _))))))))))) (apn (mf (mf (mf (mf (mfr _ _))))) (mf (mf (mf (mf (mfr _ _)))))))))) (fun u => (apn (mfr _ _) (apn (mfr _ _) (apn (mf (mf (mf (mf (mf (mf (mf (mf (mf (mf (mfr _ _))))))))))) (apn (mf (mf (mf (mf (mf (mf (mf (mf (mf (mf (mfr _ _))))))))))) (apn (mf (mf (mf (mf (mfr _ _))))) (mf (mf (mf (mf (mfr _ _))))))))))) rfl hl.1 rfl (Nat.le_of_ble_eq_true rfl) ⟨Nat.le_of_ble_eq_true rfl, Nat.le_of_ble_eq_true rfl⟩ dL_law_880 (fun r1 u2 H locs w880 hW => ?_)
  have hW : Wd D A s.heap H locs (wX cI cZ xq xa (sF xg 6 (fCopy (fun z => tg z 0) (mF 26) (fun z => tg z 2) (xs (i + 1)) (xs (i + 2)) (xs (i + 3)) (xs (i + 4)) (xs (i + 5)))) xh ++ (wA cO (xa 0) ys ++ (wC cI cZ (xa 1) ca cg cF ++ (wC cI cZ (xa 2) da dg dF ++ (wR cI cZ (xa 3) ra rg rF rE ++ (wS cI cZ (xa 4) za zg zh zk zF ++ (wT cI cZ (ys 0) (ta 0) (tg 0) ++ (wB cI ((ta 0) 3) (onR (xs (i + 1)) 4 (tf 0) (fun _ => onR (xs (i + 3)) 4 (tf 0) (fun _ => if copF (fun z => tg z 0) (mF 26) (fun z => tg z 2) 3 0 (xs (i + 2)) (xs (i + 4)) (xs (i + 5)) = 0 then mv (tf 0) (tf 3) (xs (i + 4)).toNatClampNeg (xs (i + 2)).toNatClampNeg (xs (i + 5)).toNatClampNeg else (tf 0)))) ++ (wT cI cZ (ys 1) (ta 1) (tg 1) ++ (wB cI ((ta 1) 3) (tf 1) ++ (wT cI cZ (ys 2) (ta 2) (tg 2) ++ (wB cI ((ta 2) 3) (tf 2) ++ (wT cI cZ (ys 3) (ta 3) (tg 3) ++ (wB cI ((ta 3) 3) (tf 3) ++ (wM cI cZ mq ma mg mh mF mE))))))))))))))) := hW
  replace w880 : r1 = aCopy (fun z => tg z 0) (mF 26) (fun z => tg z 2) (xs (i + 1)) (xs (i + 2)) (xs (i + 3)) (xs (i + 4)) (xs (i + 5)) := w880
  subst w880
  refine x_aload_n X dL_law_883 rfl (lv_at hl 1 rfl) ?_
  refine x_aload_n X dL_law_884 rfl (lv_at hl 3 rfl) ?_
  refine x_iload_n X dL_law_885 rfl (lv_at hl 0 rfl) ?_
  refine x_iconst (v := nI 1) X dL_law_886 (by decide) ?_
  refine n_iadd X dL_law_887 ?_
  refine x_sld X hW hX hbl hbA (j := i + 1) (by omega) (by omega) dL_law_888 ?_
  refine x_aload_n X dL_law_889 rfl (lv_at hl 3 rfl) ?_
  refine x_iload_n X dL_law_890 rfl (lv_at hl 0 rfl) ?_
  refine x_iconst (v := nI 2) X dL_law_891 (by decide) ?_
  refine n_iadd X dL_law_892 ?_
  refine x_sld X hW hX hbl hbA (j := i + 2) (by omega) (by omega) dL_law_893 ?_
  refine x_aload_n X dL_law_894 rfl (lv_at hl 3 rfl) ?_
  refine x_iload_n X dL_law_895 rfl (lv_at hl 0 rfl) ?_
  refine x_iconst (v := nI 3) X dL_law_896 (by decide) ?_
  refine n_iadd X dL_law_897 ?_
  refine x_sld X hW hX hbl hbA (j := i + 3) (by omega) (by omega) dL_law_898 ?_
  refine x_aload_n X dL_law_899 rfl (lv_at hl 3 rfl) ?_
  refine x_iload_n X dL_law_900 rfl (lv_at hl 0 rfl) ?_
  refine x_iconst (v := nI 4) X dL_law_901 (by decide) ?_
  refine n_iadd X dL_law_902 ?_
  refine x_sld X hW hX hbl hbA (j := i + 4) (by omega) (by omega) dL_law_903 ?_
  refine x_aload_n X dL_law_904 rfl (lv_at hl 3 rfl) ?_
  refine x_iload_n X dL_law_905 rfl (lv_at hl 0 rfl) ?_
  refine x_iconst (v := nI 5) X dL_law_906 (by decide) ?_
  refine n_iadd X dL_law_907 ?_
  refine x_sld X hW hX hbl hbA (j := i + 5) (by omega) (by omega) dL_law_908 ?_
  refine x_pcallVi X hW (As := [.int (xs (i + 1)), .int (xs (i + 2)), .int (xs (i + 3)), .int (xs (i + 4)), .int (xs (i + 5))]) (rest := [.int (aCopy (fun z => tg z 0) (mF 26) (fun z => tg z 2) (xs (i + 1)) (xs (i + 2)) (xs (i + 3)) (xs (i + 4)) (xs (i + 5)))]) (wz := fun u => (wX cI cZ xq xa (sF xg 6 (fCopy (fun z => tg z 0) (mF 26) (fun z => tg z 2) (xs (i + 1)) (xs (i + 2)) (xs (i + 3)) (xs (i + 4)) (xs (i + 5)))) xh ++ (wA cO (xa 0) ys ++ (wC cI cZ (xa 1) ca cg cF ++ (wC cI cZ (xa 2) da dg dF ++ (wR cI cZ (xa 3) ra rg rF rE ++ (wS cI cZ (xa 4) za zg zh zk zF ++ (wT cI cZ (ys 0) (ta 0) (tg 0) ++ (wB cI ((ta 0) 3) (onR (xs (i + 1)) 4 (tf 0) (fun _ => onR (xs (i + 3)) 4 (tf 0) (fun _ => if copF (fun z => tg z 0) (mF 26) (fun z => tg z 2) 3 0 (xs (i + 2)) (xs (i + 4)) (xs (i + 5)) = 0 then mv (tf 0) (tf 3) (xs (i + 4)).toNatClampNeg (xs (i + 2)).toNatClampNeg (xs (i + 5)).toNatClampNeg else (tf 0)))) ++ (wT cI cZ (ys 1) (ta 1) (tg 1) ++ (wB cI ((ta 1) 3) (tf 1) ++ (wT cI cZ (ys 2) (ta 2) (tg 2) ++ (wB cI ((ta 2) 3) (tf 2) ++ (wT cI cZ (ys 3) (ta 3) (tg 3) ++ (wB cI ((ta 3) 3) (tf 3) ++ (wM cI cZ mq ma (sF mg 0 (fCopy (fun z => tg z 0) ((mF 26)) (fun z => tg z 2) (xs (i + 1)) (xs (i + 2)) (xs (i + 3)) (xs (i + 4)) (xs (i + 5)))) mh mF (sF (sF mE 27 (sCopy (fun z => tg z 0) ((mF 26)) (fun z => tg z 2) (xs (i + 1)) (xs (i + 2)) (xs (i + 3)) (xs (i + 4)) (xs (i + 5)) ((mE 27)))) 28 u))))))))))))))))) (wX cI cZ xq xa (sF xg 6 (fCopy (fun z => tg z 0) (mF 26) (fun z => tg z 2) (xs (i + 1)) (xs (i + 2)) (xs (i + 3)) (xs (i + 4)) (xs (i + 5)))) xh ++ (wA cO (xa 0) ys ++ (wC cI cZ (xa 1) ca cg cF ++ (wC cI cZ (xa 2) da dg dF ++ (wR cI cZ (xa 3) ra rg rF rE ++ (wS cI cZ (xa 4) za zg zh zk zF ++ (wT cI cZ (ys 0) (ta 0) (tg 0) ++ (wB cI ((ta 0) 3) (onR (xs (i + 1)) 4 (tf 0) (fun _ => onR (xs (i + 3)) 4 (tf 0) (fun _ => if copF (fun z => tg z 0) (mF 26) (fun z => tg z 2) 3 0 (xs (i + 2)) (xs (i + 4)) (xs (i + 5)) = 0 then mv (tf 0) (tf 3) (xs (i + 4)).toNatClampNeg (xs (i + 2)).toNatClampNeg (xs (i + 5)).toNatClampNeg else (tf 0)))) ++ (wT cI cZ (ys 1) (ta 1) (tg 1) ++ (wB cI ((ta 1) 3) (tf 1) ++ (wT cI cZ (ys 2) (ta 2) (tg 2) ++ (wB cI ((ta 2) 3) (tf 2) ++ (wT cI cZ (ys 3) (ta 3) (tg 3) ++ (wB cI ((ta 3) 3) (tf 3))))))))))))))) (c_X6_copy l D cI cZ cO mq ma mg mh mF mE _ (xs (i + 1)) (xs (i + 2)) (xs (i + 3)) (xs (i + 4)) (xs (i + 5)) (fun z => tg z 0) (fun z => tg z 2) (show ∀ z, z < 4 → ((fun z => tg z 0) z = 0 ∧ (mE 25) z = (-1 : Int32)) ∨ ((fun z => tg z 0) z = 1 ∧ (mE 25) z = nI ((fun z => tg z 2) z)) from hts) (show ∀ z0, (fun z => tg z 2) z0 ≤ 60 from ht2) (show ∀ z0, (mF 26) z0 ≤ 2 from (fun z => by rw [htl]; exact ht1 z))) (cwV 5 X.2.2.2.2.2.1 gL_law_X6_copy rfl rfl rfl (by decide +kernel) ⟨Nat.le_of_ble_eq_true rfl, Nat.le_of_ble_eq_true rfl⟩) 5 rfl rfl rfl (ap1 (mf (mf (mf (mf (mf (mf (mf (mf (mf (mf (mf (mf (mf mf0)))))))))))))) (fun u => (ap1 (mf (mf (mf (mf (mf (mf (mf (mf (mf (mf (mf (mf (mf mf0))))))))))))))) rfl hl.1 rfl (Nat.le_of_ble_eq_true rfl) ⟨Nat.le_of_ble_eq_true rfl, Nat.le_of_ble_eq_true rfl⟩ dL_law_909 (fun r4 u5 H locs w909 hW => ?_)
  obtain ⟨o1_3, o1_3e⟩ : ∃ z, z = u5 := ⟨_, rfl⟩
  subst o1_3e
  have hW : Wd D A s.heap H locs (wX cI cZ xq xa (sF xg 6 (fCopy (fun z => tg z 0) (mF 26) (fun z => tg z 2) (xs (i + 1)) (xs (i + 2)) (xs (i + 3)) (xs (i + 4)) (xs (i + 5)))) xh ++ (wA cO (xa 0) ys ++ (wC cI cZ (xa 1) ca cg cF ++ (wC cI cZ (xa 2) da dg dF ++ (wR cI cZ (xa 3) ra rg rF rE ++ (wS cI cZ (xa 4) za zg zh zk zF ++ (wT cI cZ (ys 0) (ta 0) (tg 0) ++ (wB cI ((ta 0) 3) (onR (xs (i + 1)) 4 (tf 0) (fun _ => onR (xs (i + 3)) 4 (tf 0) (fun _ => if copF (fun z => tg z 0) (mF 26) (fun z => tg z 2) 3 0 (xs (i + 2)) (xs (i + 4)) (xs (i + 5)) = 0 then mv (tf 0) (tf 3) (xs (i + 4)).toNatClampNeg (xs (i + 2)).toNatClampNeg (xs (i + 5)).toNatClampNeg else (tf 0)))) ++ (wT cI cZ (ys 1) (ta 1) (tg 1) ++ (wB cI ((ta 1) 3) (tf 1) ++ (wT cI cZ (ys 2) (ta 2) (tg 2) ++ (wB cI ((ta 2) 3) (tf 2) ++ (wT cI cZ (ys 3) (ta 3) (tg 3) ++ (wB cI ((ta 3) 3) (tf 3) ++ (wM cI cZ mq ma (sF mg 0 (fCopy (fun z => tg z 0) ((mF 26)) (fun z => tg z 2) (xs (i + 1)) (xs (i + 2)) (xs (i + 3)) (xs (i + 4)) (xs (i + 5)))) mh mF (sF (sF mE 27 (sCopy (fun z => tg z 0) ((mF 26)) (fun z => tg z 2) (xs (i + 1)) (xs (i + 2)) (xs (i + 3)) (xs (i + 4)) (xs (i + 5)) ((mE 27)))) 28 o1_3)))))))))))))))) := hW
  replace w909 : r4 = aCopy (fun z => tg z 0) ((mF 26)) (fun z => tg z 2) (xs (i + 1)) (xs (i + 2)) (xs (i + 3)) (xs (i + 4)) (xs (i + 5)) := w909
  subst w909
  refine x_icmp_eq X 1045 dL_law_912 (by decide) (fun c912 => ?_) (fun c912 => by exact absurd (by (try rw [e1]); (try rw [e2]); (try rw [e3]); (try rw [e4]); (try rw [e5]); (try rw [f1]); (try rw [f2]); (try rw [f3]); (try rw [f4]); (try rfl)) c912)
  exact next _ _ _ ⟨xa, (sF xg 6 (fCopy (fun z => tg z 0) (mF 26) (fun z => tg z 2) (xs (i + 1)) (xs (i + 2)) (xs (i + 3)) (xs (i + 4)) (xs (i + 5)))), xh, ys, ca, cg, cF, da, dg, dF, ra, rg, rF, rE, za, zg, zh, zk, zF, ma, (sF mg 0 (fCopy (fun z => tg z 0) ((mF 26)) (fun z => tg z 2) (xs (i + 1)) (xs (i + 2)) (xs (i + 3)) (xs (i + 4)) (xs (i + 5)))), mh, mF, (sF (sF mE 27 (sCopy (fun z => tg z 0) ((mF 26)) (fun z => tg z 2) (xs (i + 1)) (xs (i + 2)) (xs (i + 3)) (xs (i + 4)) (xs (i + 5)) ((mE 27)))) 28 o1_3), ta, tg, (sF tf 0 (onR (xs (i + 1)) 4 (tf 0) (fun _ => onR (xs (i + 3)) 4 (tf 0) (fun _ => if copF (fun z => tg z 0) (mF 26) (fun z => tg z 2) 3 0 (xs (i + 2)) (xs (i + 4)) (xs (i + 5)) = 0 then mv (tf 0) (tf 3) (xs (i + 4)).toNatClampNeg (xs (i + 2)).toNatClampNeg (xs (i + 5)).toNatClampNeg else (tf 0))))), hW, hRC, hRR, hRD, hSK, RT_copy hRT (show 3 < 4 by decide) (show 0 < 4 by decide) hkj hoj, ⟨hRX.1, rfl⟩, hRM⟩ (lv_sub hl [0, 1, 2, 3] rfl)
set_option maxHeartbeats 4000000 in
set_option maxRecDepth 100000 in
theorem law_copy_3_1 {p : Program} {e : Env} {s : State} {m : MethodId} {below : List Frame} {meth : Method} {c : Code} {D : va_G} {cI cZ cO : ClassId} {A : Nat → Prop} {Q : State → Prop} {l : Launch} {b L xq mq i : Nat} {xs : Nat → Int32} {H : Heap} {locs : List Loc} {ls : Array Slot} (X : Fx p s m #[Value.ref b] meth c code 4 ret wsL_law RL D (ty3 cI cZ cO) A) (hX : va_X b L xs s s.heap) (hbl : b < s.heap.size) (hbA : ¬ A b) (hL : L ≤ 3072) (hi : i + 6 ≤ L) (hI : lw_I D cI cZ cO A s.heap xq mq H locs) (hl : lv_has ls 4 [(3, .int (nI i)), (2, .ref mq), (1, .ref xq), (0, .ref b)]) (hkj : ¬ inR (xs (i + 1)) 4 ∨ xs (i + 1) = nI 3) (hoj : ¬ inR (xs (i + 3)) 4 ∨ xs (i + 3) = nI 1) (next : ∀ (H : Heap) (locs : List Loc) (ls : Array Slot), lw_I D cI cZ cO A s.heap xq mq H locs → lv_has ls 4 [(3, .int (nI i)), (2, .ref mq), (1, .ref xq), (0, .ref b)] → W p l e room_1 s m #[Value.ref b] below meth c H locs 600000 7302250 Q (F0 m 1045 ls [])) : W p l e room_1 s m #[Value.ref b] below meth c H locs 600000 7302250 Q (F0 m 854 ls []) := by
  obtain ⟨xa, xg, xh, ys, ca, cg, cF, da, dg, dF, ra, rg, rF, rE, za, zg, zh, zk, zF, ma, mg, mh, mF, mE, ta, tg, tf, hW, hRC, hRR, hRD, hSK, hRT, hRX, hRM⟩ := hI
  have hW : Wd D A s.heap H locs (wX cI cZ xq xa xg xh ++ (wA cO (xa 0) ys ++ (wC cI cZ (xa 1) ca cg cF ++ (wC cI cZ (xa 2) da dg dF ++ (wR cI cZ (xa 3) ra rg rF rE ++ (wS cI cZ (xa 4) za zg zh zk zF ++ (wT cI cZ (ys 0) (ta 0) (tg 0) ++ (wB cI ((ta 0) 3) (tf 0) ++ (wT cI cZ (ys 1) (ta 1) (tg 1) ++ (wB cI ((ta 1) 3) (tf 1) ++ (wT cI cZ (ys 2) (ta 2) (tg 2) ++ (wB cI ((ta 2) 3) (tf 2) ++ (wT cI cZ (ys 3) (ta 3) (tg 3) ++ (wB cI ((ta 3) 3) (tf 3) ++ (wM cI cZ mq ma mg mh mF mE))))))))))))))) := hW
  obtain ⟨h02, hn, hrn, hk, hlv, hm, e2, e1, e3, e4, e5⟩ := id hRC
  obtain ⟨hrc, hro, hra, hrd, f1, f2, f3, f4⟩ := id hRR
  obtain ⟨hdn, hdr, hdk, hdl, hdm⟩ := id hRD
  obtain ⟨ht0, ht1, ht2, htl, hts, htc⟩ := id hRT
  refine x_aload_n X dL_law_854 rfl (lv_at hl 2 rfl) ?_
  refine x_aload_n X dL_law_855 rfl (lv_at hl 3 rfl) ?_
  refine x_iload_n X dL_law_856 rfl (lv_at hl 0 rfl) ?_
  refine x_iconst (v := nI 1) X dL_law_857 (by decide) ?_
  refine n_iadd X dL_law_858 ?_
  refine x_sld X hW hX hbl hbA (j := i + 1) (by omega) (by omega) dL_law_859 ?_
  refine x_aload_n X dL_law_860 rfl (lv_at hl 3 rfl) ?_
  refine x_iload_n X dL_law_861 rfl (lv_at hl 0 rfl) ?_
  refine x_iconst (v := nI 2) X dL_law_862 (by decide) ?_
  refine n_iadd X dL_law_863 ?_
  refine x_sld X hW hX hbl hbA (j := i + 2) (by omega) (by omega) dL_law_864 ?_
  refine x_aload_n X dL_law_865 rfl (lv_at hl 3 rfl) ?_
  refine x_iload_n X dL_law_866 rfl (lv_at hl 0 rfl) ?_
  refine x_iconst (v := nI 3) X dL_law_867 (by decide) ?_
  refine n_iadd X dL_law_868 ?_
  refine x_sld X hW hX hbl hbA (j := i + 3) (by omega) (by omega) dL_law_869 ?_
  refine x_aload_n X dL_law_870 rfl (lv_at hl 3 rfl) ?_
  refine x_iload_n X dL_law_871 rfl (lv_at hl 0 rfl) ?_
  refine x_iconst (v := nI 4) X dL_law_872 (by decide) ?_
  refine n_iadd X dL_law_873 ?_
  refine x_sld X hW hX hbl hbA (j := i + 4) (by omega) (by omega) dL_law_874 ?_
  refine x_aload_n X dL_law_875 rfl (lv_at hl 3 rfl) ?_
  refine x_iload_n X dL_law_876 rfl (lv_at hl 0 rfl) ?_
  refine x_iconst (v := nI 5) X dL_law_877 (by decide) ?_
  refine n_iadd X dL_law_878 ?_
  refine x_sld X hW hX hbl hbA (j := i + 5) (by omega) (by omega) dL_law_879 ?_
  refine x_pcallVi X hW (As := [.int (xs (i + 1)), .int (xs (i + 2)), .int (xs (i + 3)), .int (xs (i + 4)), .int (xs (i + 5))]) (rest := []) (wz := fun u => (wX cI cZ xq xa (sF xg 6 (fCopy (fun z => tg z 0) (mF 26) (fun z => tg z 2) (xs (i + 1)) (xs (i + 2)) (xs (i + 3)) (xs (i + 4)) (xs (i + 5)))) xh ++ (wA cO (xa 0) ys ++ (wC cI cZ (xa 1) ca cg cF ++ (wC cI cZ (xa 2) da dg dF ++ (wR cI cZ (xa 3) ra rg rF rE ++ (wS cI cZ (xa 4) za zg zh zk zF ++ (wT cI cZ (ys 0) (ta 0) (tg 0) ++ (wB cI ((ta 0) 3) (tf 0) ++ (wT cI cZ (ys 1) (ta 1) (tg 1) ++ (wB cI ((ta 1) 3) (onR (xs (i + 1)) 4 (tf 1) (fun _ => onR (xs (i + 3)) 4 (tf 1) (fun _ => if copF (fun z => tg z 0) (mF 26) (fun z => tg z 2) 3 1 (xs (i + 2)) (xs (i + 4)) (xs (i + 5)) = 0 then mv (tf 1) (tf 3) (xs (i + 4)).toNatClampNeg (xs (i + 2)).toNatClampNeg (xs (i + 5)).toNatClampNeg else (tf 1)))) ++ (wT cI cZ (ys 2) (ta 2) (tg 2) ++ (wB cI ((ta 2) 3) (tf 2) ++ (wT cI cZ (ys 3) (ta 3) (tg 3) ++ (wB cI ((ta 3) 3) (tf 3) ++ (wM cI cZ mq ma mg mh mF mE)))))))))))))))) (wC cI cZ (xa 1) ca cg cF ++ (wC cI cZ (xa 2) da dg dF ++ (wR cI cZ (xa 3) ra rg rF rE ++ (wS cI cZ (xa 4) za zg zh zk zF ++ (wT cI cZ (ys 0) (ta 0) (tg 0) ++ (wB cI ((ta 0) 3) (tf 0) ++ (wT cI cZ (ys 2) (ta 2) (tg 2) ++ (wB cI ((ta 2) 3) (tf 2) ++ (wM cI cZ mq ma mg mh mF mE))))))))) (c_X5_copyP l D cI cZ cO xq xa xg xh ys (ta 3) (tg 3) (tf 3) (ta 1) (tg 1) (tf 1) _ (xs (i + 1)) (xs (i + 2)) (xs (i + 3)) (xs (i + 4)) (xs (i + 5)) 3 1 (fun z => tg z 0) (mF 26) (fun z => tg z 2) (show 3 < 4 from (by decide)) (show ((tg 3) 2) ≤ 60 from ht2 3) (show ((tg 3) 0) ≤ 1 from ht0 3) (show ((tg 3) 1) ≤ 2 from ht1 3) (show (fun z => tg z 0) 3 = ((tg 3) 0) from rfl) (show (mF 26) 3 = ((tg 3) 1) from htl 3) (show (fun z => tg z 2) 3 = ((tg 3) 2) from rfl) (show 1 < 4 from (by decide)) (show ((tg 1) 2) ≤ 60 from ht2 1) (show ((tg 1) 0) ≤ 1 from ht0 1) (show ((tg 1) 1) ≤ 2 from ht1 1) (show (fun z => tg z 0) 1 = ((tg 1) 0) from rfl) (show (mF 26) 1 = ((tg 1) 1) from htl 1) (show (fun z => tg z 2) 1 = ((tg 1) 2) from rfl) (show ¬ inR (xs (i + 1)) 4 ∨ (xs (i + 1)) = nI 3 from hkj) (show ¬ inR (xs (i + 3)) 4 ∨ (xs (i + 3)) = nI 1 from hoj)) (cwV 5 X.2.2.2.2.2.1 gL_law_X5_copy rfl rfl rfl (by decide +kernel) ⟨Nat.le_of_ble_eq_true rfl, Nat.le_of_ble_eq_true rfl⟩) 4 rfl rfl rfl (apn (mfr _ _) (apn (mfr _ _) (apn (mf (mf (mf (mf (mf (mf (mf (mf (mf (mf (mfr _ _))))))))))) (apn (mf (mf (mf (mf (mf (mf (mf (mf (mf (mf (mfr _ _))))))))))) (apn (mf (mf (mf (mf (mf (mf (mfr _ _))))))) (mf (mf (mf (mf (mf (mf (mfr _ _)))))))))))) (fun u => (apn (mfr _ _) (apn (mfr _ _) (apn (mf (mf (mf (mf (mf (mf (mf (mf (mf (mf (mfr _ _))))))))))) (apn (mf (mf (mf (mf (mf (mf (mf (mf (mf (mf (mfr _ _))))))))))) (apn (mf (mf (mf (mf (mf (mf (mfr _ _))))))) (mf (mf (mf (mf (mf (mf (mfr _ _))))))))))))) rfl hl.1 rfl (Nat.le_of_ble_eq_true rfl) ⟨Nat.le_of_ble_eq_true rfl, Nat.le_of_ble_eq_true rfl⟩ dL_law_880 (fun r1 u2 H locs w880 hW => ?_)
  have hW : Wd D A s.heap H locs (wX cI cZ xq xa (sF xg 6 (fCopy (fun z => tg z 0) (mF 26) (fun z => tg z 2) (xs (i + 1)) (xs (i + 2)) (xs (i + 3)) (xs (i + 4)) (xs (i + 5)))) xh ++ (wA cO (xa 0) ys ++ (wC cI cZ (xa 1) ca cg cF ++ (wC cI cZ (xa 2) da dg dF ++ (wR cI cZ (xa 3) ra rg rF rE ++ (wS cI cZ (xa 4) za zg zh zk zF ++ (wT cI cZ (ys 0) (ta 0) (tg 0) ++ (wB cI ((ta 0) 3) (tf 0) ++ (wT cI cZ (ys 1) (ta 1) (tg 1) ++ (wB cI ((ta 1) 3) (onR (xs (i + 1)) 4 (tf 1) (fun _ => onR (xs (i + 3)) 4 (tf 1) (fun _ => if copF (fun z => tg z 0) (mF 26) (fun z => tg z 2) 3 1 (xs (i + 2)) (xs (i + 4)) (xs (i + 5)) = 0 then mv (tf 1) (tf 3) (xs (i + 4)).toNatClampNeg (xs (i + 2)).toNatClampNeg (xs (i + 5)).toNatClampNeg else (tf 1)))) ++ (wT cI cZ (ys 2) (ta 2) (tg 2) ++ (wB cI ((ta 2) 3) (tf 2) ++ (wT cI cZ (ys 3) (ta 3) (tg 3) ++ (wB cI ((ta 3) 3) (tf 3) ++ (wM cI cZ mq ma mg mh mF mE))))))))))))))) := hW
  replace w880 : r1 = aCopy (fun z => tg z 0) (mF 26) (fun z => tg z 2) (xs (i + 1)) (xs (i + 2)) (xs (i + 3)) (xs (i + 4)) (xs (i + 5)) := w880
  subst w880
  refine x_aload_n X dL_law_883 rfl (lv_at hl 1 rfl) ?_
  refine x_aload_n X dL_law_884 rfl (lv_at hl 3 rfl) ?_
  refine x_iload_n X dL_law_885 rfl (lv_at hl 0 rfl) ?_
  refine x_iconst (v := nI 1) X dL_law_886 (by decide) ?_
  refine n_iadd X dL_law_887 ?_
  refine x_sld X hW hX hbl hbA (j := i + 1) (by omega) (by omega) dL_law_888 ?_
  refine x_aload_n X dL_law_889 rfl (lv_at hl 3 rfl) ?_
  refine x_iload_n X dL_law_890 rfl (lv_at hl 0 rfl) ?_
  refine x_iconst (v := nI 2) X dL_law_891 (by decide) ?_
  refine n_iadd X dL_law_892 ?_
  refine x_sld X hW hX hbl hbA (j := i + 2) (by omega) (by omega) dL_law_893 ?_
  refine x_aload_n X dL_law_894 rfl (lv_at hl 3 rfl) ?_
  refine x_iload_n X dL_law_895 rfl (lv_at hl 0 rfl) ?_
  refine x_iconst (v := nI 3) X dL_law_896 (by decide) ?_
  refine n_iadd X dL_law_897 ?_
  refine x_sld X hW hX hbl hbA (j := i + 3) (by omega) (by omega) dL_law_898 ?_
  refine x_aload_n X dL_law_899 rfl (lv_at hl 3 rfl) ?_
  refine x_iload_n X dL_law_900 rfl (lv_at hl 0 rfl) ?_
  refine x_iconst (v := nI 4) X dL_law_901 (by decide) ?_
  refine n_iadd X dL_law_902 ?_
  refine x_sld X hW hX hbl hbA (j := i + 4) (by omega) (by omega) dL_law_903 ?_
  refine x_aload_n X dL_law_904 rfl (lv_at hl 3 rfl) ?_
  refine x_iload_n X dL_law_905 rfl (lv_at hl 0 rfl) ?_
  refine x_iconst (v := nI 5) X dL_law_906 (by decide) ?_
  refine n_iadd X dL_law_907 ?_
  refine x_sld X hW hX hbl hbA (j := i + 5) (by omega) (by omega) dL_law_908 ?_
  refine x_pcallVi X hW (As := [.int (xs (i + 1)), .int (xs (i + 2)), .int (xs (i + 3)), .int (xs (i + 4)), .int (xs (i + 5))]) (rest := [.int (aCopy (fun z => tg z 0) (mF 26) (fun z => tg z 2) (xs (i + 1)) (xs (i + 2)) (xs (i + 3)) (xs (i + 4)) (xs (i + 5)))]) (wz := fun u => (wX cI cZ xq xa (sF xg 6 (fCopy (fun z => tg z 0) (mF 26) (fun z => tg z 2) (xs (i + 1)) (xs (i + 2)) (xs (i + 3)) (xs (i + 4)) (xs (i + 5)))) xh ++ (wA cO (xa 0) ys ++ (wC cI cZ (xa 1) ca cg cF ++ (wC cI cZ (xa 2) da dg dF ++ (wR cI cZ (xa 3) ra rg rF rE ++ (wS cI cZ (xa 4) za zg zh zk zF ++ (wT cI cZ (ys 0) (ta 0) (tg 0) ++ (wB cI ((ta 0) 3) (tf 0) ++ (wT cI cZ (ys 1) (ta 1) (tg 1) ++ (wB cI ((ta 1) 3) (onR (xs (i + 1)) 4 (tf 1) (fun _ => onR (xs (i + 3)) 4 (tf 1) (fun _ => if copF (fun z => tg z 0) (mF 26) (fun z => tg z 2) 3 1 (xs (i + 2)) (xs (i + 4)) (xs (i + 5)) = 0 then mv (tf 1) (tf 3) (xs (i + 4)).toNatClampNeg (xs (i + 2)).toNatClampNeg (xs (i + 5)).toNatClampNeg else (tf 1)))) ++ (wT cI cZ (ys 2) (ta 2) (tg 2) ++ (wB cI ((ta 2) 3) (tf 2) ++ (wT cI cZ (ys 3) (ta 3) (tg 3) ++ (wB cI ((ta 3) 3) (tf 3) ++ (wM cI cZ mq ma (sF mg 0 (fCopy (fun z => tg z 0) ((mF 26)) (fun z => tg z 2) (xs (i + 1)) (xs (i + 2)) (xs (i + 3)) (xs (i + 4)) (xs (i + 5)))) mh mF (sF (sF mE 27 (sCopy (fun z => tg z 0) ((mF 26)) (fun z => tg z 2) (xs (i + 1)) (xs (i + 2)) (xs (i + 3)) (xs (i + 4)) (xs (i + 5)) ((mE 27)))) 28 u))))))))))))))))) (wX cI cZ xq xa (sF xg 6 (fCopy (fun z => tg z 0) (mF 26) (fun z => tg z 2) (xs (i + 1)) (xs (i + 2)) (xs (i + 3)) (xs (i + 4)) (xs (i + 5)))) xh ++ (wA cO (xa 0) ys ++ (wC cI cZ (xa 1) ca cg cF ++ (wC cI cZ (xa 2) da dg dF ++ (wR cI cZ (xa 3) ra rg rF rE ++ (wS cI cZ (xa 4) za zg zh zk zF ++ (wT cI cZ (ys 0) (ta 0) (tg 0) ++ (wB cI ((ta 0) 3) (tf 0) ++ (wT cI cZ (ys 1) (ta 1) (tg 1) ++ (wB cI ((ta 1) 3) (onR (xs (i + 1)) 4 (tf 1) (fun _ => onR (xs (i + 3)) 4 (tf 1) (fun _ => if copF (fun z => tg z 0) (mF 26) (fun z => tg z 2) 3 1 (xs (i + 2)) (xs (i + 4)) (xs (i + 5)) = 0 then mv (tf 1) (tf 3) (xs (i + 4)).toNatClampNeg (xs (i + 2)).toNatClampNeg (xs (i + 5)).toNatClampNeg else (tf 1)))) ++ (wT cI cZ (ys 2) (ta 2) (tg 2) ++ (wB cI ((ta 2) 3) (tf 2) ++ (wT cI cZ (ys 3) (ta 3) (tg 3) ++ (wB cI ((ta 3) 3) (tf 3))))))))))))))) (c_X6_copy l D cI cZ cO mq ma mg mh mF mE _ (xs (i + 1)) (xs (i + 2)) (xs (i + 3)) (xs (i + 4)) (xs (i + 5)) (fun z => tg z 0) (fun z => tg z 2) (show ∀ z, z < 4 → ((fun z => tg z 0) z = 0 ∧ (mE 25) z = (-1 : Int32)) ∨ ((fun z => tg z 0) z = 1 ∧ (mE 25) z = nI ((fun z => tg z 2) z)) from hts) (show ∀ z0, (fun z => tg z 2) z0 ≤ 60 from ht2) (show ∀ z0, (mF 26) z0 ≤ 2 from (fun z => by rw [htl]; exact ht1 z))) (cwV 5 X.2.2.2.2.2.1 gL_law_X6_copy rfl rfl rfl (by decide +kernel) ⟨Nat.le_of_ble_eq_true rfl, Nat.le_of_ble_eq_true rfl⟩) 5 rfl rfl rfl (ap1 (mf (mf (mf (mf (mf (mf (mf (mf (mf (mf (mf (mf (mf mf0)))))))))))))) (fun u => (ap1 (mf (mf (mf (mf (mf (mf (mf (mf (mf (mf (mf (mf (mf mf0))))))))))))))) rfl hl.1 rfl (Nat.le_of_ble_eq_true rfl) ⟨Nat.le_of_ble_eq_true rfl, Nat.le_of_ble_eq_true rfl⟩ dL_law_909 (fun r4 u5 H locs w909 hW => ?_)
  obtain ⟨o1_3, o1_3e⟩ : ∃ z, z = u5 := ⟨_, rfl⟩
  subst o1_3e
  have hW : Wd D A s.heap H locs (wX cI cZ xq xa (sF xg 6 (fCopy (fun z => tg z 0) (mF 26) (fun z => tg z 2) (xs (i + 1)) (xs (i + 2)) (xs (i + 3)) (xs (i + 4)) (xs (i + 5)))) xh ++ (wA cO (xa 0) ys ++ (wC cI cZ (xa 1) ca cg cF ++ (wC cI cZ (xa 2) da dg dF ++ (wR cI cZ (xa 3) ra rg rF rE ++ (wS cI cZ (xa 4) za zg zh zk zF ++ (wT cI cZ (ys 0) (ta 0) (tg 0) ++ (wB cI ((ta 0) 3) (tf 0) ++ (wT cI cZ (ys 1) (ta 1) (tg 1) ++ (wB cI ((ta 1) 3) (onR (xs (i + 1)) 4 (tf 1) (fun _ => onR (xs (i + 3)) 4 (tf 1) (fun _ => if copF (fun z => tg z 0) (mF 26) (fun z => tg z 2) 3 1 (xs (i + 2)) (xs (i + 4)) (xs (i + 5)) = 0 then mv (tf 1) (tf 3) (xs (i + 4)).toNatClampNeg (xs (i + 2)).toNatClampNeg (xs (i + 5)).toNatClampNeg else (tf 1)))) ++ (wT cI cZ (ys 2) (ta 2) (tg 2) ++ (wB cI ((ta 2) 3) (tf 2) ++ (wT cI cZ (ys 3) (ta 3) (tg 3) ++ (wB cI ((ta 3) 3) (tf 3) ++ (wM cI cZ mq ma (sF mg 0 (fCopy (fun z => tg z 0) ((mF 26)) (fun z => tg z 2) (xs (i + 1)) (xs (i + 2)) (xs (i + 3)) (xs (i + 4)) (xs (i + 5)))) mh mF (sF (sF mE 27 (sCopy (fun z => tg z 0) ((mF 26)) (fun z => tg z 2) (xs (i + 1)) (xs (i + 2)) (xs (i + 3)) (xs (i + 4)) (xs (i + 5)) ((mE 27)))) 28 o1_3)))))))))))))))) := hW
  replace w909 : r4 = aCopy (fun z => tg z 0) ((mF 26)) (fun z => tg z 2) (xs (i + 1)) (xs (i + 2)) (xs (i + 3)) (xs (i + 4)) (xs (i + 5)) := w909
  subst w909
  refine x_icmp_eq X 1045 dL_law_912 (by decide) (fun c912 => ?_) (fun c912 => by exact absurd (by (try rw [e1]); (try rw [e2]); (try rw [e3]); (try rw [e4]); (try rw [e5]); (try rw [f1]); (try rw [f2]); (try rw [f3]); (try rw [f4]); (try rfl)) c912)
  exact next _ _ _ ⟨xa, (sF xg 6 (fCopy (fun z => tg z 0) (mF 26) (fun z => tg z 2) (xs (i + 1)) (xs (i + 2)) (xs (i + 3)) (xs (i + 4)) (xs (i + 5)))), xh, ys, ca, cg, cF, da, dg, dF, ra, rg, rF, rE, za, zg, zh, zk, zF, ma, (sF mg 0 (fCopy (fun z => tg z 0) ((mF 26)) (fun z => tg z 2) (xs (i + 1)) (xs (i + 2)) (xs (i + 3)) (xs (i + 4)) (xs (i + 5)))), mh, mF, (sF (sF mE 27 (sCopy (fun z => tg z 0) ((mF 26)) (fun z => tg z 2) (xs (i + 1)) (xs (i + 2)) (xs (i + 3)) (xs (i + 4)) (xs (i + 5)) ((mE 27)))) 28 o1_3), ta, tg, (sF tf 1 (onR (xs (i + 1)) 4 (tf 1) (fun _ => onR (xs (i + 3)) 4 (tf 1) (fun _ => if copF (fun z => tg z 0) (mF 26) (fun z => tg z 2) 3 1 (xs (i + 2)) (xs (i + 4)) (xs (i + 5)) = 0 then mv (tf 1) (tf 3) (xs (i + 4)).toNatClampNeg (xs (i + 2)).toNatClampNeg (xs (i + 5)).toNatClampNeg else (tf 1))))), hW, hRC, hRR, hRD, hSK, RT_copy hRT (show 3 < 4 by decide) (show 1 < 4 by decide) hkj hoj, ⟨hRX.1, rfl⟩, hRM⟩ (lv_sub hl [0, 1, 2, 3] rfl)
set_option maxHeartbeats 4000000 in
set_option maxRecDepth 100000 in
theorem law_copy_3_2 {p : Program} {e : Env} {s : State} {m : MethodId} {below : List Frame} {meth : Method} {c : Code} {D : va_G} {cI cZ cO : ClassId} {A : Nat → Prop} {Q : State → Prop} {l : Launch} {b L xq mq i : Nat} {xs : Nat → Int32} {H : Heap} {locs : List Loc} {ls : Array Slot} (X : Fx p s m #[Value.ref b] meth c code 4 ret wsL_law RL D (ty3 cI cZ cO) A) (hX : va_X b L xs s s.heap) (hbl : b < s.heap.size) (hbA : ¬ A b) (hL : L ≤ 3072) (hi : i + 6 ≤ L) (hI : lw_I D cI cZ cO A s.heap xq mq H locs) (hl : lv_has ls 4 [(3, .int (nI i)), (2, .ref mq), (1, .ref xq), (0, .ref b)]) (hkj : ¬ inR (xs (i + 1)) 4 ∨ xs (i + 1) = nI 3) (hoj : ¬ inR (xs (i + 3)) 4 ∨ xs (i + 3) = nI 2) (next : ∀ (H : Heap) (locs : List Loc) (ls : Array Slot), lw_I D cI cZ cO A s.heap xq mq H locs → lv_has ls 4 [(3, .int (nI i)), (2, .ref mq), (1, .ref xq), (0, .ref b)] → W p l e room_1 s m #[Value.ref b] below meth c H locs 600000 7302250 Q (F0 m 1045 ls [])) : W p l e room_1 s m #[Value.ref b] below meth c H locs 600000 7302250 Q (F0 m 854 ls []) := by
  obtain ⟨xa, xg, xh, ys, ca, cg, cF, da, dg, dF, ra, rg, rF, rE, za, zg, zh, zk, zF, ma, mg, mh, mF, mE, ta, tg, tf, hW, hRC, hRR, hRD, hSK, hRT, hRX, hRM⟩ := hI
  have hW : Wd D A s.heap H locs (wX cI cZ xq xa xg xh ++ (wA cO (xa 0) ys ++ (wC cI cZ (xa 1) ca cg cF ++ (wC cI cZ (xa 2) da dg dF ++ (wR cI cZ (xa 3) ra rg rF rE ++ (wS cI cZ (xa 4) za zg zh zk zF ++ (wT cI cZ (ys 0) (ta 0) (tg 0) ++ (wB cI ((ta 0) 3) (tf 0) ++ (wT cI cZ (ys 1) (ta 1) (tg 1) ++ (wB cI ((ta 1) 3) (tf 1) ++ (wT cI cZ (ys 2) (ta 2) (tg 2) ++ (wB cI ((ta 2) 3) (tf 2) ++ (wT cI cZ (ys 3) (ta 3) (tg 3) ++ (wB cI ((ta 3) 3) (tf 3) ++ (wM cI cZ mq ma mg mh mF mE))))))))))))))) := hW
  obtain ⟨h02, hn, hrn, hk, hlv, hm, e2, e1, e3, e4, e5⟩ := id hRC
  obtain ⟨hrc, hro, hra, hrd, f1, f2, f3, f4⟩ := id hRR
  obtain ⟨hdn, hdr, hdk, hdl, hdm⟩ := id hRD
  obtain ⟨ht0, ht1, ht2, htl, hts, htc⟩ := id hRT
  refine x_aload_n X dL_law_854 rfl (lv_at hl 2 rfl) ?_
  refine x_aload_n X dL_law_855 rfl (lv_at hl 3 rfl) ?_
  refine x_iload_n X dL_law_856 rfl (lv_at hl 0 rfl) ?_
  refine x_iconst (v := nI 1) X dL_law_857 (by decide) ?_
  refine n_iadd X dL_law_858 ?_
  refine x_sld X hW hX hbl hbA (j := i + 1) (by omega) (by omega) dL_law_859 ?_
  refine x_aload_n X dL_law_860 rfl (lv_at hl 3 rfl) ?_
  refine x_iload_n X dL_law_861 rfl (lv_at hl 0 rfl) ?_
  refine x_iconst (v := nI 2) X dL_law_862 (by decide) ?_
  refine n_iadd X dL_law_863 ?_
  refine x_sld X hW hX hbl hbA (j := i + 2) (by omega) (by omega) dL_law_864 ?_
  refine x_aload_n X dL_law_865 rfl (lv_at hl 3 rfl) ?_
  refine x_iload_n X dL_law_866 rfl (lv_at hl 0 rfl) ?_
  refine x_iconst (v := nI 3) X dL_law_867 (by decide) ?_
  refine n_iadd X dL_law_868 ?_
  refine x_sld X hW hX hbl hbA (j := i + 3) (by omega) (by omega) dL_law_869 ?_
  refine x_aload_n X dL_law_870 rfl (lv_at hl 3 rfl) ?_
  refine x_iload_n X dL_law_871 rfl (lv_at hl 0 rfl) ?_
  refine x_iconst (v := nI 4) X dL_law_872 (by decide) ?_
  refine n_iadd X dL_law_873 ?_
  refine x_sld X hW hX hbl hbA (j := i + 4) (by omega) (by omega) dL_law_874 ?_
  refine x_aload_n X dL_law_875 rfl (lv_at hl 3 rfl) ?_
  refine x_iload_n X dL_law_876 rfl (lv_at hl 0 rfl) ?_
  refine x_iconst (v := nI 5) X dL_law_877 (by decide) ?_
  refine n_iadd X dL_law_878 ?_
  refine x_sld X hW hX hbl hbA (j := i + 5) (by omega) (by omega) dL_law_879 ?_
  refine x_pcallVi X hW (As := [.int (xs (i + 1)), .int (xs (i + 2)), .int (xs (i + 3)), .int (xs (i + 4)), .int (xs (i + 5))]) (rest := []) (wz := fun u => (wX cI cZ xq xa (sF xg 6 (fCopy (fun z => tg z 0) (mF 26) (fun z => tg z 2) (xs (i + 1)) (xs (i + 2)) (xs (i + 3)) (xs (i + 4)) (xs (i + 5)))) xh ++ (wA cO (xa 0) ys ++ (wC cI cZ (xa 1) ca cg cF ++ (wC cI cZ (xa 2) da dg dF ++ (wR cI cZ (xa 3) ra rg rF rE ++ (wS cI cZ (xa 4) za zg zh zk zF ++ (wT cI cZ (ys 0) (ta 0) (tg 0) ++ (wB cI ((ta 0) 3) (tf 0) ++ (wT cI cZ (ys 1) (ta 1) (tg 1) ++ (wB cI ((ta 1) 3) (tf 1) ++ (wT cI cZ (ys 2) (ta 2) (tg 2) ++ (wB cI ((ta 2) 3) (onR (xs (i + 1)) 4 (tf 2) (fun _ => onR (xs (i + 3)) 4 (tf 2) (fun _ => if copF (fun z => tg z 0) (mF 26) (fun z => tg z 2) 3 2 (xs (i + 2)) (xs (i + 4)) (xs (i + 5)) = 0 then mv (tf 2) (tf 3) (xs (i + 4)).toNatClampNeg (xs (i + 2)).toNatClampNeg (xs (i + 5)).toNatClampNeg else (tf 2)))) ++ (wT cI cZ (ys 3) (ta 3) (tg 3) ++ (wB cI ((ta 3) 3) (tf 3) ++ (wM cI cZ mq ma mg mh mF mE)))))))))))))))) (wC cI cZ (xa 1) ca cg cF ++ (wC cI cZ (xa 2) da dg dF ++ (wR cI cZ (xa 3) ra rg rF rE ++ (wS cI cZ (xa 4) za zg zh zk zF ++ (wT cI cZ (ys 0) (ta 0) (tg 0) ++ (wB cI ((ta 0) 3) (tf 0) ++ (wT cI cZ (ys 1) (ta 1) (tg 1) ++ (wB cI ((ta 1) 3) (tf 1) ++ (wM cI cZ mq ma mg mh mF mE))))))))) (c_X5_copyP l D cI cZ cO xq xa xg xh ys (ta 3) (tg 3) (tf 3) (ta 2) (tg 2) (tf 2) _ (xs (i + 1)) (xs (i + 2)) (xs (i + 3)) (xs (i + 4)) (xs (i + 5)) 3 2 (fun z => tg z 0) (mF 26) (fun z => tg z 2) (show 3 < 4 from (by decide)) (show ((tg 3) 2) ≤ 60 from ht2 3) (show ((tg 3) 0) ≤ 1 from ht0 3) (show ((tg 3) 1) ≤ 2 from ht1 3) (show (fun z => tg z 0) 3 = ((tg 3) 0) from rfl) (show (mF 26) 3 = ((tg 3) 1) from htl 3) (show (fun z => tg z 2) 3 = ((tg 3) 2) from rfl) (show 2 < 4 from (by decide)) (show ((tg 2) 2) ≤ 60 from ht2 2) (show ((tg 2) 0) ≤ 1 from ht0 2) (show ((tg 2) 1) ≤ 2 from ht1 2) (show (fun z => tg z 0) 2 = ((tg 2) 0) from rfl) (show (mF 26) 2 = ((tg 2) 1) from htl 2) (show (fun z => tg z 2) 2 = ((tg 2) 2) from rfl) (show ¬ inR (xs (i + 1)) 4 ∨ (xs (i + 1)) = nI 3 from hkj) (show ¬ inR (xs (i + 3)) 4 ∨ (xs (i + 3)) = nI 2 from hoj)) (cwV 5 X.2.2.2.2.2.1 gL_law_X5_copy rfl rfl rfl (by decide +kernel) ⟨Nat.le_of_ble_eq_true rfl, Nat.le_of_ble_eq_true rfl⟩) 4 rfl rfl rfl (apn (mfr _ _) (apn (mfr _ _) (apn (mf (mf (mf (mf (mf (mf (mf (mf (mf (mf (mfr _ _))))))))))) (apn (mf (mf (mf (mf (mf (mf (mf (mf (mf (mf (mfr _ _))))))))))) (apn (mf (mf (mf (mf (mf (mf (mf (mf (mfr _ _))))))))) (mf (mf (mf (mf (mf (mf (mf (mf (mfr _ _)))))))))))))) (fun u => (apn (mfr _ _) (apn (mfr _ _) (apn (mf (mf (mf (mf (mf (mf (mf (mf (mf (mf (mfr _ _))))))))))) (apn (mf (mf (mf (mf (mf (mf (mf (mf (mf (mf (mfr _ _))))))))))) (apn (mf (mf (mf (mf (mf (mf (mf (mf (mfr _ _))))))))) (mf (mf (mf (mf (mf (mf (mf (mf (mfr _ _))))))))))))))) rfl hl.1 rfl (Nat.le_of_ble_eq_true rfl) ⟨Nat.le_of_ble_eq_true rfl, Nat.le_of_ble_eq_true rfl⟩ dL_law_880 (fun r1 u2 H locs w880 hW => ?_)
  have hW : Wd D A s.heap H locs (wX cI cZ xq xa (sF xg 6 (fCopy (fun z => tg z 0) (mF 26) (fun z => tg z 2) (xs (i + 1)) (xs (i + 2)) (xs (i + 3)) (xs (i + 4)) (xs (i + 5)))) xh ++ (wA cO (xa 0) ys ++ (wC cI cZ (xa 1) ca cg cF ++ (wC cI cZ (xa 2) da dg dF ++ (wR cI cZ (xa 3) ra rg rF rE ++ (wS cI cZ (xa 4) za zg zh zk zF ++ (wT cI cZ (ys 0) (ta 0) (tg 0) ++ (wB cI ((ta 0) 3) (tf 0) ++ (wT cI cZ (ys 1) (ta 1) (tg 1) ++ (wB cI ((ta 1) 3) (tf 1) ++ (wT cI cZ (ys 2) (ta 2) (tg 2) ++ (wB cI ((ta 2) 3) (onR (xs (i + 1)) 4 (tf 2) (fun _ => onR (xs (i + 3)) 4 (tf 2) (fun _ => if copF (fun z => tg z 0) (mF 26) (fun z => tg z 2) 3 2 (xs (i + 2)) (xs (i + 4)) (xs (i + 5)) = 0 then mv (tf 2) (tf 3) (xs (i + 4)).toNatClampNeg (xs (i + 2)).toNatClampNeg (xs (i + 5)).toNatClampNeg else (tf 2)))) ++ (wT cI cZ (ys 3) (ta 3) (tg 3) ++ (wB cI ((ta 3) 3) (tf 3) ++ (wM cI cZ mq ma mg mh mF mE))))))))))))))) := hW
  replace w880 : r1 = aCopy (fun z => tg z 0) (mF 26) (fun z => tg z 2) (xs (i + 1)) (xs (i + 2)) (xs (i + 3)) (xs (i + 4)) (xs (i + 5)) := w880
  subst w880
  refine x_aload_n X dL_law_883 rfl (lv_at hl 1 rfl) ?_
  refine x_aload_n X dL_law_884 rfl (lv_at hl 3 rfl) ?_
  refine x_iload_n X dL_law_885 rfl (lv_at hl 0 rfl) ?_
  refine x_iconst (v := nI 1) X dL_law_886 (by decide) ?_
  refine n_iadd X dL_law_887 ?_
  refine x_sld X hW hX hbl hbA (j := i + 1) (by omega) (by omega) dL_law_888 ?_
  refine x_aload_n X dL_law_889 rfl (lv_at hl 3 rfl) ?_
  refine x_iload_n X dL_law_890 rfl (lv_at hl 0 rfl) ?_
  refine x_iconst (v := nI 2) X dL_law_891 (by decide) ?_
  refine n_iadd X dL_law_892 ?_
  refine x_sld X hW hX hbl hbA (j := i + 2) (by omega) (by omega) dL_law_893 ?_
  refine x_aload_n X dL_law_894 rfl (lv_at hl 3 rfl) ?_
  refine x_iload_n X dL_law_895 rfl (lv_at hl 0 rfl) ?_
  refine x_iconst (v := nI 3) X dL_law_896 (by decide) ?_
  refine n_iadd X dL_law_897 ?_
  refine x_sld X hW hX hbl hbA (j := i + 3) (by omega) (by omega) dL_law_898 ?_
  refine x_aload_n X dL_law_899 rfl (lv_at hl 3 rfl) ?_
  refine x_iload_n X dL_law_900 rfl (lv_at hl 0 rfl) ?_
  refine x_iconst (v := nI 4) X dL_law_901 (by decide) ?_
  refine n_iadd X dL_law_902 ?_
  refine x_sld X hW hX hbl hbA (j := i + 4) (by omega) (by omega) dL_law_903 ?_
  refine x_aload_n X dL_law_904 rfl (lv_at hl 3 rfl) ?_
  refine x_iload_n X dL_law_905 rfl (lv_at hl 0 rfl) ?_
  refine x_iconst (v := nI 5) X dL_law_906 (by decide) ?_
  refine n_iadd X dL_law_907 ?_
  refine x_sld X hW hX hbl hbA (j := i + 5) (by omega) (by omega) dL_law_908 ?_
  refine x_pcallVi X hW (As := [.int (xs (i + 1)), .int (xs (i + 2)), .int (xs (i + 3)), .int (xs (i + 4)), .int (xs (i + 5))]) (rest := [.int (aCopy (fun z => tg z 0) (mF 26) (fun z => tg z 2) (xs (i + 1)) (xs (i + 2)) (xs (i + 3)) (xs (i + 4)) (xs (i + 5)))]) (wz := fun u => (wX cI cZ xq xa (sF xg 6 (fCopy (fun z => tg z 0) (mF 26) (fun z => tg z 2) (xs (i + 1)) (xs (i + 2)) (xs (i + 3)) (xs (i + 4)) (xs (i + 5)))) xh ++ (wA cO (xa 0) ys ++ (wC cI cZ (xa 1) ca cg cF ++ (wC cI cZ (xa 2) da dg dF ++ (wR cI cZ (xa 3) ra rg rF rE ++ (wS cI cZ (xa 4) za zg zh zk zF ++ (wT cI cZ (ys 0) (ta 0) (tg 0) ++ (wB cI ((ta 0) 3) (tf 0) ++ (wT cI cZ (ys 1) (ta 1) (tg 1) ++ (wB cI ((ta 1) 3) (tf 1) ++ (wT cI cZ (ys 2) (ta 2) (tg 2) ++ (wB cI ((ta 2) 3) (onR (xs (i + 1)) 4 (tf 2) (fun _ => onR (xs (i + 3)) 4 (tf 2) (fun _ => if copF (fun z => tg z 0) (mF 26) (fun z => tg z 2) 3 2 (xs (i + 2)) (xs (i + 4)) (xs (i + 5)) = 0 then mv (tf 2) (tf 3) (xs (i + 4)).toNatClampNeg (xs (i + 2)).toNatClampNeg (xs (i + 5)).toNatClampNeg else (tf 2)))) ++ (wT cI cZ (ys 3) (ta 3) (tg 3) ++ (wB cI ((ta 3) 3) (tf 3) ++ (wM cI cZ mq ma (sF mg 0 (fCopy (fun z => tg z 0) ((mF 26)) (fun z => tg z 2) (xs (i + 1)) (xs (i + 2)) (xs (i + 3)) (xs (i + 4)) (xs (i + 5)))) mh mF (sF (sF mE 27 (sCopy (fun z => tg z 0) ((mF 26)) (fun z => tg z 2) (xs (i + 1)) (xs (i + 2)) (xs (i + 3)) (xs (i + 4)) (xs (i + 5)) ((mE 27)))) 28 u))))))))))))))))) (wX cI cZ xq xa (sF xg 6 (fCopy (fun z => tg z 0) (mF 26) (fun z => tg z 2) (xs (i + 1)) (xs (i + 2)) (xs (i + 3)) (xs (i + 4)) (xs (i + 5)))) xh ++ (wA cO (xa 0) ys ++ (wC cI cZ (xa 1) ca cg cF ++ (wC cI cZ (xa 2) da dg dF ++ (wR cI cZ (xa 3) ra rg rF rE ++ (wS cI cZ (xa 4) za zg zh zk zF ++ (wT cI cZ (ys 0) (ta 0) (tg 0) ++ (wB cI ((ta 0) 3) (tf 0) ++ (wT cI cZ (ys 1) (ta 1) (tg 1) ++ (wB cI ((ta 1) 3) (tf 1) ++ (wT cI cZ (ys 2) (ta 2) (tg 2) ++ (wB cI ((ta 2) 3) (onR (xs (i + 1)) 4 (tf 2) (fun _ => onR (xs (i + 3)) 4 (tf 2) (fun _ => if copF (fun z => tg z 0) (mF 26) (fun z => tg z 2) 3 2 (xs (i + 2)) (xs (i + 4)) (xs (i + 5)) = 0 then mv (tf 2) (tf 3) (xs (i + 4)).toNatClampNeg (xs (i + 2)).toNatClampNeg (xs (i + 5)).toNatClampNeg else (tf 2)))) ++ (wT cI cZ (ys 3) (ta 3) (tg 3) ++ (wB cI ((ta 3) 3) (tf 3))))))))))))))) (c_X6_copy l D cI cZ cO mq ma mg mh mF mE _ (xs (i + 1)) (xs (i + 2)) (xs (i + 3)) (xs (i + 4)) (xs (i + 5)) (fun z => tg z 0) (fun z => tg z 2) (show ∀ z, z < 4 → ((fun z => tg z 0) z = 0 ∧ (mE 25) z = (-1 : Int32)) ∨ ((fun z => tg z 0) z = 1 ∧ (mE 25) z = nI ((fun z => tg z 2) z)) from hts) (show ∀ z0, (fun z => tg z 2) z0 ≤ 60 from ht2) (show ∀ z0, (mF 26) z0 ≤ 2 from (fun z => by rw [htl]; exact ht1 z))) (cwV 5 X.2.2.2.2.2.1 gL_law_X6_copy rfl rfl rfl (by decide +kernel) ⟨Nat.le_of_ble_eq_true rfl, Nat.le_of_ble_eq_true rfl⟩) 5 rfl rfl rfl (ap1 (mf (mf (mf (mf (mf (mf (mf (mf (mf (mf (mf (mf (mf mf0)))))))))))))) (fun u => (ap1 (mf (mf (mf (mf (mf (mf (mf (mf (mf (mf (mf (mf (mf mf0))))))))))))))) rfl hl.1 rfl (Nat.le_of_ble_eq_true rfl) ⟨Nat.le_of_ble_eq_true rfl, Nat.le_of_ble_eq_true rfl⟩ dL_law_909 (fun r4 u5 H locs w909 hW => ?_)
  obtain ⟨o1_3, o1_3e⟩ : ∃ z, z = u5 := ⟨_, rfl⟩
  subst o1_3e
  have hW : Wd D A s.heap H locs (wX cI cZ xq xa (sF xg 6 (fCopy (fun z => tg z 0) (mF 26) (fun z => tg z 2) (xs (i + 1)) (xs (i + 2)) (xs (i + 3)) (xs (i + 4)) (xs (i + 5)))) xh ++ (wA cO (xa 0) ys ++ (wC cI cZ (xa 1) ca cg cF ++ (wC cI cZ (xa 2) da dg dF ++ (wR cI cZ (xa 3) ra rg rF rE ++ (wS cI cZ (xa 4) za zg zh zk zF ++ (wT cI cZ (ys 0) (ta 0) (tg 0) ++ (wB cI ((ta 0) 3) (tf 0) ++ (wT cI cZ (ys 1) (ta 1) (tg 1) ++ (wB cI ((ta 1) 3) (tf 1) ++ (wT cI cZ (ys 2) (ta 2) (tg 2) ++ (wB cI ((ta 2) 3) (onR (xs (i + 1)) 4 (tf 2) (fun _ => onR (xs (i + 3)) 4 (tf 2) (fun _ => if copF (fun z => tg z 0) (mF 26) (fun z => tg z 2) 3 2 (xs (i + 2)) (xs (i + 4)) (xs (i + 5)) = 0 then mv (tf 2) (tf 3) (xs (i + 4)).toNatClampNeg (xs (i + 2)).toNatClampNeg (xs (i + 5)).toNatClampNeg else (tf 2)))) ++ (wT cI cZ (ys 3) (ta 3) (tg 3) ++ (wB cI ((ta 3) 3) (tf 3) ++ (wM cI cZ mq ma (sF mg 0 (fCopy (fun z => tg z 0) ((mF 26)) (fun z => tg z 2) (xs (i + 1)) (xs (i + 2)) (xs (i + 3)) (xs (i + 4)) (xs (i + 5)))) mh mF (sF (sF mE 27 (sCopy (fun z => tg z 0) ((mF 26)) (fun z => tg z 2) (xs (i + 1)) (xs (i + 2)) (xs (i + 3)) (xs (i + 4)) (xs (i + 5)) ((mE 27)))) 28 o1_3)))))))))))))))) := hW
  replace w909 : r4 = aCopy (fun z => tg z 0) ((mF 26)) (fun z => tg z 2) (xs (i + 1)) (xs (i + 2)) (xs (i + 3)) (xs (i + 4)) (xs (i + 5)) := w909
  subst w909
  refine x_icmp_eq X 1045 dL_law_912 (by decide) (fun c912 => ?_) (fun c912 => by exact absurd (by (try rw [e1]); (try rw [e2]); (try rw [e3]); (try rw [e4]); (try rw [e5]); (try rw [f1]); (try rw [f2]); (try rw [f3]); (try rw [f4]); (try rfl)) c912)
  exact next _ _ _ ⟨xa, (sF xg 6 (fCopy (fun z => tg z 0) (mF 26) (fun z => tg z 2) (xs (i + 1)) (xs (i + 2)) (xs (i + 3)) (xs (i + 4)) (xs (i + 5)))), xh, ys, ca, cg, cF, da, dg, dF, ra, rg, rF, rE, za, zg, zh, zk, zF, ma, (sF mg 0 (fCopy (fun z => tg z 0) ((mF 26)) (fun z => tg z 2) (xs (i + 1)) (xs (i + 2)) (xs (i + 3)) (xs (i + 4)) (xs (i + 5)))), mh, mF, (sF (sF mE 27 (sCopy (fun z => tg z 0) ((mF 26)) (fun z => tg z 2) (xs (i + 1)) (xs (i + 2)) (xs (i + 3)) (xs (i + 4)) (xs (i + 5)) ((mE 27)))) 28 o1_3), ta, tg, (sF tf 2 (onR (xs (i + 1)) 4 (tf 2) (fun _ => onR (xs (i + 3)) 4 (tf 2) (fun _ => if copF (fun z => tg z 0) (mF 26) (fun z => tg z 2) 3 2 (xs (i + 2)) (xs (i + 4)) (xs (i + 5)) = 0 then mv (tf 2) (tf 3) (xs (i + 4)).toNatClampNeg (xs (i + 2)).toNatClampNeg (xs (i + 5)).toNatClampNeg else (tf 2))))), hW, hRC, hRR, hRD, hSK, RT_copy hRT (show 3 < 4 by decide) (show 2 < 4 by decide) hkj hoj, ⟨hRX.1, rfl⟩, hRM⟩ (lv_sub hl [0, 1, 2, 3] rfl)
set_option maxHeartbeats 4000000 in
set_option maxRecDepth 100000 in
theorem law_copy_3_3 {p : Program} {e : Env} {s : State} {m : MethodId} {below : List Frame} {meth : Method} {c : Code} {D : va_G} {cI cZ cO : ClassId} {A : Nat → Prop} {Q : State → Prop} {l : Launch} {b L xq mq i : Nat} {xs : Nat → Int32} {H : Heap} {locs : List Loc} {ls : Array Slot} (X : Fx p s m #[Value.ref b] meth c code 4 ret wsL_law RL D (ty3 cI cZ cO) A) (hX : va_X b L xs s s.heap) (hbl : b < s.heap.size) (hbA : ¬ A b) (hL : L ≤ 3072) (hi : i + 6 ≤ L) (hI : lw_I D cI cZ cO A s.heap xq mq H locs) (hl : lv_has ls 4 [(3, .int (nI i)), (2, .ref mq), (1, .ref xq), (0, .ref b)]) (hkj : xs (i + 1) = nI 3) (hoj : xs (i + 3) = nI 3) (next : ∀ (H : Heap) (locs : List Loc) (ls : Array Slot), lw_I D cI cZ cO A s.heap xq mq H locs → lv_has ls 4 [(3, .int (nI i)), (2, .ref mq), (1, .ref xq), (0, .ref b)] → W p l e room_1 s m #[Value.ref b] below meth c H locs 600000 7302250 Q (F0 m 1045 ls [])) : W p l e room_1 s m #[Value.ref b] below meth c H locs 600000 7302250 Q (F0 m 854 ls []) := by
  obtain ⟨xa, xg, xh, ys, ca, cg, cF, da, dg, dF, ra, rg, rF, rE, za, zg, zh, zk, zF, ma, mg, mh, mF, mE, ta, tg, tf, hW, hRC, hRR, hRD, hSK, hRT, hRX, hRM⟩ := hI
  have hW : Wd D A s.heap H locs (wX cI cZ xq xa xg xh ++ (wA cO (xa 0) ys ++ (wC cI cZ (xa 1) ca cg cF ++ (wC cI cZ (xa 2) da dg dF ++ (wR cI cZ (xa 3) ra rg rF rE ++ (wS cI cZ (xa 4) za zg zh zk zF ++ (wT cI cZ (ys 0) (ta 0) (tg 0) ++ (wB cI ((ta 0) 3) (tf 0) ++ (wT cI cZ (ys 1) (ta 1) (tg 1) ++ (wB cI ((ta 1) 3) (tf 1) ++ (wT cI cZ (ys 2) (ta 2) (tg 2) ++ (wB cI ((ta 2) 3) (tf 2) ++ (wT cI cZ (ys 3) (ta 3) (tg 3) ++ (wB cI ((ta 3) 3) (tf 3) ++ (wM cI cZ mq ma mg mh mF mE))))))))))))))) := hW
  obtain ⟨h02, hn, hrn, hk, hlv, hm, e2, e1, e3, e4, e5⟩ := id hRC
  obtain ⟨hrc, hro, hra, hrd, f1, f2, f3, f4⟩ := id hRR
  obtain ⟨hdn, hdr, hdk, hdl, hdm⟩ := id hRD
  obtain ⟨ht0, ht1, ht2, htl, hts, htc⟩ := id hRT
  refine x_aload_n X dL_law_854 rfl (lv_at hl 2 rfl) ?_
  refine x_aload_n X dL_law_855 rfl (lv_at hl 3 rfl) ?_
  refine x_iload_n X dL_law_856 rfl (lv_at hl 0 rfl) ?_
  refine x_iconst (v := nI 1) X dL_law_857 (by decide) ?_
  refine n_iadd X dL_law_858 ?_
  refine x_sld X hW hX hbl hbA (j := i + 1) (by omega) (by omega) dL_law_859 ?_
  refine x_aload_n X dL_law_860 rfl (lv_at hl 3 rfl) ?_
  refine x_iload_n X dL_law_861 rfl (lv_at hl 0 rfl) ?_
  refine x_iconst (v := nI 2) X dL_law_862 (by decide) ?_
  refine n_iadd X dL_law_863 ?_
  refine x_sld X hW hX hbl hbA (j := i + 2) (by omega) (by omega) dL_law_864 ?_
  refine x_aload_n X dL_law_865 rfl (lv_at hl 3 rfl) ?_
  refine x_iload_n X dL_law_866 rfl (lv_at hl 0 rfl) ?_
  refine x_iconst (v := nI 3) X dL_law_867 (by decide) ?_
  refine n_iadd X dL_law_868 ?_
  refine x_sld X hW hX hbl hbA (j := i + 3) (by omega) (by omega) dL_law_869 ?_
  refine x_aload_n X dL_law_870 rfl (lv_at hl 3 rfl) ?_
  refine x_iload_n X dL_law_871 rfl (lv_at hl 0 rfl) ?_
  refine x_iconst (v := nI 4) X dL_law_872 (by decide) ?_
  refine n_iadd X dL_law_873 ?_
  refine x_sld X hW hX hbl hbA (j := i + 4) (by omega) (by omega) dL_law_874 ?_
  refine x_aload_n X dL_law_875 rfl (lv_at hl 3 rfl) ?_
  refine x_iload_n X dL_law_876 rfl (lv_at hl 0 rfl) ?_
  refine x_iconst (v := nI 5) X dL_law_877 (by decide) ?_
  refine n_iadd X dL_law_878 ?_
  refine x_sld X hW hX hbl hbA (j := i + 5) (by omega) (by omega) dL_law_879 ?_
  refine x_pcallVi X hW (As := [.int (xs (i + 1)), .int (xs (i + 2)), .int (xs (i + 3)), .int (xs (i + 4)), .int (xs (i + 5))]) (rest := []) (wz := fun u => (wX cI cZ xq xa (sF xg 6 (fCopy (fun z => tg z 0) (mF 26) (fun z => tg z 2) (xs (i + 1)) (xs (i + 2)) (xs (i + 3)) (xs (i + 4)) (xs (i + 5)))) xh ++ (wA cO (xa 0) ys ++ (wC cI cZ (xa 1) ca cg cF ++ (wC cI cZ (xa 2) da dg dF ++ (wR cI cZ (xa 3) ra rg rF rE ++ (wS cI cZ (xa 4) za zg zh zk zF ++ (wT cI cZ (ys 0) (ta 0) (tg 0) ++ (wB cI ((ta 0) 3) (tf 0) ++ (wT cI cZ (ys 1) (ta 1) (tg 1) ++ (wB cI ((ta 1) 3) (tf 1) ++ (wT cI cZ (ys 2) (ta 2) (tg 2) ++ (wB cI ((ta 2) 3) (tf 2) ++ (wT cI cZ (ys 3) (ta 3) (tg 3) ++ (wB cI ((ta 3) 3) (onR (xs (i + 1)) 4 (tf 3) (fun _ => onR (xs (i + 3)) 4 (tf 3) (fun _ => if copF (fun z => tg z 0) (mF 26) (fun z => tg z 2) 3 3 (xs (i + 2)) (xs (i + 4)) (xs (i + 5)) = 0 then mv (tf 3) (tf 3) (xs (i + 4)).toNatClampNeg (xs (i + 2)).toNatClampNeg (xs (i + 5)).toNatClampNeg else (tf 3)))) ++ (wM cI cZ mq ma mg mh mF mE)))))))))))))))) (wC cI cZ (xa 1) ca cg cF ++ (wC cI cZ (xa 2) da dg dF ++ (wR cI cZ (xa 3) ra rg rF rE ++ (wS cI cZ (xa 4) za zg zh zk zF ++ (wT cI cZ (ys 0) (ta 0) (tg 0) ++ (wB cI ((ta 0) 3) (tf 0) ++ (wT cI cZ (ys 1) (ta 1) (tg 1) ++ (wB cI ((ta 1) 3) (tf 1) ++ (wT cI cZ (ys 2) (ta 2) (tg 2) ++ (wB cI ((ta 2) 3) (tf 2) ++ (wM cI cZ mq ma mg mh mF mE))))))))))) (c_X5_copyS l D cI cZ cO xq xa xg xh ys (ta 3) (tg 3) (tf 3) _ (xs (i + 1)) (xs (i + 2)) (xs (i + 3)) (xs (i + 4)) (xs (i + 5)) 3 (fun z => tg z 0) (mF 26) (fun z => tg z 2) (show 3 < 4 from (by decide)) (show ((tg 3) 2) ≤ 60 from ht2 3) (show ((tg 3) 0) ≤ 1 from ht0 3) (show ((tg 3) 1) ≤ 2 from ht1 3) (show (fun z => tg z 0) 3 = ((tg 3) 0) from rfl) (show (mF 26) 3 = ((tg 3) 1) from htl 3) (show (fun z => tg z 2) 3 = ((tg 3) 2) from rfl) (show (xs (i + 1)) = nI 3 from hkj) (show (xs (i + 3)) = nI 3 from hoj)) (cwV 5 X.2.2.2.2.2.1 gL_law_X5_copy rfl rfl rfl (by decide +kernel) ⟨Nat.le_of_ble_eq_true rfl, Nat.le_of_ble_eq_true rfl⟩) 4 rfl rfl rfl (apn (mfr _ _) (apn (mfr _ _) (apn (mf (mf (mf (mf (mf (mf (mf (mf (mf (mf (mfr _ _))))))))))) (mf (mf (mf (mf (mf (mf (mf (mf (mf (mf (mfr _ _)))))))))))))) (fun u => (apn (mfr _ _) (apn (mfr _ _) (apn (mf (mf (mf (mf (mf (mf (mf (mf (mf (mf (mfr _ _))))))))))) (mf (mf (mf (mf (mf (mf (mf (mf (mf (mf (mfr _ _))))))))))))))) rfl hl.1 rfl (Nat.le_of_ble_eq_true rfl) ⟨Nat.le_of_ble_eq_true rfl, Nat.le_of_ble_eq_true rfl⟩ dL_law_880 (fun r1 u2 H locs w880 hW => ?_)
  have hW : Wd D A s.heap H locs (wX cI cZ xq xa (sF xg 6 (fCopy (fun z => tg z 0) (mF 26) (fun z => tg z 2) (xs (i + 1)) (xs (i + 2)) (xs (i + 3)) (xs (i + 4)) (xs (i + 5)))) xh ++ (wA cO (xa 0) ys ++ (wC cI cZ (xa 1) ca cg cF ++ (wC cI cZ (xa 2) da dg dF ++ (wR cI cZ (xa 3) ra rg rF rE ++ (wS cI cZ (xa 4) za zg zh zk zF ++ (wT cI cZ (ys 0) (ta 0) (tg 0) ++ (wB cI ((ta 0) 3) (tf 0) ++ (wT cI cZ (ys 1) (ta 1) (tg 1) ++ (wB cI ((ta 1) 3) (tf 1) ++ (wT cI cZ (ys 2) (ta 2) (tg 2) ++ (wB cI ((ta 2) 3) (tf 2) ++ (wT cI cZ (ys 3) (ta 3) (tg 3) ++ (wB cI ((ta 3) 3) (onR (xs (i + 1)) 4 (tf 3) (fun _ => onR (xs (i + 3)) 4 (tf 3) (fun _ => if copF (fun z => tg z 0) (mF 26) (fun z => tg z 2) 3 3 (xs (i + 2)) (xs (i + 4)) (xs (i + 5)) = 0 then mv (tf 3) (tf 3) (xs (i + 4)).toNatClampNeg (xs (i + 2)).toNatClampNeg (xs (i + 5)).toNatClampNeg else (tf 3)))) ++ (wM cI cZ mq ma mg mh mF mE))))))))))))))) := hW
  replace w880 : r1 = aCopy (fun z => tg z 0) (mF 26) (fun z => tg z 2) (xs (i + 1)) (xs (i + 2)) (xs (i + 3)) (xs (i + 4)) (xs (i + 5)) := w880
  subst w880
  refine x_aload_n X dL_law_883 rfl (lv_at hl 1 rfl) ?_
  refine x_aload_n X dL_law_884 rfl (lv_at hl 3 rfl) ?_
  refine x_iload_n X dL_law_885 rfl (lv_at hl 0 rfl) ?_
  refine x_iconst (v := nI 1) X dL_law_886 (by decide) ?_
  refine n_iadd X dL_law_887 ?_
  refine x_sld X hW hX hbl hbA (j := i + 1) (by omega) (by omega) dL_law_888 ?_
  refine x_aload_n X dL_law_889 rfl (lv_at hl 3 rfl) ?_
  refine x_iload_n X dL_law_890 rfl (lv_at hl 0 rfl) ?_
  refine x_iconst (v := nI 2) X dL_law_891 (by decide) ?_
  refine n_iadd X dL_law_892 ?_
  refine x_sld X hW hX hbl hbA (j := i + 2) (by omega) (by omega) dL_law_893 ?_
  refine x_aload_n X dL_law_894 rfl (lv_at hl 3 rfl) ?_
  refine x_iload_n X dL_law_895 rfl (lv_at hl 0 rfl) ?_
  refine x_iconst (v := nI 3) X dL_law_896 (by decide) ?_
  refine n_iadd X dL_law_897 ?_
  refine x_sld X hW hX hbl hbA (j := i + 3) (by omega) (by omega) dL_law_898 ?_
  refine x_aload_n X dL_law_899 rfl (lv_at hl 3 rfl) ?_
  refine x_iload_n X dL_law_900 rfl (lv_at hl 0 rfl) ?_
  refine x_iconst (v := nI 4) X dL_law_901 (by decide) ?_
  refine n_iadd X dL_law_902 ?_
  refine x_sld X hW hX hbl hbA (j := i + 4) (by omega) (by omega) dL_law_903 ?_
  refine x_aload_n X dL_law_904 rfl (lv_at hl 3 rfl) ?_
  refine x_iload_n X dL_law_905 rfl (lv_at hl 0 rfl) ?_
  refine x_iconst (v := nI 5) X dL_law_906 (by decide) ?_
  refine n_iadd X dL_law_907 ?_
  refine x_sld X hW hX hbl hbA (j := i + 5) (by omega) (by omega) dL_law_908 ?_
  refine x_pcallVi X hW (As := [.int (xs (i + 1)), .int (xs (i + 2)), .int (xs (i + 3)), .int (xs (i + 4)), .int (xs (i + 5))]) (rest := [.int (aCopy (fun z => tg z 0) (mF 26) (fun z => tg z 2) (xs (i + 1)) (xs (i + 2)) (xs (i + 3)) (xs (i + 4)) (xs (i + 5)))]) (wz := fun u => (wX cI cZ xq xa (sF xg 6 (fCopy (fun z => tg z 0) (mF 26) (fun z => tg z 2) (xs (i + 1)) (xs (i + 2)) (xs (i + 3)) (xs (i + 4)) (xs (i + 5)))) xh ++ (wA cO (xa 0) ys ++ (wC cI cZ (xa 1) ca cg cF ++ (wC cI cZ (xa 2) da dg dF ++ (wR cI cZ (xa 3) ra rg rF rE ++ (wS cI cZ (xa 4) za zg zh zk zF ++ (wT cI cZ (ys 0) (ta 0) (tg 0) ++ (wB cI ((ta 0) 3) (tf 0) ++ (wT cI cZ (ys 1) (ta 1) (tg 1) ++ (wB cI ((ta 1) 3) (tf 1) ++ (wT cI cZ (ys 2) (ta 2) (tg 2) ++ (wB cI ((ta 2) 3) (tf 2) ++ (wT cI cZ (ys 3) (ta 3) (tg 3) ++ (wB cI ((ta 3) 3) (onR (xs (i + 1)) 4 (tf 3) (fun _ => onR (xs (i + 3)) 4 (tf 3) (fun _ => if copF (fun z => tg z 0) (mF 26) (fun z => tg z 2) 3 3 (xs (i + 2)) (xs (i + 4)) (xs (i + 5)) = 0 then mv (tf 3) (tf 3) (xs (i + 4)).toNatClampNeg (xs (i + 2)).toNatClampNeg (xs (i + 5)).toNatClampNeg else (tf 3)))) ++ (wM cI cZ mq ma (sF mg 0 (fCopy (fun z => tg z 0) ((mF 26)) (fun z => tg z 2) (xs (i + 1)) (xs (i + 2)) (xs (i + 3)) (xs (i + 4)) (xs (i + 5)))) mh mF (sF (sF mE 27 (sCopy (fun z => tg z 0) ((mF 26)) (fun z => tg z 2) (xs (i + 1)) (xs (i + 2)) (xs (i + 3)) (xs (i + 4)) (xs (i + 5)) ((mE 27)))) 28 u))))))))))))))))) (wX cI cZ xq xa (sF xg 6 (fCopy (fun z => tg z 0) (mF 26) (fun z => tg z 2) (xs (i + 1)) (xs (i + 2)) (xs (i + 3)) (xs (i + 4)) (xs (i + 5)))) xh ++ (wA cO (xa 0) ys ++ (wC cI cZ (xa 1) ca cg cF ++ (wC cI cZ (xa 2) da dg dF ++ (wR cI cZ (xa 3) ra rg rF rE ++ (wS cI cZ (xa 4) za zg zh zk zF ++ (wT cI cZ (ys 0) (ta 0) (tg 0) ++ (wB cI ((ta 0) 3) (tf 0) ++ (wT cI cZ (ys 1) (ta 1) (tg 1) ++ (wB cI ((ta 1) 3) (tf 1) ++ (wT cI cZ (ys 2) (ta 2) (tg 2) ++ (wB cI ((ta 2) 3) (tf 2) ++ (wT cI cZ (ys 3) (ta 3) (tg 3) ++ (wB cI ((ta 3) 3) (onR (xs (i + 1)) 4 (tf 3) (fun _ => onR (xs (i + 3)) 4 (tf 3) (fun _ => if copF (fun z => tg z 0) (mF 26) (fun z => tg z 2) 3 3 (xs (i + 2)) (xs (i + 4)) (xs (i + 5)) = 0 then mv (tf 3) (tf 3) (xs (i + 4)).toNatClampNeg (xs (i + 2)).toNatClampNeg (xs (i + 5)).toNatClampNeg else (tf 3)))))))))))))))))) (c_X6_copy l D cI cZ cO mq ma mg mh mF mE _ (xs (i + 1)) (xs (i + 2)) (xs (i + 3)) (xs (i + 4)) (xs (i + 5)) (fun z => tg z 0) (fun z => tg z 2) (show ∀ z, z < 4 → ((fun z => tg z 0) z = 0 ∧ (mE 25) z = (-1 : Int32)) ∨ ((fun z => tg z 0) z = 1 ∧ (mE 25) z = nI ((fun z => tg z 2) z)) from hts) (show ∀ z0, (fun z => tg z 2) z0 ≤ 60 from ht2) (show ∀ z0, (mF 26) z0 ≤ 2 from (fun z => by rw [htl]; exact ht1 z))) (cwV 5 X.2.2.2.2.2.1 gL_law_X6_copy rfl rfl rfl (by decide +kernel) ⟨Nat.le_of_ble_eq_true rfl, Nat.le_of_ble_eq_true rfl⟩) 5 rfl rfl rfl (ap1 (mf (mf (mf (mf (mf (mf (mf (mf (mf (mf (mf (mf (mf mf0)))))))))))))) (fun u => (ap1 (mf (mf (mf (mf (mf (mf (mf (mf (mf (mf (mf (mf (mf mf0))))))))))))))) rfl hl.1 rfl (Nat.le_of_ble_eq_true rfl) ⟨Nat.le_of_ble_eq_true rfl, Nat.le_of_ble_eq_true rfl⟩ dL_law_909 (fun r4 u5 H locs w909 hW => ?_)
  obtain ⟨o1_3, o1_3e⟩ : ∃ z, z = u5 := ⟨_, rfl⟩
  subst o1_3e
  have hW : Wd D A s.heap H locs (wX cI cZ xq xa (sF xg 6 (fCopy (fun z => tg z 0) (mF 26) (fun z => tg z 2) (xs (i + 1)) (xs (i + 2)) (xs (i + 3)) (xs (i + 4)) (xs (i + 5)))) xh ++ (wA cO (xa 0) ys ++ (wC cI cZ (xa 1) ca cg cF ++ (wC cI cZ (xa 2) da dg dF ++ (wR cI cZ (xa 3) ra rg rF rE ++ (wS cI cZ (xa 4) za zg zh zk zF ++ (wT cI cZ (ys 0) (ta 0) (tg 0) ++ (wB cI ((ta 0) 3) (tf 0) ++ (wT cI cZ (ys 1) (ta 1) (tg 1) ++ (wB cI ((ta 1) 3) (tf 1) ++ (wT cI cZ (ys 2) (ta 2) (tg 2) ++ (wB cI ((ta 2) 3) (tf 2) ++ (wT cI cZ (ys 3) (ta 3) (tg 3) ++ (wB cI ((ta 3) 3) (onR (xs (i + 1)) 4 (tf 3) (fun _ => onR (xs (i + 3)) 4 (tf 3) (fun _ => if copF (fun z => tg z 0) (mF 26) (fun z => tg z 2) 3 3 (xs (i + 2)) (xs (i + 4)) (xs (i + 5)) = 0 then mv (tf 3) (tf 3) (xs (i + 4)).toNatClampNeg (xs (i + 2)).toNatClampNeg (xs (i + 5)).toNatClampNeg else (tf 3)))) ++ (wM cI cZ mq ma (sF mg 0 (fCopy (fun z => tg z 0) ((mF 26)) (fun z => tg z 2) (xs (i + 1)) (xs (i + 2)) (xs (i + 3)) (xs (i + 4)) (xs (i + 5)))) mh mF (sF (sF mE 27 (sCopy (fun z => tg z 0) ((mF 26)) (fun z => tg z 2) (xs (i + 1)) (xs (i + 2)) (xs (i + 3)) (xs (i + 4)) (xs (i + 5)) ((mE 27)))) 28 o1_3)))))))))))))))) := hW
  replace w909 : r4 = aCopy (fun z => tg z 0) ((mF 26)) (fun z => tg z 2) (xs (i + 1)) (xs (i + 2)) (xs (i + 3)) (xs (i + 4)) (xs (i + 5)) := w909
  subst w909
  refine x_icmp_eq X 1045 dL_law_912 (by decide) (fun c912 => ?_) (fun c912 => by exact absurd (by (try rw [e1]); (try rw [e2]); (try rw [e3]); (try rw [e4]); (try rw [e5]); (try rw [f1]); (try rw [f2]); (try rw [f3]); (try rw [f4]); (try rfl)) c912)
  exact next _ _ _ ⟨xa, (sF xg 6 (fCopy (fun z => tg z 0) (mF 26) (fun z => tg z 2) (xs (i + 1)) (xs (i + 2)) (xs (i + 3)) (xs (i + 4)) (xs (i + 5)))), xh, ys, ca, cg, cF, da, dg, dF, ra, rg, rF, rE, za, zg, zh, zk, zF, ma, (sF mg 0 (fCopy (fun z => tg z 0) ((mF 26)) (fun z => tg z 2) (xs (i + 1)) (xs (i + 2)) (xs (i + 3)) (xs (i + 4)) (xs (i + 5)))), mh, mF, (sF (sF mE 27 (sCopy (fun z => tg z 0) ((mF 26)) (fun z => tg z 2) (xs (i + 1)) (xs (i + 2)) (xs (i + 3)) (xs (i + 4)) (xs (i + 5)) ((mE 27)))) 28 o1_3), ta, tg, (sF tf 3 (onR (xs (i + 1)) 4 (tf 3) (fun _ => onR (xs (i + 3)) 4 (tf 3) (fun _ => if copF (fun z => tg z 0) (mF 26) (fun z => tg z 2) 3 3 (xs (i + 2)) (xs (i + 4)) (xs (i + 5)) = 0 then mv (tf 3) (tf 3) (xs (i + 4)).toNatClampNeg (xs (i + 2)).toNatClampNeg (xs (i + 5)).toNatClampNeg else (tf 3))))), hW, hRC, hRR, hRD, hSK, RT_copy hRT (show 3 < 4 by decide) (show 3 < 4 by decide) (Or.inr hkj) (Or.inr hoj), ⟨hRX.1, rfl⟩, hRM⟩ (lv_sub hl [0, 1, 2, 3] rfl)
theorem law_copy {p : Program} {e : Env} {s : State} {m : MethodId} {below : List Frame} {meth : Method} {c : Code} {D : va_G} {cI cZ cO : ClassId} {A : Nat → Prop} {Q : State → Prop} {l : Launch} {b L xq mq i : Nat} {xs : Nat → Int32} {H : Heap} {locs : List Loc} {ls : Array Slot} (X : Fx p s m #[Value.ref b] meth c code 4 ret wsL_law RL D (ty3 cI cZ cO) A) (hX : va_X b L xs s s.heap) (hbl : b < s.heap.size) (hbA : ¬ A b) (hL : L ≤ 3072) (hi : i + 6 ≤ L) (hI : lw_I D cI cZ cO A s.heap xq mq H locs) (hl : lv_has ls 4 [(3, .int (nI i)), (2, .ref mq), (1, .ref xq), (0, .ref b)]) (next : ∀ (H : Heap) (locs : List Loc) (ls : Array Slot), lw_I D cI cZ cO A s.heap xq mq H locs → lv_has ls 4 [(3, .int (nI i)), (2, .ref mq), (1, .ref xq), (0, .ref b)] → W p l e room_1 s m #[Value.ref b] below meth c H locs 600000 7302250 Q (F0 m 1045 ls [])) : W p l e room_1 s m #[Value.ref b] below meth c H locs 600000 7302250 Q (F0 m 854 ls []) := by
  rcases k5 (xs (i + 1)) with h | h | h | h | h <;> rcases k5 (xs (i + 3)) with g | g | g | g | g
  · exact law_copy_0_1 X hX hbl hbA hL hi hI hl (Or.inl h) (Or.inl g) next
  · exact law_copy_1_0 X hX hbl hbA hL hi hI hl (Or.inl h) (Or.inr g) next
  · exact law_copy_2_1 X hX hbl hbA hL hi hI hl (Or.inl h) (Or.inr g) next
  · exact law_copy_3_2 X hX hbl hbA hL hi hI hl (Or.inl h) (Or.inr g) next
  · exact law_copy_0_3 X hX hbl hbA hL hi hI hl (Or.inl h) (Or.inr g) next
  · exact law_copy_0_1 X hX hbl hbA hL hi hI hl (Or.inr h) (Or.inl g) next
  · exact law_copy_0_0 X hX hbl hbA hL hi hI hl h g next
  · exact law_copy_0_1 X hX hbl hbA hL hi hI hl (Or.inr h) (Or.inr g) next
  · exact law_copy_0_2 X hX hbl hbA hL hi hI hl (Or.inr h) (Or.inr g) next
  · exact law_copy_0_3 X hX hbl hbA hL hi hI hl (Or.inr h) (Or.inr g) next
  · exact law_copy_1_2 X hX hbl hbA hL hi hI hl (Or.inr h) (Or.inl g) next
  · exact law_copy_1_0 X hX hbl hbA hL hi hI hl (Or.inr h) (Or.inr g) next
  · exact law_copy_1_1 X hX hbl hbA hL hi hI hl h g next
  · exact law_copy_1_2 X hX hbl hbA hL hi hI hl (Or.inr h) (Or.inr g) next
  · exact law_copy_1_3 X hX hbl hbA hL hi hI hl (Or.inr h) (Or.inr g) next
  · exact law_copy_2_3 X hX hbl hbA hL hi hI hl (Or.inr h) (Or.inl g) next
  · exact law_copy_2_0 X hX hbl hbA hL hi hI hl (Or.inr h) (Or.inr g) next
  · exact law_copy_2_1 X hX hbl hbA hL hi hI hl (Or.inr h) (Or.inr g) next
  · exact law_copy_2_2 X hX hbl hbA hL hi hI hl h g next
  · exact law_copy_2_3 X hX hbl hbA hL hi hI hl (Or.inr h) (Or.inr g) next
  · exact law_copy_3_0 X hX hbl hbA hL hi hI hl (Or.inr h) (Or.inl g) next
  · exact law_copy_3_0 X hX hbl hbA hL hi hI hl (Or.inr h) (Or.inr g) next
  · exact law_copy_3_1 X hX hbl hbA hL hi hI hl (Or.inr h) (Or.inr g) next
  · exact law_copy_3_2 X hX hbl hbA hL hi hI hl (Or.inr h) (Or.inr g) next
  · exact law_copy_3_3 X hX hbl hbA hL hi hI hl h g next

