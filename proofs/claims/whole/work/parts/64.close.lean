/-! the class: loseOf, giveUp -/
section
variable {s : VS} {pp : Int32} {n lo na p q : Nat}
theorem aboard_iff (hI : IV pp s n lo na p) (hJ : JV q s n na p) {i : Nat} (hi : i < n) : (s.2.1 5 i = -1 ∨ (vWr q s = 0 ∧ s.1 0 < s.2.1 5 i)) ↔ ¬ s.2.1 8 i = 0 := by
  have := aboard_val hI hJ hi
  by_cases hc : s.2.1 5 i = -1 ∨ (vWr q s = 0 ∧ s.1 0 < s.2.1 5 i)
  · rw [if_pos hc] at this
    exact ⟨fun _ z => by rw [z] at this; exact absurd this (by decide), fun _ => hc⟩
  · rw [if_neg hc] at this
    exact ⟨fun z => absurd z hc, fun z => absurd this.symm z⟩
theorem vTake_self (hI : IV pp s n lo na p) {j : Nat} (hj : j < n) (y : Int32) : vTake s j y 2 j = s.2.1 2 j - y := by
  unfold vTake
  split
  · simp [u2]
  · next hne =>
    obtain ⟨-, hfr, -⟩ := hI.2.2.2.2.2.2.2 j hj
    rcases hfr with hfr | ⟨hk1, hfr, -, -⟩
    · exact absurd hfr hne
    · have hcl : (s.2.1 7 j).toNatClampNeg = j + 1 := by rw [hfr]; exact jn_cl (show j + 1 < 81 by have := IV_81 hI; omega) (by decide)
      rw [hcl]
      simp [u2]
end
section
variable {g d : Nat} {h : jd_H} {Q : jd_Q} {tg aj : Nat → Nat} {ad : Nat → Nat → Nat} {v q : Nat} {po w0 : Int32} {l : List Ev} {x y : Int32}
set_option maxRecDepth 100000 in
theorem k_loseOf (c : cVoy h tg ad aj v po w0 q l) (cJ : cVJ h tg aj) (hl : l.length ≤ 511) (hQ0 : vDo (nI q) po (rep (nI q) po w0 l) (ev7 5 x y 0 0 0 0) = none → Q (some (.int (-1))) h) (hQ1 : ∀ r s' h' tg' ad', vDo (nI q) po (rep (nI q) po w0 l) (ev7 5 x y 0 0 0 0) = some (r, s') → cVoy h' tg' ad' aj v po w0 q ((ev7 5 x y 0 0 0 0) :: l) → ad' 0 0 = ad 0 0 → cVJ h' tg' aj → AG (PV v) h h' tg tg' → Q (some (.int r)) h') : jd_WM g (d + 9) 31 [.ref (ad 0 0), .int x, .int y] h Q := by
  refine ⟨Nat.le_of_ble_eq_true rfl, ?_⟩; show jd_w g (d + 8) 31 Q 0 [some (.ref (ad 0 0)), some (.int x), some (.int y), none] [] h 2 805
  obtain ⟨n, lo, na, p, hI, hJ⟩ := cVoy_IJ c
  obtain ⟨⟨hV, hO, hK⟩, c0, cI, cA, cE, cS, cW, cR⟩ := c
  generalize hs : rep (nI q) po w0 l = s at hI hJ c0 cI cA cR hQ0 hQ1
  have hn81 := IV_81 hI
  have hcn := IV_cn hI
  have hca := IV_ca hI
  have hna := hI.2.2.1.2
  rw [hcn] at cI
  rw [hca] at cA
  obtain ⟨⟨kV, tV⟩, ⟨r448, r449, r450, r451, r454⟩, ⟨i452, i453⟩, i455, i456, i457, i458, i459⟩ := id c0
  have h10 : ¬ (1 : Int32) = 0 := by decide
  rw [fS_2] at i457
  rw [fS_0] at i455
  rw [fS_3] at i458
  simp only [e31_0, e31_1, e31_2, o_iload, o_lload, o_aload, o_istore, o_lstore, o_astore, o_iinc, o_ipush, o_lpush, o_null, o_ibin, o_ineg, o_lbin, o_ldv, o_lneg, o_lcmp, o_i2l, o_l2i, o_dup, o_pop, o_dupx, o_dup2, o_ic, o_iz, o_nul, o_acmp, o_tsw, o_gI, o_gR, o_pI, o_pZ, o_pR, o_iald, o_bald, o_lald, o_aald, o_iast, o_bast, o_last, o_aast, o_alen, o_newa, o_new, o_mna, o_cast, o_calls, o_callv, o_calli, o_oinit, o_getC, o_refp, o_cpi, o_cpo, o_mmax, o_mmin, o_lmin, o_iret, o_zret, o_lret, o_aret, o_vret, jd_lo, jd_la, jd_nl, jd_pop, List.length_cons, List.length_nil, List.set_cons_zero, List.set_cons_succ, List.getElem?_cons_zero, List.getElem?_cons_succ, List.replicate_succ, List.replicate_zero, List.cons_append, List.nil_append, List.append_nil, Value.category, Option.toList, va_rf, true_implies, false_implies, false_and, and_false, and_true, true_and, and_self, true_or, or_true, false_or, or_false, not_true_eq_false, not_false_eq_true, forall_const, implies_true, if_true, if_false, reduceCtorEq, reduceIte, Nat.reduceAdd, Nat.reduceMul, Nat.reduceSub, Nat.reduceDiv, Nat.reduceMod, Nat.reduceEqDiff, Nat.reduceLeDiff, Nat.reduceLT, Nat.zero_le, Nat.lt_add_one, Nat.le_refl, Nat.sub_zero, Nat.zero_lt_succ, ge_iff_le, ji_m2, ji_m1, ji_0, ji_1, ji_2, ji_3, ji_4, ji_5, ji_6, ji_7, ji_8, ji_10, ji_12, ji_29, ji_30, ji_31, ji_40, ji_60, ji_70, ji_80, ji_81, ji_360, ji_512, ji_972, ji_1000000, ji_2147483639, jl_m1, jl_0, jl_1, kV]
  refine k_iAt (d := d + 4) kV r448 cI.1 (by omega) (fun i hi => (cI.2 i hi).1.1) (fun j hj hxj => ?_) (fun hno => ?_)
  · subst hxj
    obtain ⟨⟨k5, t5⟩, -, -, -, f5, f6, f4, f2⟩ := cI.2 j hj
    simp only [e31_5, e31_6, e31_7, e31_10, e31_11, o_iload, o_lload, o_aload, o_istore, o_lstore, o_astore, o_iinc, o_ipush, o_lpush, o_null, o_ibin, o_ineg, o_lbin, o_ldv, o_lneg, o_lcmp, o_i2l, o_l2i, o_dup, o_pop, o_dupx, o_dup2, o_ic, o_iz, o_nul, o_acmp, o_tsw, o_gI, o_gR, o_pI, o_pZ, o_pR, o_iald, o_bald, o_lald, o_aald, o_iast, o_bast, o_last, o_aast, o_alen, o_newa, o_new, o_mna, o_cast, o_calls, o_callv, o_calli, o_oinit, o_getC, o_refp, o_cpi, o_cpo, o_mmax, o_mmin, o_lmin, o_iret, o_zret, o_lret, o_aret, o_vret, jd_lo, jd_la, jd_nl, jd_pop, List.length_cons, List.length_nil, List.set_cons_zero, List.set_cons_succ, List.getElem?_cons_zero, List.getElem?_cons_succ, List.replicate_succ, List.replicate_zero, List.cons_append, List.nil_append, List.append_nil, Value.category, Option.toList, va_rf, true_implies, false_implies, false_and, and_false, and_true, true_and, and_self, true_or, or_true, false_or, or_false, not_true_eq_false, not_false_eq_true, forall_const, implies_true, if_true, if_false, reduceCtorEq, reduceIte, Nat.reduceAdd, Nat.reduceMul, Nat.reduceSub, Nat.reduceDiv, Nat.reduceMod, Nat.reduceEqDiff, Nat.reduceLeDiff, Nat.reduceLT, Nat.zero_le, Nat.lt_add_one, Nat.le_refl, Nat.sub_zero, Nat.zero_lt_succ, ge_iff_le, ji_m2, ji_m1, ji_0, ji_1, ji_2, ji_3, ji_4, ji_5, ji_6, ji_7, ji_8, ji_10, ji_12, ji_29, ji_30, ji_31, ji_40, ji_60, ji_70, ji_80, ji_81, ji_360, ji_512, ji_972, ji_1000000, ji_2147483639, jl_m1, jl_0, jl_1, kV]
    refine k_takesV (d := d + 6) hI hJ c0 cE hl ?_
    by_cases h6 : s.1 6 = 0
    · rw [if_pos h6]
      have hcl : (nI j).toNatClampNeg = j := jn_cl (show j < 82 by omega) (by decide)
      have hvd := vDo_5 (pp := nI q) (po := po) (e := ev7 5 (nI j) y 0 0 0 0) h6 rfl
      have hvd : vDo (nI q) po s (ev7 5 (nI j) y 0 0 0 0) = (if (0 ≤ nI j ∧ nI j ≤ s.1 1 - 1) ∧ s.2.1 6 j = -1 ∧ ¬ s.2.1 8 j = 0 ∧ 1 ≤ y ∧ y ≤ s.2.1 2 j then some (s.2.1 2 j - y, vLose1 s j y) else none) := by rw [← hcl]; rw [hcl]; have e1 : ev7 5 (nI j) y 0 0 0 0 1 = nI j := rfl; rw [e1, hcl] at hvd; exact hvd
      have hin : 0 ≤ nI j ∧ nI j ≤ s.1 1 - 1 := by rw [hI.1.1]; exact (jn_ix (by omega)).mpr ⟨j, hj, rfl⟩
      simp only [e31_14, e31_17, e31_18, e31_19, e31_20, o_iload, o_lload, o_aload, o_istore, o_lstore, o_astore, o_iinc, o_ipush, o_lpush, o_null, o_ibin, o_ineg, o_lbin, o_ldv, o_lneg, o_lcmp, o_i2l, o_l2i, o_dup, o_pop, o_dupx, o_dup2, o_ic, o_iz, o_nul, o_acmp, o_tsw, o_gI, o_gR, o_pI, o_pZ, o_pR, o_iald, o_bald, o_lald, o_aald, o_iast, o_bast, o_last, o_aast, o_alen, o_newa, o_new, o_mna, o_cast, o_calls, o_callv, o_calli, o_oinit, o_getC, o_refp, o_cpi, o_cpo, o_mmax, o_mmin, o_lmin, o_iret, o_zret, o_lret, o_aret, o_vret, jd_lo, jd_la, jd_nl, jd_pop, List.length_cons, List.length_nil, List.set_cons_zero, List.set_cons_succ, List.getElem?_cons_zero, List.getElem?_cons_succ, List.replicate_succ, List.replicate_zero, List.cons_append, List.nil_append, List.append_nil, Value.category, Option.toList, va_rf, true_implies, false_implies, false_and, and_false, and_true, true_and, and_self, true_or, or_true, false_or, or_false, not_true_eq_false, not_false_eq_true, forall_const, implies_true, if_true, if_false, reduceCtorEq, reduceIte, Nat.reduceAdd, Nat.reduceMul, Nat.reduceSub, Nat.reduceDiv, Nat.reduceMod, Nat.reduceEqDiff, Nat.reduceLeDiff, Nat.reduceLT, Nat.zero_le, Nat.lt_add_one, Nat.le_refl, Nat.sub_zero, Nat.zero_lt_succ, ge_iff_le, ji_m2, ji_m1, ji_0, ji_1, ji_2, ji_3, ji_4, ji_5, ji_6, ji_7, ji_8, ji_10, ji_12, ji_29, ji_30, ji_31, ji_40, ji_60, ji_70, ji_80, ji_81, ji_360, ji_512, ji_972, ji_1000000, ji_2147483639, jl_m1, jl_0, jl_1, h10, kV]
      refine k_canTake (d := d + 6) kV k5 ?_
      rw [f5, f6, f2, i458, i455]
      by_cases hc : (s.2.1 5 j = -1 ∨ (vWr q s = 0 ∧ s.1 0 < s.2.1 5 j)) ∧ s.2.1 6 j = -1 ∧ 1 ≤ y ∧ y ≤ s.2.1 2 j
      · rw [if_pos hc]
        rw [if_pos ⟨hin, hc.2.1, (aboard_iff hI hJ hj).mp hc.1, hc.2.2⟩] at hvd
        simp only [e31_23, e31_28, e31_29, e31_30, e31_31, e31_32, e31_33, e31_34, e31_35, o_iload, o_lload, o_aload, o_istore, o_lstore, o_astore, o_iinc, o_ipush, o_lpush, o_null, o_ibin, o_ineg, o_lbin, o_ldv, o_lneg, o_lcmp, o_i2l, o_l2i, o_dup, o_pop, o_dupx, o_dup2, o_ic, o_iz, o_nul, o_acmp, o_tsw, o_gI, o_gR, o_pI, o_pZ, o_pR, o_iald, o_bald, o_lald, o_aald, o_iast, o_bast, o_last, o_aast, o_alen, o_newa, o_new, o_mna, o_cast, o_calls, o_callv, o_calli, o_oinit, o_getC, o_refp, o_cpi, o_cpo, o_mmax, o_mmin, o_lmin, o_iret, o_zret, o_lret, o_aret, o_vret, jd_lo, jd_la, jd_nl, jd_pop, List.length_cons, List.length_nil, List.set_cons_zero, List.set_cons_succ, List.getElem?_cons_zero, List.getElem?_cons_succ, List.replicate_succ, List.replicate_zero, List.cons_append, List.nil_append, List.append_nil, Value.category, Option.toList, va_rf, true_implies, false_implies, false_and, and_false, and_true, true_and, and_self, true_or, or_true, false_or, or_false, not_true_eq_false, not_false_eq_true, forall_const, implies_true, if_true, if_false, reduceCtorEq, reduceIte, Nat.reduceAdd, Nat.reduceMul, Nat.reduceSub, Nat.reduceDiv, Nat.reduceMod, Nat.reduceEqDiff, Nat.reduceLeDiff, Nat.reduceLT, Nat.zero_le, Nat.lt_add_one, Nat.le_refl, Nat.sub_zero, Nat.zero_lt_succ, ge_iff_le, ji_m2, ji_m1, ji_0, ji_1, ji_2, ji_3, ji_4, ji_5, ji_6, ji_7, ji_8, ji_10, ji_12, ji_29, ji_30, ji_31, ji_40, ji_60, ji_70, ji_80, ji_81, ji_360, ji_512, ji_972, ji_1000000, ji_2147483639, jl_m1, jl_0, jl_1, h10, kV]
        refine k_take (d := d + 2) kV r448 cI hI hJ hj (Int32.le_trans hc.2.2.1 hc.2.2.2) (fun h1 cI1 hG1 => ?_)
        have c01 := cV0_fr c0 hG1 (fun i hi => by unfold Tg; omega)
        have cA1 := cVA_fr cA hG1 (fun i hi => by unfold Tg; omega) (fun a k _ _ _ i hi => by unfold Tg; omega)
        have cE1 := cVE_fr cE hG1 (fun i hi => by unfold Tg; omega) (fun k hk i hi => by unfold Tg; omega)
        have cS1 := cVS_fr cS hG1 (fun i hi => by unfold Tg; omega)
        have cJ1 := cVJ_fr cJ hG1 (fun i hi => by unfold Tg; omega)
        have hV1 : zI h1 457 (ad 0 0) = s.1 4 := c01.2.2.2.2.2.1
        simp only [e31_38, o_iload, o_lload, o_aload, o_istore, o_lstore, o_astore, o_iinc, o_ipush, o_lpush, o_null, o_ibin, o_ineg, o_lbin, o_ldv, o_lneg, o_lcmp, o_i2l, o_l2i, o_dup, o_pop, o_dupx, o_dup2, o_ic, o_iz, o_nul, o_acmp, o_tsw, o_gI, o_gR, o_pI, o_pZ, o_pR, o_iald, o_bald, o_lald, o_aald, o_iast, o_bast, o_last, o_aast, o_alen, o_newa, o_new, o_mna, o_cast, o_calls, o_callv, o_calli, o_oinit, o_getC, o_refp, o_cpi, o_cpo, o_mmax, o_mmin, o_lmin, o_iret, o_zret, o_lret, o_aret, o_vret, jd_lo, jd_la, jd_nl, jd_pop, List.length_cons, List.length_nil, List.set_cons_zero, List.set_cons_succ, List.getElem?_cons_zero, List.getElem?_cons_succ, List.replicate_succ, List.replicate_zero, List.cons_append, List.nil_append, List.append_nil, Value.category, Option.toList, va_rf, true_implies, false_implies, false_and, and_false, and_true, true_and, and_self, true_or, or_true, false_or, or_false, not_true_eq_false, not_false_eq_true, forall_const, implies_true, if_true, if_false, reduceCtorEq, reduceIte, Nat.reduceAdd, Nat.reduceMul, Nat.reduceSub, Nat.reduceDiv, Nat.reduceMod, Nat.reduceEqDiff, Nat.reduceLeDiff, Nat.reduceLT, Nat.zero_le, Nat.lt_add_one, Nat.le_refl, Nat.sub_zero, Nat.zero_lt_succ, ge_iff_le, ji_m2, ji_m1, ji_0, ji_1, ji_2, ji_3, ji_4, ji_5, ji_6, ji_7, ji_8, ji_10, ji_12, ji_29, ji_30, ji_31, ji_40, ji_60, ji_70, ji_80, ji_81, ji_360, ji_512, ji_972, ji_1000000, ji_2147483639, jl_m1, jl_0, jl_1, c01.1.1]
        refine k_noteT (d := d) cE1 c01.1.1 c01.2.1.2.2.1 hl (fun h2 tg2 ad2 hd2 cE2 hG2 => ⟨fun z => absurd z (by decide), fun _ => ?_⟩)
        have d16 : ∀ k i, k ≠ 16 → ad2 k i = ad k i := fun k i hk => hd2 k i (fun z => hk z.1)
        have c02 := cV0_fr c01 hG2 (by unfold Tg; omega)
        have cI2 := cVI_fr cI1 hG2 (by unfold Tg; omega) (fun i hi => by unfold Tg; omega)
        have cA2 := cVA_fr cA1 hG2 (by unfold Tg; omega) (fun a k _ _ _ => by unfold Tg; omega)
        have cS2 := cVS_fr cS1 hG2 (by unfold Tg; omega)
        have cJ2 := cVJ_fr cJ1 hG2 (by unfold Tg; omega)
        have hG3 : AG (fun u => u ≠ Tg v 0 0) h2 (wI h2 457 (ad 0 0) (-1)) tg2 tg2 := AG_wI (fun z => z c02.1.2)
        have c03 := cV0_w (k := 2) (x := -1) c02 (by decide)
        have cI3 := cVI_fr cI2 hG3 (by unfold Tg; omega) (fun i hi => by unfold Tg; omega)
        have cA3 := cVA_fr cA2 hG3 (by unfold Tg; omega) (fun a k _ _ _ => by unfold Tg; omega)
        have cE3 := cVE_fr cE2 hG3 (by unfold Tg; omega) (fun i hi => by unfold Tg; omega)
        have cS3 := cVS_fr cS2 hG3 (by unfold Tg; omega)
        have cJ3 := cVJ_fr cJ2 hG3 (by unfold Tg; omega)
        obtain ⟨⟨k53, -⟩, -, -, -, -, -, -, f23⟩ := cI3.2 j hj
        rw [vTake_self hI hj] at f23
        simp only [e31_41, e31_42, e31_45, o_iload, o_lload, o_aload, o_istore, o_lstore, o_astore, o_iinc, o_ipush, o_lpush, o_null, o_ibin, o_ineg, o_lbin, o_ldv, o_lneg, o_lcmp, o_i2l, o_l2i, o_dup, o_pop, o_dupx, o_dup2, o_ic, o_iz, o_nul, o_acmp, o_tsw, o_gI, o_gR, o_pI, o_pZ, o_pR, o_iald, o_bald, o_lald, o_aald, o_iast, o_bast, o_last, o_aast, o_alen, o_newa, o_new, o_mna, o_cast, o_calls, o_callv, o_calli, o_oinit, o_getC, o_refp, o_cpi, o_cpo, o_mmax, o_mmin, o_lmin, o_iret, o_zret, o_lret, o_aret, o_vret, jd_lo, jd_la, jd_nl, jd_pop, List.length_cons, List.length_nil, List.set_cons_zero, List.set_cons_succ, List.getElem?_cons_zero, List.getElem?_cons_succ, List.replicate_succ, List.replicate_zero, List.cons_append, List.nil_append, List.append_nil, Value.category, Option.toList, va_rf, true_implies, false_implies, false_and, and_false, and_true, true_and, and_self, true_or, or_true, false_or, or_false, not_true_eq_false, not_false_eq_true, forall_const, implies_true, if_true, if_false, reduceCtorEq, reduceIte, Nat.reduceAdd, Nat.reduceMul, Nat.reduceSub, Nat.reduceDiv, Nat.reduceMod, Nat.reduceEqDiff, Nat.reduceLeDiff, Nat.reduceLT, Nat.zero_le, Nat.lt_add_one, Nat.le_refl, Nat.sub_zero, Nat.zero_lt_succ, ge_iff_le, ji_m2, ji_m1, ji_0, ji_1, ji_2, ji_3, ji_4, ji_5, ji_6, ji_7, ji_8, ji_10, ji_12, ji_29, ji_30, ji_31, ji_40, ji_60, ji_70, ji_80, ji_81, ji_360, ji_512, ji_972, ji_1000000, ji_2147483639, jl_m1, jl_0, jl_1, k53, f23]
        have hz := (congrArg (fun z => vDo (nI q) po z (ev7 5 (nI j) y 0 0 0 0)) hs).trans hvd
        refine hQ1 _ _ _ tg2 ad2 hvd (cVoy_mk hV hO hK ⟨5, by decide, rfl⟩ hz ?_ ?_ ?_ (cVE_cg cE3 (fun k hk => ?_)) ?_ (fun z => absurd z (show ¬ (5 : Int32) = 6 by decide)) (fun z => absurd h6 z)) (d16 0 0 (by decide)) cJ3 (AG_t (AG_w hG1 (fun u hu i hi => by unfold PV Tg at hu; unfold Tg; omega)) (AG_t (AG_w hG2 (fun u hu => by unfold PV Tg at hu; unfold Tg; omega)) (AG_w hG3 (fun u hu => by unfold PV Tg at hu; unfold Tg; omega))))
        · exact cV0_ad (cV0_cg c03 (fS_of rfl rfl rfl rfl rfl)) (fun k hk => d16 k 0 (by omega))
        · have : cn (vLose1 s j y) = n := hcn
          rw [this]
          exact cVI_ad cI3 (d16 1 0 (by decide)) (fun i _ => d16 3 i (by decide))
        · have : ca (vLose1 s j y) = na := hca
          rw [this]
          exact cVA_ad cA3 (d16 4 0 (by decide)) (fun a k _ _ _ => d16 k a (by omega))
        · by_cases e : k = l.length
          · rw [if_pos e]
            funext c
            rw [if_pos e, hV1, hs]
            show evR 5 (nI j) y (vLess s (nn (nI j)) y) (s.1 4) c = _
            rw [show nn (nI j) = j from hcl]
          · rw [if_neg e]
            funext c
            rw [if_neg e]
        · exact cVS_ad cS3 (fun k _ _ => d16 k 0 (by omega))
      · rw [if_neg hc]
        rw [if_neg (fun z => hc ⟨(aboard_iff hI hJ hj).mpr z.2.2.1, z.2.1, z.2.2.2⟩)] at hvd
        simp only [e31_23, e31_26, e31_27, o_iload, o_lload, o_aload, o_istore, o_lstore, o_astore, o_iinc, o_ipush, o_lpush, o_null, o_ibin, o_ineg, o_lbin, o_ldv, o_lneg, o_lcmp, o_i2l, o_l2i, o_dup, o_pop, o_dupx, o_dup2, o_ic, o_iz, o_nul, o_acmp, o_tsw, o_gI, o_gR, o_pI, o_pZ, o_pR, o_iald, o_bald, o_lald, o_aald, o_iast, o_bast, o_last, o_aast, o_alen, o_newa, o_new, o_mna, o_cast, o_calls, o_callv, o_calli, o_oinit, o_getC, o_refp, o_cpi, o_cpo, o_mmax, o_mmin, o_lmin, o_iret, o_zret, o_lret, o_aret, o_vret, jd_lo, jd_la, jd_nl, jd_pop, List.length_cons, List.length_nil, List.set_cons_zero, List.set_cons_succ, List.getElem?_cons_zero, List.getElem?_cons_succ, List.replicate_succ, List.replicate_zero, List.cons_append, List.nil_append, List.append_nil, Value.category, Option.toList, va_rf, true_implies, false_implies, false_and, and_false, and_true, true_and, and_self, true_or, or_true, false_or, or_false, not_true_eq_false, not_false_eq_true, forall_const, implies_true, if_true, if_false, reduceCtorEq, reduceIte, Nat.reduceAdd, Nat.reduceMul, Nat.reduceSub, Nat.reduceDiv, Nat.reduceMod, Nat.reduceEqDiff, Nat.reduceLeDiff, Nat.reduceLT, Nat.zero_le, Nat.lt_add_one, Nat.le_refl, Nat.sub_zero, Nat.zero_lt_succ, ge_iff_le, ji_m2, ji_m1, ji_0, ji_1, ji_2, ji_3, ji_4, ji_5, ji_6, ji_7, ji_8, ji_10, ji_12, ji_29, ji_30, ji_31, ji_40, ji_60, ji_70, ji_80, ji_81, ji_360, ji_512, ji_972, ji_1000000, ji_2147483639, jl_m1, jl_0, jl_1]
        exact hQ0 hvd
    · rw [if_neg h6]
      simp only [e31_14, e31_26, e31_27, o_iload, o_lload, o_aload, o_istore, o_lstore, o_astore, o_iinc, o_ipush, o_lpush, o_null, o_ibin, o_ineg, o_lbin, o_ldv, o_lneg, o_lcmp, o_i2l, o_l2i, o_dup, o_pop, o_dupx, o_dup2, o_ic, o_iz, o_nul, o_acmp, o_tsw, o_gI, o_gR, o_pI, o_pZ, o_pR, o_iald, o_bald, o_lald, o_aald, o_iast, o_bast, o_last, o_aast, o_alen, o_newa, o_new, o_mna, o_cast, o_calls, o_callv, o_calli, o_oinit, o_getC, o_refp, o_cpi, o_cpo, o_mmax, o_mmin, o_lmin, o_iret, o_zret, o_lret, o_aret, o_vret, jd_lo, jd_la, jd_nl, jd_pop, List.length_cons, List.length_nil, List.set_cons_zero, List.set_cons_succ, List.getElem?_cons_zero, List.getElem?_cons_succ, List.replicate_succ, List.replicate_zero, List.cons_append, List.nil_append, List.append_nil, Value.category, Option.toList, va_rf, true_implies, false_implies, false_and, and_false, and_true, true_and, and_self, true_or, or_true, false_or, or_false, not_true_eq_false, not_false_eq_true, forall_const, implies_true, if_true, if_false, reduceCtorEq, reduceIte, Nat.reduceAdd, Nat.reduceMul, Nat.reduceSub, Nat.reduceDiv, Nat.reduceMod, Nat.reduceEqDiff, Nat.reduceLeDiff, Nat.reduceLT, Nat.zero_le, Nat.lt_add_one, Nat.le_refl, Nat.sub_zero, Nat.zero_lt_succ, ge_iff_le, ji_m2, ji_m1, ji_0, ji_1, ji_2, ji_3, ji_4, ji_5, ji_6, ji_7, ji_8, ji_10, ji_12, ji_29, ji_30, ji_31, ji_40, ji_60, ji_70, ji_80, ji_81, ji_360, ji_512, ji_972, ji_1000000, ji_2147483639, jl_m1, jl_0, jl_1]
      exact hQ0 (vDo_E h6)
  · simp only [e31_5, e31_6, e31_7, e31_26, e31_27, o_iload, o_lload, o_aload, o_istore, o_lstore, o_astore, o_iinc, o_ipush, o_lpush, o_null, o_ibin, o_ineg, o_lbin, o_ldv, o_lneg, o_lcmp, o_i2l, o_l2i, o_dup, o_pop, o_dupx, o_dup2, o_ic, o_iz, o_nul, o_acmp, o_tsw, o_gI, o_gR, o_pI, o_pZ, o_pR, o_iald, o_bald, o_lald, o_aald, o_iast, o_bast, o_last, o_aast, o_alen, o_newa, o_new, o_mna, o_cast, o_calls, o_callv, o_calli, o_oinit, o_getC, o_refp, o_cpi, o_cpo, o_mmax, o_mmin, o_lmin, o_iret, o_zret, o_lret, o_aret, o_vret, jd_lo, jd_la, jd_nl, jd_pop, List.length_cons, List.length_nil, List.set_cons_zero, List.set_cons_succ, List.getElem?_cons_zero, List.getElem?_cons_succ, List.replicate_succ, List.replicate_zero, List.cons_append, List.nil_append, List.append_nil, Value.category, Option.toList, va_rf, true_implies, false_implies, false_and, and_false, and_true, true_and, and_self, true_or, or_true, false_or, or_false, not_true_eq_false, not_false_eq_true, forall_const, implies_true, if_true, if_false, reduceCtorEq, reduceIte, Nat.reduceAdd, Nat.reduceMul, Nat.reduceSub, Nat.reduceDiv, Nat.reduceMod, Nat.reduceEqDiff, Nat.reduceLeDiff, Nat.reduceLT, Nat.zero_le, Nat.lt_add_one, Nat.le_refl, Nat.sub_zero, Nat.zero_lt_succ, ge_iff_le, ji_m2, ji_m1, ji_0, ji_1, ji_2, ji_3, ji_4, ji_5, ji_6, ji_7, ji_8, ji_10, ji_12, ji_29, ji_30, ji_31, ji_40, ji_60, ji_70, ji_80, ji_81, ji_360, ji_512, ji_972, ji_1000000, ji_2147483639, jl_m1, jl_0, jl_1]
    refine hQ0 ?_
    by_cases h6 : s.1 6 = 0
    · have hvd := vDo_5 (pp := nI q) (po := po) (e := ev7 5 x y 0 0 0 0) h6 rfl
      rw [hvd, if_neg (fun z => ?_)]
      have z1 : 0 ≤ x ∧ x ≤ s.1 1 - 1 := z.1
      rw [hI.1.1] at z1
      obtain ⟨j, hj, e⟩ := (jn_ix (by omega)).mp z1
      exact hno j hj e
    · exact vDo_E h6
set_option maxRecDepth 100000 in
theorem k_giveUp (c : cVoy h tg ad aj v po w0 q l) (cJ : cVJ h tg aj) (hl : l.length ≤ 511) (hQ0 : vDo (nI q) po (rep (nI q) po w0 l) (ev7 3 x y 0 0 0 0) = none → Q (some (.int (-1))) h) (hQ1 : ∀ r s' h' tg' ad', vDo (nI q) po (rep (nI q) po w0 l) (ev7 3 x y 0 0 0 0) = some (r, s') → cVoy h' tg' ad' aj v po w0 q ((ev7 3 x y 0 0 0 0) :: l) → ad' 0 0 = ad 0 0 → cVJ h' tg' aj → AG (PV v) h h' tg tg' → Q (some (.int r)) h') : jd_WM g (d + 9) 29 [.ref (ad 0 0), .int x, .int y] h Q := by
  refine ⟨Nat.le_of_ble_eq_true rfl, ?_⟩; show jd_w g (d + 8) 29 Q 0 [some (.ref (ad 0 0)), some (.int x), some (.int y), none, none, none, none] [] h 2 805
  obtain ⟨n, lo, na, p, hI, hJ⟩ := cVoy_IJ c
  obtain ⟨⟨hV, hO, hK⟩, c0, cI, cA, cE, cS, cW, cR⟩ := c
  generalize hs : rep (nI q) po w0 l = s at hI hJ c0 cI cA cR hQ0 hQ1
  have hn81 := IV_81 hI
  have hcn := IV_cn hI
  have hca := IV_ca hI
  have hna := hI.2.2.1.2
  rw [hcn] at cI
  rw [hca] at cA
  obtain ⟨⟨kV, tV⟩, ⟨r448, r449, r450, r451, r454⟩, ⟨i452, i453⟩, i455, i456, i457, i458, i459⟩ := id c0
  have h10 : ¬ (1 : Int32) = 0 := by decide
  rw [fS_2] at i457
  rw [fS_0] at i455
  rw [fS_3] at i458
  have hno6 : ∀ z : (∀ j, j < n → ¬ x = nI j) ∨ s.1 4 = -1, vDo (nI q) po s (ev7 3 x y 0 0 0 0) = none := fun z => by
    by_cases h6 : s.1 6 = 0
    · have hvd := vDo_3 (pp := nI q) (po := po) (e := ev7 3 x y 0 0 0 0) h6 rfl
      rw [hvd, if_neg (fun w => ?_)]
      rcases z with z | z
      · have z1 : 0 ≤ x ∧ x ≤ s.1 1 - 1 := w.2.1
        rw [hI.1.1] at z1
        obtain ⟨j, hj, e⟩ := (jn_ix (by omega)).mp z1
        exact z j hj e
      · exact w.1 z
    · exact vDo_E h6
  simp only [e29_0, e29_1, e29_2, e29_5, o_iload, o_lload, o_aload, o_istore, o_lstore, o_astore, o_iinc, o_ipush, o_lpush, o_null, o_ibin, o_ineg, o_lbin, o_ldv, o_lneg, o_lcmp, o_i2l, o_l2i, o_dup, o_pop, o_dupx, o_dup2, o_ic, o_iz, o_nul, o_acmp, o_tsw, o_gI, o_gR, o_pI, o_pZ, o_pR, o_iald, o_bald, o_lald, o_aald, o_iast, o_bast, o_last, o_aast, o_alen, o_newa, o_new, o_mna, o_cast, o_calls, o_callv, o_calli, o_oinit, o_getC, o_refp, o_cpi, o_cpo, o_mmax, o_mmin, o_lmin, o_iret, o_zret, o_lret, o_aret, o_vret, jd_lo, jd_la, jd_nl, jd_pop, List.length_cons, List.length_nil, List.set_cons_zero, List.set_cons_succ, List.getElem?_cons_zero, List.getElem?_cons_succ, List.replicate_succ, List.replicate_zero, List.cons_append, List.nil_append, List.append_nil, Value.category, Option.toList, va_rf, true_implies, false_implies, false_and, and_false, and_true, true_and, and_self, true_or, or_true, false_or, or_false, not_true_eq_false, not_false_eq_true, forall_const, implies_true, if_true, if_false, reduceCtorEq, reduceIte, Nat.reduceAdd, Nat.reduceMul, Nat.reduceSub, Nat.reduceDiv, Nat.reduceMod, Nat.reduceEqDiff, Nat.reduceLeDiff, Nat.reduceLT, Nat.zero_le, Nat.lt_add_one, Nat.le_refl, Nat.sub_zero, Nat.zero_lt_succ, ge_iff_le, ji_m2, ji_m1, ji_0, ji_1, ji_2, ji_3, ji_4, ji_5, ji_6, ji_7, ji_8, ji_10, ji_12, ji_29, ji_30, ji_31, ji_40, ji_60, ji_70, ji_80, ji_81, ji_360, ji_512, ji_972, ji_1000000, ji_2147483639, jl_m1, jl_0, jl_1, kV, i457]
  refine k_aAt (d := d + 4) kV r449 cA.1 (by omega) (fun a ha => (cA.2 a ha).1.1.1) (fun a ha hop => ?_) (fun hno => ?_)
  · have hop1 : ¬ s.1 4 = -1 := by rw [hop]; exact jm1 (by omega)
    obtain ⟨hna1, hop2⟩ := hI.2.2.2.2.1.resolve_left hop1
    have hae : a = na - 1 := (nI_eq (by omega) (by omega)).mp (hop.symm.trans hop2)
    have ha1 : na - 1 < na := by omega
    subst hae
    simp only [e29_8, e29_9, e29_10, e29_11, o_iload, o_lload, o_aload, o_istore, o_lstore, o_astore, o_iinc, o_ipush, o_lpush, o_null, o_ibin, o_ineg, o_lbin, o_ldv, o_lneg, o_lcmp, o_i2l, o_l2i, o_dup, o_pop, o_dupx, o_dup2, o_ic, o_iz, o_nul, o_acmp, o_tsw, o_gI, o_gR, o_pI, o_pZ, o_pR, o_iald, o_bald, o_lald, o_aald, o_iast, o_bast, o_last, o_aast, o_alen, o_newa, o_new, o_mna, o_cast, o_calls, o_callv, o_calli, o_oinit, o_getC, o_refp, o_cpi, o_cpo, o_mmax, o_mmin, o_lmin, o_iret, o_zret, o_lret, o_aret, o_vret, jd_lo, jd_la, jd_nl, jd_pop, List.length_cons, List.length_nil, List.set_cons_zero, List.set_cons_succ, List.getElem?_cons_zero, List.getElem?_cons_succ, List.replicate_succ, List.replicate_zero, List.cons_append, List.nil_append, List.append_nil, Value.category, Option.toList, va_rf, true_implies, false_implies, false_and, and_false, and_true, true_and, and_self, true_or, or_true, false_or, or_false, not_true_eq_false, not_false_eq_true, forall_const, implies_true, if_true, if_false, reduceCtorEq, reduceIte, Nat.reduceAdd, Nat.reduceMul, Nat.reduceSub, Nat.reduceDiv, Nat.reduceMod, Nat.reduceEqDiff, Nat.reduceLeDiff, Nat.reduceLT, Nat.zero_le, Nat.lt_add_one, Nat.le_refl, Nat.sub_zero, Nat.zero_lt_succ, ge_iff_le, ji_m2, ji_m1, ji_0, ji_1, ji_2, ji_3, ji_4, ji_5, ji_6, ji_7, ji_8, ji_10, ji_12, ji_29, ji_30, ji_31, ji_40, ji_60, ji_70, ji_80, ji_81, ji_360, ji_512, ji_972, ji_1000000, ji_2147483639, jl_m1, jl_0, jl_1, kV]
    refine k_iAt (d := d + 4) kV r448 cI.1 (by omega) (fun i hi => (cI.2 i hi).1.1) (fun j hj hxj => ?_) (fun hno => ?_)
    · subst hxj
      obtain ⟨⟨k5, t5⟩, -, -, -, f5, f6, f4, f2⟩ := cI.2 j hj
      simp only [e29_14, e29_16, e29_17, e29_20, e29_22, e29_25, e29_26, o_iload, o_lload, o_aload, o_istore, o_lstore, o_astore, o_iinc, o_ipush, o_lpush, o_null, o_ibin, o_ineg, o_lbin, o_ldv, o_lneg, o_lcmp, o_i2l, o_l2i, o_dup, o_pop, o_dupx, o_dup2, o_ic, o_iz, o_nul, o_acmp, o_tsw, o_gI, o_gR, o_pI, o_pZ, o_pR, o_iald, o_bald, o_lald, o_aald, o_iast, o_bast, o_last, o_aast, o_alen, o_newa, o_new, o_mna, o_cast, o_calls, o_callv, o_calli, o_oinit, o_getC, o_refp, o_cpi, o_cpo, o_mmax, o_mmin, o_lmin, o_iret, o_zret, o_lret, o_aret, o_vret, jd_lo, jd_la, jd_nl, jd_pop, List.length_cons, List.length_nil, List.set_cons_zero, List.set_cons_succ, List.getElem?_cons_zero, List.getElem?_cons_succ, List.replicate_succ, List.replicate_zero, List.cons_append, List.nil_append, List.append_nil, Value.category, Option.toList, va_rf, true_implies, false_implies, false_and, and_false, and_true, true_and, and_self, true_or, or_true, false_or, or_false, not_true_eq_false, not_false_eq_true, forall_const, implies_true, if_true, if_false, reduceCtorEq, reduceIte, Nat.reduceAdd, Nat.reduceMul, Nat.reduceSub, Nat.reduceDiv, Nat.reduceMod, Nat.reduceEqDiff, Nat.reduceLeDiff, Nat.reduceLT, Nat.zero_le, Nat.lt_add_one, Nat.le_refl, Nat.sub_zero, Nat.zero_lt_succ, ge_iff_le, ji_m2, ji_m1, ji_0, ji_1, ji_2, ji_3, ji_4, ji_5, ji_6, ji_7, ji_8, ji_10, ji_12, ji_29, ji_30, ji_31, ji_40, ji_60, ji_70, ji_80, ji_81, ji_360, ji_512, ji_972, ji_1000000, ji_2147483639, jl_m1, jl_0, jl_1, kV]
      refine k_takesV (d := d + 6) hI hJ c0 cE hl ?_
      by_cases h6 : s.1 6 = 0
      · rw [if_pos h6]
        have hcl : (nI j).toNatClampNeg = j := jn_cl (show j < 82 by omega) (by decide)
        have hvd := vDo_3 (pp := nI q) (po := po) (e := ev7 3 (nI j) y 0 0 0 0) h6 rfl
        have hvd : vDo (nI q) po s (ev7 3 (nI j) y 0 0 0 0) = (if ¬ s.1 4 = -1 ∧ (0 ≤ nI j ∧ nI j ≤ s.1 1 - 1) ∧ s.2.1 6 j = -1 ∧ ¬ s.2.1 8 j = 0 ∧ 1 ≤ y ∧ y ≤ s.2.1 2 j then some (vGood s j y, vGive1 s (na - 1) j y) else none) := by
          have e1 : ev7 3 (nI j) y 0 0 0 0 1 = nI j := rfl
          rw [e1, hcl, hca] at hvd
          exact hvd
        have hin : 0 ≤ nI j ∧ nI j ≤ s.1 1 - 1 := by rw [hI.1.1]; exact (jn_ix (by omega)).mpr ⟨j, hj, rfl⟩
        simp only [e29_29, e29_32, e29_33, e29_35, e29_36, o_iload, o_lload, o_aload, o_istore, o_lstore, o_astore, o_iinc, o_ipush, o_lpush, o_null, o_ibin, o_ineg, o_lbin, o_ldv, o_lneg, o_lcmp, o_i2l, o_l2i, o_dup, o_pop, o_dupx, o_dup2, o_ic, o_iz, o_nul, o_acmp, o_tsw, o_gI, o_gR, o_pI, o_pZ, o_pR, o_iald, o_bald, o_lald, o_aald, o_iast, o_bast, o_last, o_aast, o_alen, o_newa, o_new, o_mna, o_cast, o_calls, o_callv, o_calli, o_oinit, o_getC, o_refp, o_cpi, o_cpo, o_mmax, o_mmin, o_lmin, o_iret, o_zret, o_lret, o_aret, o_vret, jd_lo, jd_la, jd_nl, jd_pop, List.length_cons, List.length_nil, List.set_cons_zero, List.set_cons_succ, List.getElem?_cons_zero, List.getElem?_cons_succ, List.replicate_succ, List.replicate_zero, List.cons_append, List.nil_append, List.append_nil, Value.category, Option.toList, va_rf, true_implies, false_implies, false_and, and_false, and_true, true_and, and_self, true_or, or_true, false_or, or_false, not_true_eq_false, not_false_eq_true, forall_const, implies_true, if_true, if_false, reduceCtorEq, reduceIte, Nat.reduceAdd, Nat.reduceMul, Nat.reduceSub, Nat.reduceDiv, Nat.reduceMod, Nat.reduceEqDiff, Nat.reduceLeDiff, Nat.reduceLT, Nat.zero_le, Nat.lt_add_one, Nat.le_refl, Nat.sub_zero, Nat.zero_lt_succ, ge_iff_le, ji_m2, ji_m1, ji_0, ji_1, ji_2, ji_3, ji_4, ji_5, ji_6, ji_7, ji_8, ji_10, ji_12, ji_29, ji_30, ji_31, ji_40, ji_60, ji_70, ji_80, ji_81, ji_360, ji_512, ji_972, ji_1000000, ji_2147483639, jl_m1, jl_0, jl_1, h10, kV]
        refine k_canTake (d := d + 6) kV k5 ?_
        rw [f5, f6, f2, i458, i455]
        by_cases hc : (s.2.1 5 j = -1 ∨ (vWr q s = 0 ∧ s.1 0 < s.2.1 5 j)) ∧ s.2.1 6 j = -1 ∧ 1 ≤ y ∧ y ≤ s.2.1 2 j
        · rw [if_pos hc]
          rw [if_pos ⟨hop1, hin, hc.2.1, (aboard_iff hI hJ hj).mp hc.1, hc.2.2⟩] at hvd
          simp only [e29_39, e29_44, e29_45, e29_46, e29_47, o_iload, o_lload, o_aload, o_istore, o_lstore, o_astore, o_iinc, o_ipush, o_lpush, o_null, o_ibin, o_ineg, o_lbin, o_ldv, o_lneg, o_lcmp, o_i2l, o_l2i, o_dup, o_pop, o_dupx, o_dup2, o_ic, o_iz, o_nul, o_acmp, o_tsw, o_gI, o_gR, o_pI, o_pZ, o_pR, o_iald, o_bald, o_lald, o_aald, o_iast, o_bast, o_last, o_aast, o_alen, o_newa, o_new, o_mna, o_cast, o_calls, o_callv, o_calli, o_oinit, o_getC, o_refp, o_cpi, o_cpo, o_mmax, o_mmin, o_lmin, o_iret, o_zret, o_lret, o_aret, o_vret, jd_lo, jd_la, jd_nl, jd_pop, List.length_cons, List.length_nil, List.set_cons_zero, List.set_cons_succ, List.getElem?_cons_zero, List.getElem?_cons_succ, List.replicate_succ, List.replicate_zero, List.cons_append, List.nil_append, List.append_nil, Value.category, Option.toList, va_rf, true_implies, false_implies, false_and, and_false, and_true, true_and, and_self, true_or, or_true, false_or, or_false, not_true_eq_false, not_false_eq_true, forall_const, implies_true, if_true, if_false, reduceCtorEq, reduceIte, Nat.reduceAdd, Nat.reduceMul, Nat.reduceSub, Nat.reduceDiv, Nat.reduceMod, Nat.reduceEqDiff, Nat.reduceLeDiff, Nat.reduceLT, Nat.zero_le, Nat.lt_add_one, Nat.le_refl, Nat.sub_zero, Nat.zero_lt_succ, ge_iff_le, ji_m2, ji_m1, ji_0, ji_1, ji_2, ji_3, ji_4, ji_5, ji_6, ji_7, ji_8, ji_10, ji_12, ji_29, ji_30, ji_31, ji_40, ji_60, ji_70, ji_80, ji_81, ji_360, ji_512, ji_972, ji_1000000, ji_2147483639, jl_m1, jl_0, jl_1, h10, kV]
          refine k_take (d := d + 2) kV r448 cI hI hJ hj (Int32.le_trans hc.2.2.1 hc.2.2.2) (fun h1 cI1 hG1 => ?_)
          have c01 := cV0_fr c0 hG1 (fun i hi => by unfold Tg; omega)
          have cA1 := cVA_fr cA hG1 (fun i hi => by unfold Tg; omega) (fun a k _ _ _ i hi => by unfold Tg; omega)
          have cE1 := cVE_fr cE hG1 (fun i hi => by unfold Tg; omega) (fun k hk i hi => by unfold Tg; omega)
          have cS1 := cVS_fr cS hG1 (fun i hi => by unfold Tg; omega)
          have cJ1 := cVJ_fr cJ hG1 (fun i hi => by unfold Tg; omega)
          obtain ⟨⟨k51, -⟩, -, g1, g3, -, -, g4, -⟩ := cI1.2 j hj
          rw [vTake_k (by decide)] at g1 g3 g4
          simp only [e29_50, e29_52, e29_54, e29_55, o_iload, o_lload, o_aload, o_istore, o_lstore, o_astore, o_iinc, o_ipush, o_lpush, o_null, o_ibin, o_ineg, o_lbin, o_ldv, o_lneg, o_lcmp, o_i2l, o_l2i, o_dup, o_pop, o_dupx, o_dup2, o_ic, o_iz, o_nul, o_acmp, o_tsw, o_gI, o_gR, o_pI, o_pZ, o_pR, o_iald, o_bald, o_lald, o_aald, o_iast, o_bast, o_last, o_aast, o_alen, o_newa, o_new, o_mna, o_cast, o_calls, o_callv, o_calli, o_oinit, o_getC, o_refp, o_cpi, o_cpo, o_mmax, o_mmin, o_lmin, o_iret, o_zret, o_lret, o_aret, o_vret, jd_lo, jd_la, jd_nl, jd_pop, List.length_cons, List.length_nil, List.set_cons_zero, List.set_cons_succ, List.getElem?_cons_zero, List.getElem?_cons_succ, List.replicate_succ, List.replicate_zero, List.cons_append, List.nil_append, List.append_nil, Value.category, Option.toList, va_rf, true_implies, false_implies, false_and, and_false, and_true, true_and, and_self, true_or, or_true, false_or, or_false, not_true_eq_false, not_false_eq_true, forall_const, implies_true, if_true, if_false, reduceCtorEq, reduceIte, Nat.reduceAdd, Nat.reduceMul, Nat.reduceSub, Nat.reduceDiv, Nat.reduceMod, Nat.reduceEqDiff, Nat.reduceLeDiff, Nat.reduceLT, Nat.zero_le, Nat.lt_add_one, Nat.le_refl, Nat.sub_zero, Nat.zero_lt_succ, ge_iff_le, ji_m2, ji_m1, ji_0, ji_1, ji_2, ji_3, ji_4, ji_5, ji_6, ji_7, ji_8, ji_10, ji_12, ji_29, ji_30, ji_31, ji_40, ji_60, ji_70, ji_80, ji_81, ji_360, ji_512, ji_972, ji_1000000, ji_2147483639, jl_m1, jl_0, jl_1, k51]
          refine k_madeGoodFor (d := d + 7) k51 ?_
          have hw1 := (hI.2.2.2.2.2.2.2 j hj).2.2.2.2.1
          have egood : (if zI h1 325 (ad 3 j) = 0 ∧ 1 ≤ zI h1 321 (ad 3 j) then (y.toInt64 * (zI h1 322 (ad 3 j)).toInt64 / (zI h1 321 (ad 3 j)).toInt64).toInt32 else 0) = vGood s j y := by
            rw [g1, g3, g4]
            unfold vGood
            by_cases h4 : s.2.1 4 j = 0
            · rw [if_pos ⟨h4, hw1⟩, if_pos h4]
            · rw [if_neg (fun z => h4 z.1), if_neg h4]
          rw [egood]
          have o1 := (cA1.2 (na - 1) ha1).1
          simp only [e29_58, e29_60, e29_61, e29_62, e29_63, e29_65, o_iload, o_lload, o_aload, o_istore, o_lstore, o_astore, o_iinc, o_ipush, o_lpush, o_null, o_ibin, o_ineg, o_lbin, o_ldv, o_lneg, o_lcmp, o_i2l, o_l2i, o_dup, o_pop, o_dupx, o_dup2, o_ic, o_iz, o_nul, o_acmp, o_tsw, o_gI, o_gR, o_pI, o_pZ, o_pR, o_iald, o_bald, o_lald, o_aald, o_iast, o_bast, o_last, o_aast, o_alen, o_newa, o_new, o_mna, o_cast, o_calls, o_callv, o_calli, o_oinit, o_getC, o_refp, o_cpi, o_cpo, o_mmax, o_mmin, o_lmin, o_iret, o_zret, o_lret, o_aret, o_vret, jd_lo, jd_la, jd_nl, jd_pop, List.length_cons, List.length_nil, List.set_cons_zero, List.set_cons_succ, List.getElem?_cons_zero, List.getElem?_cons_succ, List.replicate_succ, List.replicate_zero, List.cons_append, List.nil_append, List.append_nil, Value.category, Option.toList, va_rf, true_implies, false_implies, false_and, and_false, and_true, true_and, and_self, true_or, or_true, false_or, or_false, not_true_eq_false, not_false_eq_true, forall_const, implies_true, if_true, if_false, reduceCtorEq, reduceIte, Nat.reduceAdd, Nat.reduceMul, Nat.reduceSub, Nat.reduceDiv, Nat.reduceMod, Nat.reduceEqDiff, Nat.reduceLeDiff, Nat.reduceLT, Nat.zero_le, Nat.lt_add_one, Nat.le_refl, Nat.sub_zero, Nat.zero_lt_succ, ge_iff_le, ji_m2, ji_m1, ji_0, ji_1, ji_2, ji_3, ji_4, ji_5, ji_6, ji_7, ji_8, ji_10, ji_12, ji_29, ji_30, ji_31, ji_40, ji_60, ji_70, ji_80, ji_81, ji_360, ji_512, ji_972, ji_1000000, ji_2147483639, jl_m1, jl_0, jl_1, o1.1.1]
          refine k_addG (d := d + 6) cA1 ha1 hna (show j < 81 by omega) (fun h2 cA2 hG2 => ?_)
          have c02 := cV0_fr c01 hG2 (by unfold Tg; omega)
          have cI2 := cVI_fr cI1 hG2 (by unfold Tg; omega) (fun i hi => by unfold Tg; omega)
          have cE2 := cVE_fr cE1 hG2 (by unfold Tg; omega) (fun k hk => by unfold Tg; omega)
          have cS2 := cVS_fr cS1 hG2 (by unfold Tg; omega)
          have cJ2 := cVJ_fr cJ1 hG2 (by unfold Tg; omega)
          obtain ⟨⟨k52, -⟩, -, -, -, -, -, p4, -⟩ := cI2.2 j hj
          rw [vTake_k (by decide)] at p4
          simp only [e29_68, e29_69, e29_70, e29_71, e29_72, e29_74, e29_76, e29_78, o_iload, o_lload, o_aload, o_istore, o_lstore, o_astore, o_iinc, o_ipush, o_lpush, o_null, o_ibin, o_ineg, o_lbin, o_ldv, o_lneg, o_lcmp, o_i2l, o_l2i, o_dup, o_pop, o_dupx, o_dup2, o_ic, o_iz, o_nul, o_acmp, o_tsw, o_gI, o_gR, o_pI, o_pZ, o_pR, o_iald, o_bald, o_lald, o_aald, o_iast, o_bast, o_last, o_aast, o_alen, o_newa, o_new, o_mna, o_cast, o_calls, o_callv, o_calli, o_oinit, o_getC, o_refp, o_cpi, o_cpo, o_mmax, o_mmin, o_lmin, o_iret, o_zret, o_lret, o_aret, o_vret, jd_lo, jd_la, jd_nl, jd_pop, List.length_cons, List.length_nil, List.set_cons_zero, List.set_cons_succ, List.getElem?_cons_zero, List.getElem?_cons_succ, List.replicate_succ, List.replicate_zero, List.cons_append, List.nil_append, List.append_nil, Value.category, Option.toList, va_rf, true_implies, false_implies, false_and, and_false, and_true, true_and, and_self, true_or, or_true, false_or, or_false, not_true_eq_false, not_false_eq_true, forall_const, implies_true, if_true, if_false, reduceCtorEq, reduceIte, Nat.reduceAdd, Nat.reduceMul, Nat.reduceSub, Nat.reduceDiv, Nat.reduceMod, Nat.reduceEqDiff, Nat.reduceLeDiff, Nat.reduceLT, Nat.zero_le, Nat.lt_add_one, Nat.le_refl, Nat.sub_zero, Nat.zero_lt_succ, ge_iff_le, ji_m2, ji_m1, ji_0, ji_1, ji_2, ji_3, ji_4, ji_5, ji_6, ji_7, ji_8, ji_10, ji_12, ji_29, ji_30, ji_31, ji_40, ji_60, ji_70, ji_80, ji_81, ji_360, ji_512, ji_972, ji_1000000, ji_2147483639, jl_m1, jl_0, jl_1, k52, jn_sc]
          refine k_freightMadeGoodFor (d := d + 7) k52 ?_
          rw [p4]
          have o2 := (cA2.2 (na - 1) ha1).1
          simp only [e29_81, o_iload, o_lload, o_aload, o_istore, o_lstore, o_astore, o_iinc, o_ipush, o_lpush, o_null, o_ibin, o_ineg, o_lbin, o_ldv, o_lneg, o_lcmp, o_i2l, o_l2i, o_dup, o_pop, o_dupx, o_dup2, o_ic, o_iz, o_nul, o_acmp, o_tsw, o_gI, o_gR, o_pI, o_pZ, o_pR, o_iald, o_bald, o_lald, o_aald, o_iast, o_bast, o_last, o_aast, o_alen, o_newa, o_new, o_mna, o_cast, o_calls, o_callv, o_calli, o_oinit, o_getC, o_refp, o_cpi, o_cpo, o_mmax, o_mmin, o_lmin, o_iret, o_zret, o_lret, o_aret, o_vret, jd_lo, jd_la, jd_nl, jd_pop, List.length_cons, List.length_nil, List.set_cons_zero, List.set_cons_succ, List.getElem?_cons_zero, List.getElem?_cons_succ, List.replicate_succ, List.replicate_zero, List.cons_append, List.nil_append, List.append_nil, Value.category, Option.toList, va_rf, true_implies, false_implies, false_and, and_false, and_true, true_and, and_self, true_or, or_true, false_or, or_false, not_true_eq_false, not_false_eq_true, forall_const, implies_true, if_true, if_false, reduceCtorEq, reduceIte, Nat.reduceAdd, Nat.reduceMul, Nat.reduceSub, Nat.reduceDiv, Nat.reduceMod, Nat.reduceEqDiff, Nat.reduceLeDiff, Nat.reduceLT, Nat.zero_le, Nat.lt_add_one, Nat.le_refl, Nat.sub_zero, Nat.zero_lt_succ, ge_iff_le, ji_m2, ji_m1, ji_0, ji_1, ji_2, ji_3, ji_4, ji_5, ji_6, ji_7, ji_8, ji_10, ji_12, ji_29, ji_30, ji_31, ji_40, ji_60, ji_70, ji_80, ji_81, ji_360, ji_512, ji_972, ji_1000000, ji_2147483639, jl_m1, jl_0, jl_1, o2.1.1]
          -- behind the givings
          have fin : ∀ h3, cVA h3 tg ad v na (vGive1 s (na - 1) j y).2.2.1 s.2.2.2 → AG (fun u => u ≠ Tg v 6 (na - 1) ∧ u ≠ Tg v 8 (na - 1) ∧ u ≠ Tg v 9 (na - 1)) h2 h3 tg tg → jd_w g (d + 8) 29 Q 84 [some (.ref (ad 0 0)), some (.int (nI j)), some (.int y), some (.ref (ad 6 (na - 1))), some (.ref (ad 3 j)), some (.int (vLess s j y)), some (.int (vGood s j y))] [] h3 2 805 := fun h3 cA3 hG3 => by
            have c03 := cV0_fr c02 hG3 (by unfold Tg; omega)
            have cI3 := cVI_fr cI2 hG3 (by unfold Tg; omega) (fun i hi => by unfold Tg; omega)
            have cE3 := cVE_fr cE2 hG3 (by unfold Tg; omega) (fun k hk => by unfold Tg; omega)
            have cS3 := cVS_fr cS2 hG3 (by unfold Tg; omega)
            have cJ3 := cVJ_fr cJ2 hG3 (by unfold Tg; omega)
            have hV3 : zI h3 457 (ad 0 0) = s.1 4 := c03.2.2.2.2.2.1
            simp only [e29_84, e29_85, e29_86, e29_87, e29_88, e29_90, o_iload, o_lload, o_aload, o_istore, o_lstore, o_astore, o_iinc, o_ipush, o_lpush, o_null, o_ibin, o_ineg, o_lbin, o_ldv, o_lneg, o_lcmp, o_i2l, o_l2i, o_dup, o_pop, o_dupx, o_dup2, o_ic, o_iz, o_nul, o_acmp, o_tsw, o_gI, o_gR, o_pI, o_pZ, o_pR, o_iald, o_bald, o_lald, o_aald, o_iast, o_bast, o_last, o_aast, o_alen, o_newa, o_new, o_mna, o_cast, o_calls, o_callv, o_calli, o_oinit, o_getC, o_refp, o_cpi, o_cpo, o_mmax, o_mmin, o_lmin, o_iret, o_zret, o_lret, o_aret, o_vret, jd_lo, jd_la, jd_nl, jd_pop, List.length_cons, List.length_nil, List.set_cons_zero, List.set_cons_succ, List.getElem?_cons_zero, List.getElem?_cons_succ, List.replicate_succ, List.replicate_zero, List.cons_append, List.nil_append, List.append_nil, Value.category, Option.toList, va_rf, true_implies, false_implies, false_and, and_false, and_true, true_and, and_self, true_or, or_true, false_or, or_false, not_true_eq_false, not_false_eq_true, forall_const, implies_true, if_true, if_false, reduceCtorEq, reduceIte, Nat.reduceAdd, Nat.reduceMul, Nat.reduceSub, Nat.reduceDiv, Nat.reduceMod, Nat.reduceEqDiff, Nat.reduceLeDiff, Nat.reduceLT, Nat.zero_le, Nat.lt_add_one, Nat.le_refl, Nat.sub_zero, Nat.zero_lt_succ, ge_iff_le, ji_m2, ji_m1, ji_0, ji_1, ji_2, ji_3, ji_4, ji_5, ji_6, ji_7, ji_8, ji_10, ji_12, ji_29, ji_30, ji_31, ji_40, ji_60, ji_70, ji_80, ji_81, ji_360, ji_512, ji_972, ji_1000000, ji_2147483639, jl_m1, jl_0, jl_1, c03.1.1]
            refine k_noteT (d := d) cE3 c03.1.1 c03.2.1.2.2.1 hl (fun h4 tg4 ad4 hd4 cE4 hG4 => ⟨fun _ => ?_, fun z => absurd (Or.inl rfl) z⟩)
            have d16 : ∀ k i, k ≠ 16 → ad4 k i = ad k i := fun k i hk => hd4 k i (fun z => hk z.1)
            have c04 := cV0_fr c03 hG4 (by unfold Tg; omega)
            have cI4 := cVI_fr cI3 hG4 (by unfold Tg; omega) (fun i hi => by unfold Tg; omega)
            have cA4 := cVA_fr cA3 hG4 (by unfold Tg; omega) (fun a k _ _ _ => by unfold Tg; omega)
            have cS4 := cVS_fr cS3 hG4 (by unfold Tg; omega)
            have cJ4 := cVJ_fr cJ3 hG4 (by unfold Tg; omega)
            simp only [e29_93, e29_95, o_iload, o_lload, o_aload, o_istore, o_lstore, o_astore, o_iinc, o_ipush, o_lpush, o_null, o_ibin, o_ineg, o_lbin, o_ldv, o_lneg, o_lcmp, o_i2l, o_l2i, o_dup, o_pop, o_dupx, o_dup2, o_ic, o_iz, o_nul, o_acmp, o_tsw, o_gI, o_gR, o_pI, o_pZ, o_pR, o_iald, o_bald, o_lald, o_aald, o_iast, o_bast, o_last, o_aast, o_alen, o_newa, o_new, o_mna, o_cast, o_calls, o_callv, o_calli, o_oinit, o_getC, o_refp, o_cpi, o_cpo, o_mmax, o_mmin, o_lmin, o_iret, o_zret, o_lret, o_aret, o_vret, jd_lo, jd_la, jd_nl, jd_pop, List.length_cons, List.length_nil, List.set_cons_zero, List.set_cons_succ, List.getElem?_cons_zero, List.getElem?_cons_succ, List.replicate_succ, List.replicate_zero, List.cons_append, List.nil_append, List.append_nil, Value.category, Option.toList, va_rf, true_implies, false_implies, false_and, and_false, and_true, true_and, and_self, true_or, or_true, false_or, or_false, not_true_eq_false, not_false_eq_true, forall_const, implies_true, if_true, if_false, reduceCtorEq, reduceIte, Nat.reduceAdd, Nat.reduceMul, Nat.reduceSub, Nat.reduceDiv, Nat.reduceMod, Nat.reduceEqDiff, Nat.reduceLeDiff, Nat.reduceLT, Nat.zero_le, Nat.lt_add_one, Nat.le_refl, Nat.sub_zero, Nat.zero_lt_succ, ge_iff_le, ji_m2, ji_m1, ji_0, ji_1, ji_2, ji_3, ji_4, ji_5, ji_6, ji_7, ji_8, ji_10, ji_12, ji_29, ji_30, ji_31, ji_40, ji_60, ji_70, ji_80, ji_81, ji_360, ji_512, ji_972, ji_1000000, ji_2147483639, jl_m1, jl_0, jl_1]
            have hz := (congrArg (fun z => vDo (nI q) po z (ev7 3 (nI j) y 0 0 0 0)) hs).trans hvd
            refine hQ1 _ _ h4 tg4 ad4 hvd (cVoy_mk hV hO hK ⟨3, by decide, rfl⟩ hz ?_ ?_ ?_ (cVE_cg cE4 (fun k hk => ?_)) ?_ (fun z => absurd z (show ¬ (3 : Int32) = 6 by decide)) (fun z => absurd h6 z)) (d16 0 0 (by decide)) cJ4 (AG_t (AG_w hG1 (fun u hu i hi => by unfold PV Tg at hu; unfold Tg; omega)) (AG_t (AG_w hG2 (fun u hu => by unfold PV Tg at hu; unfold Tg; omega)) (AG_t (AG_w hG3 (fun u hu => by unfold PV Tg at hu; unfold Tg; omega)) (AG_w hG4 (fun u hu => by unfold PV Tg at hu; unfold Tg; omega)))))
            · exact cV0_ad (cV0_cg c04 (fS_of rfl rfl rfl rfl rfl)) (fun k hk => d16 k 0 (by omega))
            · have : cn (vGive1 s (na - 1) j y) = n := hcn
              rw [this]
              exact cVI_ad cI4 (d16 1 0 (by decide)) (fun i _ => d16 3 i (by decide))
            · have : ca (vGive1 s (na - 1) j y) = na := hca
              rw [this]
              exact cVA_ad cA4 (d16 4 0 (by decide)) (fun a k _ _ _ => d16 k a (by omega))
            · by_cases e : k = l.length
              · rw [if_pos e]
                funext c
                rw [if_pos e, hV3, hs]
                show evR 3 (nI j) y (vLess s (nn (nI j)) y) (s.1 4) c = _
                rw [show nn (nI j) = j from hcl]
              · rw [if_neg e]
                funext c
                rw [if_neg e]
            · exact cVS_ad cS4 (fun k _ _ => d16 k 0 (by omega))
          -- what stands after the second
          have hfr := fr_iff hI hJ hj
          by_cases h7 : s.2.1 7 j = -1
          · have e0 : vLess s j y = 0 := by unfold vLess; rw [if_pos h7]
            have eg : (vGive1 s (na - 1) j y).2.2.1 = u3 (u3 s.2.2.1 1 (na - 1) j (s.2.2.1 1 (na - 1) j + y)) 2 (na - 1) j (s.2.2.1 2 (na - 1) j + vGood s j y) := by
              unfold vGive1
              dsimp only
              rw [if_pos h7]
            by_cases hj80 : j + 1 < 81
            · refine k_addG (d := d + 6) cA2 ha1 hna hj80 (fun h3 cA3 hG3 => fin h3 (cVA_cg cA3 (fun k a i _ _ _ => ?_) (fun _ _ _ _ => rfl)) hG3)
              rw [eg, e0, ite_self]
              have z0 : ∀ x : Int32, x + 0 = x := fun x => Int32.add_zero x
              rw [z0, z0]
              generalize u3 (u3 s.2.2.1 1 (na - 1) j (s.2.2.1 1 (na - 1) j + y)) 2 (na - 1) j (s.2.2.1 2 (na - 1) j + vGood s j y) = G
              unfold u3
              by_cases w1 : k = 2 ∧ a = na - 1 ∧ i = j + 1
              · rw [if_pos w1, w1.1, w1.2.1, w1.2.2]
              · rw [if_neg w1]
                by_cases w2 : k = 1 ∧ a = na - 1 ∧ i = j + 1
                · rw [if_pos w2, w2.1, w2.2.1, w2.2.2]
                · rw [if_neg w2]
            · have ej : j + 1 = 81 := by omega
              rw [ej]
              exact k_addG0 (d := d + 6) o2.1.1 (fin h2 (by rw [eg]; exact cA2) AG_r)
          · obtain ⟨e7, ecl⟩ := hfr.2 h7
            have hj1 : j + 1 < n := by
              apply Classical.byContradiction
              intro z
              exact h7 (hfr.1.mpr (fun w => z w.1))
            refine k_addG (d := d + 6) cA2 ha1 hna (show j + 1 < 81 by omega) (fun h3 cA3 hG3 => fin h3 (cVA_cg cA3 (fun k a i _ _ _ => ?_) (fun _ _ _ _ => rfl)) hG3)
            unfold vGive1
            dsimp only
            rw [if_neg h7, ecl]
            have w1 : u3 (u3 s.2.2.1 1 (na - 1) j (s.2.2.1 1 (na - 1) j + y)) 2 (na - 1) j (s.2.2.1 2 (na - 1) j + vGood s j y) 1 (na - 1) (j + 1) = s.2.2.1 1 (na - 1) (j + 1) := by
              unfold u3
              rw [if_neg (fun z => by omega), if_neg (fun z => by omega)]
            have w2 : u3 (u3 s.2.2.1 1 (na - 1) j (s.2.2.1 1 (na - 1) j + y)) 2 (na - 1) j (s.2.2.1 2 (na - 1) j + vGood s j y) 2 (na - 1) (j + 1) = s.2.2.1 2 (na - 1) (j + 1) := by
              unfold u3
              rw [if_neg (fun z => by omega), if_neg (fun z => by omega)]
            rw [w1, w2]
        · rw [if_neg hc]
          rw [if_neg (fun z => hc ⟨(aboard_iff hI hJ hj).mpr z.2.2.2.1, z.2.2.1, z.2.2.2.2⟩)] at hvd
          simp only [e29_39, e29_42, e29_43, o_iload, o_lload, o_aload, o_istore, o_lstore, o_astore, o_iinc, o_ipush, o_lpush, o_null, o_ibin, o_ineg, o_lbin, o_ldv, o_lneg, o_lcmp, o_i2l, o_l2i, o_dup, o_pop, o_dupx, o_dup2, o_ic, o_iz, o_nul, o_acmp, o_tsw, o_gI, o_gR, o_pI, o_pZ, o_pR, o_iald, o_bald, o_lald, o_aald, o_iast, o_bast, o_last, o_aast, o_alen, o_newa, o_new, o_mna, o_cast, o_calls, o_callv, o_calli, o_oinit, o_getC, o_refp, o_cpi, o_cpo, o_mmax, o_mmin, o_lmin, o_iret, o_zret, o_lret, o_aret, o_vret, jd_lo, jd_la, jd_nl, jd_pop, List.length_cons, List.length_nil, List.set_cons_zero, List.set_cons_succ, List.getElem?_cons_zero, List.getElem?_cons_succ, List.replicate_succ, List.replicate_zero, List.cons_append, List.nil_append, List.append_nil, Value.category, Option.toList, va_rf, true_implies, false_implies, false_and, and_false, and_true, true_and, and_self, true_or, or_true, false_or, or_false, not_true_eq_false, not_false_eq_true, forall_const, implies_true, if_true, if_false, reduceCtorEq, reduceIte, Nat.reduceAdd, Nat.reduceMul, Nat.reduceSub, Nat.reduceDiv, Nat.reduceMod, Nat.reduceEqDiff, Nat.reduceLeDiff, Nat.reduceLT, Nat.zero_le, Nat.lt_add_one, Nat.le_refl, Nat.sub_zero, Nat.zero_lt_succ, ge_iff_le, ji_m2, ji_m1, ji_0, ji_1, ji_2, ji_3, ji_4, ji_5, ji_6, ji_7, ji_8, ji_10, ji_12, ji_29, ji_30, ji_31, ji_40, ji_60, ji_70, ji_80, ji_81, ji_360, ji_512, ji_972, ji_1000000, ji_2147483639, jl_m1, jl_0, jl_1]
          exact hQ0 hvd
      · rw [if_neg h6]
        simp only [e29_29, e29_42, e29_43, o_iload, o_lload, o_aload, o_istore, o_lstore, o_astore, o_iinc, o_ipush, o_lpush, o_null, o_ibin, o_ineg, o_lbin, o_ldv, o_lneg, o_lcmp, o_i2l, o_l2i, o_dup, o_pop, o_dupx, o_dup2, o_ic, o_iz, o_nul, o_acmp, o_tsw, o_gI, o_gR, o_pI, o_pZ, o_pR, o_iald, o_bald, o_lald, o_aald, o_iast, o_bast, o_last, o_aast, o_alen, o_newa, o_new, o_mna, o_cast, o_calls, o_callv, o_calli, o_oinit, o_getC, o_refp, o_cpi, o_cpo, o_mmax, o_mmin, o_lmin, o_iret, o_zret, o_lret, o_aret, o_vret, jd_lo, jd_la, jd_nl, jd_pop, List.length_cons, List.length_nil, List.set_cons_zero, List.set_cons_succ, List.getElem?_cons_zero, List.getElem?_cons_succ, List.replicate_succ, List.replicate_zero, List.cons_append, List.nil_append, List.append_nil, Value.category, Option.toList, va_rf, true_implies, false_implies, false_and, and_false, and_true, true_and, and_self, true_or, or_true, false_or, or_false, not_true_eq_false, not_false_eq_true, forall_const, implies_true, if_true, if_false, reduceCtorEq, reduceIte, Nat.reduceAdd, Nat.reduceMul, Nat.reduceSub, Nat.reduceDiv, Nat.reduceMod, Nat.reduceEqDiff, Nat.reduceLeDiff, Nat.reduceLT, Nat.zero_le, Nat.lt_add_one, Nat.le_refl, Nat.sub_zero, Nat.zero_lt_succ, ge_iff_le, ji_m2, ji_m1, ji_0, ji_1, ji_2, ji_3, ji_4, ji_5, ji_6, ji_7, ji_8, ji_10, ji_12, ji_29, ji_30, ji_31, ji_40, ji_60, ji_70, ji_80, ji_81, ji_360, ji_512, ji_972, ji_1000000, ji_2147483639, jl_m1, jl_0, jl_1]
        exact hQ0 (vDo_E h6)
    · simp only [e29_14, e29_16, e29_17, e29_20, e29_22, e29_42, e29_43, o_iload, o_lload, o_aload, o_istore, o_lstore, o_astore, o_iinc, o_ipush, o_lpush, o_null, o_ibin, o_ineg, o_lbin, o_ldv, o_lneg, o_lcmp, o_i2l, o_l2i, o_dup, o_pop, o_dupx, o_dup2, o_ic, o_iz, o_nul, o_acmp, o_tsw, o_gI, o_gR, o_pI, o_pZ, o_pR, o_iald, o_bald, o_lald, o_aald, o_iast, o_bast, o_last, o_aast, o_alen, o_newa, o_new, o_mna, o_cast, o_calls, o_callv, o_calli, o_oinit, o_getC, o_refp, o_cpi, o_cpo, o_mmax, o_mmin, o_lmin, o_iret, o_zret, o_lret, o_aret, o_vret, jd_lo, jd_la, jd_nl, jd_pop, List.length_cons, List.length_nil, List.set_cons_zero, List.set_cons_succ, List.getElem?_cons_zero, List.getElem?_cons_succ, List.replicate_succ, List.replicate_zero, List.cons_append, List.nil_append, List.append_nil, Value.category, Option.toList, va_rf, true_implies, false_implies, false_and, and_false, and_true, true_and, and_self, true_or, or_true, false_or, or_false, not_true_eq_false, not_false_eq_true, forall_const, implies_true, if_true, if_false, reduceCtorEq, reduceIte, Nat.reduceAdd, Nat.reduceMul, Nat.reduceSub, Nat.reduceDiv, Nat.reduceMod, Nat.reduceEqDiff, Nat.reduceLeDiff, Nat.reduceLT, Nat.zero_le, Nat.lt_add_one, Nat.le_refl, Nat.sub_zero, Nat.zero_lt_succ, ge_iff_le, ji_m2, ji_m1, ji_0, ji_1, ji_2, ji_3, ji_4, ji_5, ji_6, ji_7, ji_8, ji_10, ji_12, ji_29, ji_30, ji_31, ji_40, ji_60, ji_70, ji_80, ji_81, ji_360, ji_512, ji_972, ji_1000000, ji_2147483639, jl_m1, jl_0, jl_1]
      exact hQ0 (hno6 (Or.inl hno))
  · have hop : s.1 4 = -1 := by
      rcases hI.2.2.2.2.1 with z | ⟨z1, z2⟩
      · exact z
      · exact absurd z2 (hno (na - 1) (by omega))
    simp only [e29_8, e29_9, e29_10, e29_11, o_iload, o_lload, o_aload, o_istore, o_lstore, o_astore, o_iinc, o_ipush, o_lpush, o_null, o_ibin, o_ineg, o_lbin, o_ldv, o_lneg, o_lcmp, o_i2l, o_l2i, o_dup, o_pop, o_dupx, o_dup2, o_ic, o_iz, o_nul, o_acmp, o_tsw, o_gI, o_gR, o_pI, o_pZ, o_pR, o_iald, o_bald, o_lald, o_aald, o_iast, o_bast, o_last, o_aast, o_alen, o_newa, o_new, o_mna, o_cast, o_calls, o_callv, o_calli, o_oinit, o_getC, o_refp, o_cpi, o_cpo, o_mmax, o_mmin, o_lmin, o_iret, o_zret, o_lret, o_aret, o_vret, jd_lo, jd_la, jd_nl, jd_pop, List.length_cons, List.length_nil, List.set_cons_zero, List.set_cons_succ, List.getElem?_cons_zero, List.getElem?_cons_succ, List.replicate_succ, List.replicate_zero, List.cons_append, List.nil_append, List.append_nil, Value.category, Option.toList, va_rf, true_implies, false_implies, false_and, and_false, and_true, true_and, and_self, true_or, or_true, false_or, or_false, not_true_eq_false, not_false_eq_true, forall_const, implies_true, if_true, if_false, reduceCtorEq, reduceIte, Nat.reduceAdd, Nat.reduceMul, Nat.reduceSub, Nat.reduceDiv, Nat.reduceMod, Nat.reduceEqDiff, Nat.reduceLeDiff, Nat.reduceLT, Nat.zero_le, Nat.lt_add_one, Nat.le_refl, Nat.sub_zero, Nat.zero_lt_succ, ge_iff_le, ji_m2, ji_m1, ji_0, ji_1, ji_2, ji_3, ji_4, ji_5, ji_6, ji_7, ji_8, ji_10, ji_12, ji_29, ji_30, ji_31, ji_40, ji_60, ji_70, ji_80, ji_81, ji_360, ji_512, ji_972, ji_1000000, ji_2147483639, jl_m1, jl_0, jl_1, kV]
    refine k_iAt (d := d + 4) kV r448 cI.1 (by omega) (fun i hi => (cI.2 i hi).1.1) (fun j hj hxj => ?_) (fun hno => ?_)
    · simp only [e29_14, e29_16, e29_17, e29_42, e29_43, o_iload, o_lload, o_aload, o_istore, o_lstore, o_astore, o_iinc, o_ipush, o_lpush, o_null, o_ibin, o_ineg, o_lbin, o_ldv, o_lneg, o_lcmp, o_i2l, o_l2i, o_dup, o_pop, o_dupx, o_dup2, o_ic, o_iz, o_nul, o_acmp, o_tsw, o_gI, o_gR, o_pI, o_pZ, o_pR, o_iald, o_bald, o_lald, o_aald, o_iast, o_bast, o_last, o_aast, o_alen, o_newa, o_new, o_mna, o_cast, o_calls, o_callv, o_calli, o_oinit, o_getC, o_refp, o_cpi, o_cpo, o_mmax, o_mmin, o_lmin, o_iret, o_zret, o_lret, o_aret, o_vret, jd_lo, jd_la, jd_nl, jd_pop, List.length_cons, List.length_nil, List.set_cons_zero, List.set_cons_succ, List.getElem?_cons_zero, List.getElem?_cons_succ, List.replicate_succ, List.replicate_zero, List.cons_append, List.nil_append, List.append_nil, Value.category, Option.toList, va_rf, true_implies, false_implies, false_and, and_false, and_true, true_and, and_self, true_or, or_true, false_or, or_false, not_true_eq_false, not_false_eq_true, forall_const, implies_true, if_true, if_false, reduceCtorEq, reduceIte, Nat.reduceAdd, Nat.reduceMul, Nat.reduceSub, Nat.reduceDiv, Nat.reduceMod, Nat.reduceEqDiff, Nat.reduceLeDiff, Nat.reduceLT, Nat.zero_le, Nat.lt_add_one, Nat.le_refl, Nat.sub_zero, Nat.zero_lt_succ, ge_iff_le, ji_m2, ji_m1, ji_0, ji_1, ji_2, ji_3, ji_4, ji_5, ji_6, ji_7, ji_8, ji_10, ji_12, ji_29, ji_30, ji_31, ji_40, ji_60, ji_70, ji_80, ji_81, ji_360, ji_512, ji_972, ji_1000000, ji_2147483639, jl_m1, jl_0, jl_1]
      exact hQ0 (hno6 (Or.inr hop))
    · simp only [e29_14, e29_16, e29_17, e29_42, e29_43, o_iload, o_lload, o_aload, o_istore, o_lstore, o_astore, o_iinc, o_ipush, o_lpush, o_null, o_ibin, o_ineg, o_lbin, o_ldv, o_lneg, o_lcmp, o_i2l, o_l2i, o_dup, o_pop, o_dupx, o_dup2, o_ic, o_iz, o_nul, o_acmp, o_tsw, o_gI, o_gR, o_pI, o_pZ, o_pR, o_iald, o_bald, o_lald, o_aald, o_iast, o_bast, o_last, o_aast, o_alen, o_newa, o_new, o_mna, o_cast, o_calls, o_callv, o_calli, o_oinit, o_getC, o_refp, o_cpi, o_cpo, o_mmax, o_mmin, o_lmin, o_iret, o_zret, o_lret, o_aret, o_vret, jd_lo, jd_la, jd_nl, jd_pop, List.length_cons, List.length_nil, List.set_cons_zero, List.set_cons_succ, List.getElem?_cons_zero, List.getElem?_cons_succ, List.replicate_succ, List.replicate_zero, List.cons_append, List.nil_append, List.append_nil, Value.category, Option.toList, va_rf, true_implies, false_implies, false_and, and_false, and_true, true_and, and_self, true_or, or_true, false_or, or_false, not_true_eq_false, not_false_eq_true, forall_const, implies_true, if_true, if_false, reduceCtorEq, reduceIte, Nat.reduceAdd, Nat.reduceMul, Nat.reduceSub, Nat.reduceDiv, Nat.reduceMod, Nat.reduceEqDiff, Nat.reduceLeDiff, Nat.reduceLT, Nat.zero_le, Nat.lt_add_one, Nat.le_refl, Nat.sub_zero, Nat.zero_lt_succ, ge_iff_le, ji_m2, ji_m1, ji_0, ji_1, ji_2, ji_3, ji_4, ji_5, ji_6, ji_7, ji_8, ji_10, ji_12, ji_29, ji_30, ji_31, ji_40, ji_60, ji_70, ji_80, ji_81, ji_360, ji_512, ji_972, ji_1000000, ji_2147483639, jl_m1, jl_0, jl_1]
      exact hQ0 (hno6 (Or.inr hop))
end
