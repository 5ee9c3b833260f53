/-! the class: takeBack -/
section
variable {g d : Nat} {h : jd_H} {Q : jd_Q} {tg aj : Nat → Nat} {ad : Nat → Nat → Nat} {v q n lo na p V E j : Nat} {po w0 pp : Int32} {s : VS} {F : Nat → Nat → Nat → Int32} {sp : Nat → Nat → Int32} {y ft : Int32} {l : List Ev} {e : Ev}
theorem ijcan (a b : Int32) : a + b + -b = a := by rw [← Int32.sub_eq_add_neg, Int32.add_sub_cancel]
/-- putting back what was taken -/
theorem vTake_un (hI : IV pp s n lo na p) (hJ : JV q s n na p) (hj : j < n) (y : Int32) : ∀ k i, k < 7 → i < n → s.2.1 k i = (if j + 1 < n ∧ vTake s j y 6 (j + 1) = nI j then u2 (u2 (vTake s j y) 2 j (vTake s j y 2 j + y)) 2 (j + 1) (vTake s j y 2 (j + 1) + vLess s j y) else u2 (vTake s j y) 2 j (vTake s j y 2 j + y)) k i := fun k i hk hi => by
  have f6 : vTake s j y 6 (j + 1) = s.2.1 6 (j + 1) := vTake_k (by decide)
  have fj := vTake_self hI hj y
  obtain ⟨r1, r2⟩ := fr_iff hI hJ hj
  rw [f6, fj, Int32.sub_add_cancel]
  by_cases h7 : s.2.1 7 j = -1
  · rw [if_neg (r1.mp h7)]
    unfold vTake u2
    rw [if_pos h7]
    by_cases z : k = 2 ∧ i = j
    · rw [if_pos z, z.1, z.2]
    · rw [if_neg z, if_neg z]
  · have hj1 : j + 1 < n ∧ s.2.1 6 (j + 1) = nI j := by
      apply Classical.byContradiction
      intro z
      exact h7 (r1.mpr z)
    obtain ⟨e7, ecl⟩ := r2 h7
    rw [if_pos hj1]
    have f1 : vTake s j y 2 (j + 1) = s.2.1 2 (j + 1) - vLess s j y := by
      unfold vTake u2
      rw [if_neg h7, ecl]
      exact if_pos ⟨rfl, rfl⟩
    rw [f1, Int32.sub_add_cancel]
    unfold vTake u2
    rw [if_neg h7, ecl]
    by_cases z1 : k = 2 ∧ i = j + 1
    · rw [if_pos z1, z1.1, z1.2]
    · rw [if_neg z1]
      by_cases z : k = 2 ∧ i = j
      · rw [if_pos z, z.1, z.2]
      · rw [if_neg z]
        show _ = (if k = 2 ∧ i = j + 1 then _ else if k = 2 ∧ i = j then _ else s.2.1 k i)
        rw [if_neg z1, if_neg z]
set_option maxRecDepth 100000 in
theorem k_ungive {a : Nat} (hI : IV pp s n lo na p) (hJ : JV q s n na p) (kV : zK h V = 7) (tV : tg V = Tg v 0 0) (r448 : zR h 448 V = some (ad 1 0)) (r449 : zR h 449 V = some (ad 4 0)) (i457 : zI h 457 V = nI a) (cI : cVI h tg ad v n (vTake s j y)) (cA : cVA h tg ad v na (vGive1 s a j y).2.2.1 s.2.2.2) (ha : a < na) (hj : j < n) (cE : cEv h tg v E j y (vLess s j y))
    (hQ : ∀ h', cVI h' tg ad v n s.2.1 → cVA h' tg ad v na s.2.2.1 s.2.2.2 → AG (fun u => (∀ i, i < n → u ≠ Tg v 3 i) ∧ u ≠ Tg v 6 a ∧ u ≠ Tg v 8 a ∧ u ≠ Tg v 9 a) h h' tg tg → Q none h') : jd_WM g (d + 7) 46 [.ref V, .ref E] h Q := by
  refine ⟨Nat.le_of_ble_eq_true rfl, ?_⟩; show jd_w g (d + 6) 46 Q 0 [some (.ref V), some (.ref E), none, none, none] [] h 0 0
  have hn81 := IV_81 hI
  have hna := hI.2.2.1.2
  have V0 : zK h V ≠ 0 := by rw [kV]; decide
  simp only [e46_0, e46_1, e46_2, o_iload, o_lload, o_aload, o_istore, o_lstore, o_astore, o_iinc, o_ipush, o_lpush, o_null, o_ibin, o_ineg, o_lbin, o_ldv, o_lneg, o_lcmp, o_i2l, o_l2i, o_dup, o_pop, o_dupx, o_dup2, o_ic, o_iz, o_nul, o_acmp, o_tsw, o_gI, o_gR, o_pI, o_pZ, o_pR, o_iald, o_bald, o_lald, o_aald, o_iast, o_bast, o_last, o_aast, o_alen, o_newa, o_new, o_mna, o_cast, o_calls, o_callv, o_calli, o_oinit, o_getC, o_refp, o_cpi, o_cpo, o_mmax, o_mmin, o_lmin, o_iret, o_zret, o_lret, o_aret, o_vret, jd_lo, jd_la, jd_nl, jd_pop, List.length_cons, List.length_nil, List.set_cons_zero, List.set_cons_succ, List.getElem?_cons_zero, List.getElem?_cons_succ, List.replicate_succ, List.replicate_zero, List.cons_append, List.nil_append, List.append_nil, Value.category, Option.toList, va_rf, true_implies, false_implies, false_and, and_false, and_true, true_and, and_self, true_or, or_true, false_or, or_false, not_true_eq_false, not_false_eq_true, forall_const, implies_true, if_true, if_false, reduceCtorEq, reduceIte, Nat.reduceAdd, Nat.reduceMul, Nat.reduceSub, Nat.reduceDiv, Nat.reduceMod, Nat.reduceEqDiff, Nat.reduceLeDiff, Nat.reduceLT, Nat.zero_le, Nat.lt_add_one, Nat.le_refl, Nat.sub_zero, Nat.zero_lt_succ, ge_iff_le, ji_m2, ji_m1, ji_0, ji_1, ji_2, ji_3, ji_4, ji_5, ji_6, ji_7, ji_8, ji_10, ji_12, ji_29, ji_30, ji_31, ji_40, ji_60, ji_70, ji_80, ji_81, ji_360, ji_512, ji_972, ji_1000000, ji_2147483639, jl_m1, jl_0, jl_1, kV]
  refine k_putBack (d := d) kV tV r448 cI hn81 hj cE (fun h1 c1 g1 => ?_)
  have cI1 : cVI h1 tg ad v n s.2.1 := cVI_cg c1 (fun k i hk hi => vTake_un hI hJ hj y k i hk hi)
  have kV1 : zK h1 V = 7 := AG_K g1 kV (by decide)
  have pV : ∀ i, i < n → tg V ≠ Tg v 3 i := fun i hi => by rw [tV]; unfold Tg; omega
  have q448 : zR h1 448 V = some (ad 1 0) := (AG_R g1 V0 pV 448).trans r448
  have q449 : zR h1 449 V = some (ad 4 0) := (AG_R g1 V0 pV 449).trans r449
  have q457 : zI h1 457 V = nI a := (AG_I g1 V0 pV 457).trans i457
  have cA1 := cVA_fr cA g1 (fun i hi => by unfold Tg; omega) (fun b k _ _ _ i hi => by unfold Tg; omega)
  have cE1 := cEv_fr cE g1 (fun k hk i hi => by unfold Tg; omega)
  have cE1' := cE1
  obtain ⟨kE, -, e257, e258, e259⟩ := cE1'
  simp only [e46_5, e46_6, e46_7, e46_10, o_iload, o_lload, o_aload, o_istore, o_lstore, o_astore, o_iinc, o_ipush, o_lpush, o_null, o_ibin, o_ineg, o_lbin, o_ldv, o_lneg, o_lcmp, o_i2l, o_l2i, o_dup, o_pop, o_dupx, o_dup2, o_ic, o_iz, o_nul, o_acmp, o_tsw, o_gI, o_gR, o_pI, o_pZ, o_pR, o_iald, o_bald, o_lald, o_aald, o_iast, o_bast, o_last, o_aast, o_alen, o_newa, o_new, o_mna, o_cast, o_calls, o_callv, o_calli, o_oinit, o_getC, o_refp, o_cpi, o_cpo, o_mmax, o_mmin, o_lmin, o_iret, o_zret, o_lret, o_aret, o_vret, jd_lo, jd_la, jd_nl, jd_pop, List.length_cons, List.length_nil, List.set_cons_zero, List.set_cons_succ, List.getElem?_cons_zero, List.getElem?_cons_succ, List.replicate_succ, List.replicate_zero, List.cons_append, List.nil_append, List.append_nil, Value.category, Option.toList, va_rf, true_implies, false_implies, false_and, and_false, and_true, true_and, and_self, true_or, or_true, false_or, or_false, not_true_eq_false, not_false_eq_true, forall_const, implies_true, if_true, if_false, reduceCtorEq, reduceIte, Nat.reduceAdd, Nat.reduceMul, Nat.reduceSub, Nat.reduceDiv, Nat.reduceMod, Nat.reduceEqDiff, Nat.reduceLeDiff, Nat.reduceLT, Nat.zero_le, Nat.lt_add_one, Nat.le_refl, Nat.sub_zero, Nat.zero_lt_succ, ge_iff_le, ji_m2, ji_m1, ji_0, ji_1, ji_2, ji_3, ji_4, ji_5, ji_6, ji_7, ji_8, ji_10, ji_12, ji_29, ji_30, ji_31, ji_40, ji_60, ji_70, ji_80, ji_81, ji_360, ji_512, ji_972, ji_1000000, ji_2147483639, jl_m1, jl_0, jl_1, kV1, q457]
  refine k_aAt (d := d + 2) kV1 q449 cA1.1 (by omega) (fun a ha => (cA1.2 a ha).1.1.1) (fun a' ha' z => ?_) (fun hno => absurd rfl (hno a ha))
  have z' := (nI_eq (by omega) (by omega)).mp z
  subst z'
  simp only [e46_13, e46_14, e46_15, e46_16, e46_19, o_iload, o_lload, o_aload, o_istore, o_lstore, o_astore, o_iinc, o_ipush, o_lpush, o_null, o_ibin, o_ineg, o_lbin, o_ldv, o_lneg, o_lcmp, o_i2l, o_l2i, o_dup, o_pop, o_dupx, o_dup2, o_ic, o_iz, o_nul, o_acmp, o_tsw, o_gI, o_gR, o_pI, o_pZ, o_pR, o_iald, o_bald, o_lald, o_aald, o_iast, o_bast, o_last, o_aast, o_alen, o_newa, o_new, o_mna, o_cast, o_calls, o_callv, o_calli, o_oinit, o_getC, o_refp, o_cpi, o_cpo, o_mmax, o_mmin, o_lmin, o_iret, o_zret, o_lret, o_aret, o_vret, jd_lo, jd_la, jd_nl, jd_pop, List.length_cons, List.length_nil, List.set_cons_zero, List.set_cons_succ, List.getElem?_cons_zero, List.getElem?_cons_succ, List.replicate_succ, List.replicate_zero, List.cons_append, List.nil_append, List.append_nil, Value.category, Option.toList, va_rf, true_implies, false_implies, false_and, and_false, and_true, true_and, and_self, true_or, or_true, false_or, or_false, not_true_eq_false, not_false_eq_true, forall_const, implies_true, if_true, if_false, reduceCtorEq, reduceIte, Nat.reduceAdd, Nat.reduceMul, Nat.reduceSub, Nat.reduceDiv, Nat.reduceMod, Nat.reduceEqDiff, Nat.reduceLeDiff, Nat.reduceLT, Nat.zero_le, Nat.lt_add_one, Nat.le_refl, Nat.sub_zero, Nat.zero_lt_succ, ge_iff_le, ji_m2, ji_m1, ji_0, ji_1, ji_2, ji_3, ji_4, ji_5, ji_6, ji_7, ji_8, ji_10, ji_12, ji_29, ji_30, ji_31, ji_40, ji_60, ji_70, ji_80, ji_81, ji_360, ji_512, ji_972, ji_1000000, ji_2147483639, jl_m1, jl_0, jl_1, kV1, kE, e257]
  refine k_iAt (d := d + 2) kV1 q448 cI1.1 (by omega) (fun i hi => (cI1.2 i hi).1.1) (fun j' hj' z => ?_) (fun hno => absurd rfl (hno j hj))
  have z' := (nI_eq (by omega) (by omega)).mp z
  subst z'
  obtain ⟨⟨k5, -⟩, -, g1w, g3, -, -, g4, -⟩ := cI1.2 j hj
  simp only [e46_22, e46_23, e46_24, e46_27, e46_28, e46_31, e46_32, e46_35, e46_37, e46_38, e46_39, e46_42, e46_43, e46_46, e46_47, e46_48, e46_49, e46_52, o_iload, o_lload, o_aload, o_istore, o_lstore, o_astore, o_iinc, o_ipush, o_lpush, o_null, o_ibin, o_ineg, o_lbin, o_ldv, o_lneg, o_lcmp, o_i2l, o_l2i, o_dup, o_pop, o_dupx, o_dup2, o_ic, o_iz, o_nul, o_acmp, o_tsw, o_gI, o_gR, o_pI, o_pZ, o_pR, o_iald, o_bald, o_lald, o_aald, o_iast, o_bast, o_last, o_aast, o_alen, o_newa, o_new, o_mna, o_cast, o_calls, o_callv, o_calli, o_oinit, o_getC, o_refp, o_cpi, o_cpo, o_mmax, o_mmin, o_lmin, o_iret, o_zret, o_lret, o_aret, o_vret, jd_lo, jd_la, jd_nl, jd_pop, List.length_cons, List.length_nil, List.set_cons_zero, List.set_cons_succ, List.getElem?_cons_zero, List.getElem?_cons_succ, List.replicate_succ, List.replicate_zero, List.cons_append, List.nil_append, List.append_nil, Value.category, Option.toList, va_rf, true_implies, false_implies, false_and, and_false, and_true, true_and, and_self, true_or, or_true, false_or, or_false, not_true_eq_false, not_false_eq_true, forall_const, implies_true, if_true, if_false, reduceCtorEq, reduceIte, Nat.reduceAdd, Nat.reduceMul, Nat.reduceSub, Nat.reduceDiv, Nat.reduceMod, Nat.reduceEqDiff, Nat.reduceLeDiff, Nat.reduceLT, Nat.zero_le, Nat.lt_add_one, Nat.le_refl, Nat.sub_zero, Nat.zero_lt_succ, ge_iff_le, ji_m2, ji_m1, ji_0, ji_1, ji_2, ji_3, ji_4, ji_5, ji_6, ji_7, ji_8, ji_10, ji_12, ji_29, ji_30, ji_31, ji_40, ji_60, ji_70, ji_80, ji_81, ji_360, ji_512, ji_972, ji_1000000, ji_2147483639, jl_m1, jl_0, jl_1, k5, kE, e257, e258, e259]
  refine k_madeGoodFor (d := d + 5) k5 ?_
  have hw1 := (hI.2.2.2.2.2.2.2 j hj).2.2.2.2.1
  have egood : (if zI h1 325 (ad 3 j) = 0 ∧ 1 ≤ zI h1 321 (ad 3 j) then (y.toInt64 * (zI h1 322 (ad 3 j)).toInt64 / (zI h1 321 (ad 3 j)).toInt64).toInt32 else 0) = vGood s j y := by
    rw [g1w, g3, g4]
    unfold vGood
    by_cases h4 : s.2.1 4 j = 0
    · rw [if_pos ⟨h4, hw1⟩, if_pos h4]
    · rw [if_neg (fun z => h4 z.1), if_neg h4]
  rw [egood]
  have o1 := (cA1.2 a ha).1
  simp only [e46_55, e46_56, o_iload, o_lload, o_aload, o_istore, o_lstore, o_astore, o_iinc, o_ipush, o_lpush, o_null, o_ibin, o_ineg, o_lbin, o_ldv, o_lneg, o_lcmp, o_i2l, o_l2i, o_dup, o_pop, o_dupx, o_dup2, o_ic, o_iz, o_nul, o_acmp, o_tsw, o_gI, o_gR, o_pI, o_pZ, o_pR, o_iald, o_bald, o_lald, o_aald, o_iast, o_bast, o_last, o_aast, o_alen, o_newa, o_new, o_mna, o_cast, o_calls, o_callv, o_calli, o_oinit, o_getC, o_refp, o_cpi, o_cpo, o_mmax, o_mmin, o_lmin, o_iret, o_zret, o_lret, o_aret, o_vret, jd_lo, jd_la, jd_nl, jd_pop, List.length_cons, List.length_nil, List.set_cons_zero, List.set_cons_succ, List.getElem?_cons_zero, List.getElem?_cons_succ, List.replicate_succ, List.replicate_zero, List.cons_append, List.nil_append, List.append_nil, Value.category, Option.toList, va_rf, true_implies, false_implies, false_and, and_false, and_true, true_and, and_self, true_or, or_true, false_or, or_false, not_true_eq_false, not_false_eq_true, forall_const, implies_true, if_true, if_false, reduceCtorEq, reduceIte, Nat.reduceAdd, Nat.reduceMul, Nat.reduceSub, Nat.reduceDiv, Nat.reduceMod, Nat.reduceEqDiff, Nat.reduceLeDiff, Nat.reduceLT, Nat.zero_le, Nat.lt_add_one, Nat.le_refl, Nat.sub_zero, Nat.zero_lt_succ, ge_iff_le, ji_m2, ji_m1, ji_0, ji_1, ji_2, ji_3, ji_4, ji_5, ji_6, ji_7, ji_8, ji_10, ji_12, ji_29, ji_30, ji_31, ji_40, ji_60, ji_70, ji_80, ji_81, ji_360, ji_512, ji_972, ji_1000000, ji_2147483639, jl_m1, jl_0, jl_1, o1.1.1]
  refine k_addG (d := d + 4) cA1 ha hna (show j < 81 by omega) (fun h2 cA2 g2 => ?_)
  have cI2 := cVI_fr cI1 g2 (by unfold Tg; omega) (fun i hi => by unfold Tg; omega)
  have cE2 := cEv_fr cE1 g2 (fun i hi => by unfold Tg; omega)
  obtain ⟨kE2, -, m257, m258, m259⟩ := cE2
  obtain ⟨⟨k52, -⟩, -, -, -, -, -, p4, -⟩ := cI2.2 j hj
  have o2 := (cA2.2 a ha).1
  simp only [e46_59, e46_60, e46_61, e46_64, e46_65, e46_66, e46_68, e46_69, e46_70, e46_72, o_iload, o_lload, o_aload, o_istore, o_lstore, o_astore, o_iinc, o_ipush, o_lpush, o_null, o_ibin, o_ineg, o_lbin, o_ldv, o_lneg, o_lcmp, o_i2l, o_l2i, o_dup, o_pop, o_dupx, o_dup2, o_ic, o_iz, o_nul, o_acmp, o_tsw, o_gI, o_gR, o_pI, o_pZ, o_pR, o_iald, o_bald, o_lald, o_aald, o_iast, o_bast, o_last, o_aast, o_alen, o_newa, o_new, o_mna, o_cast, o_calls, o_callv, o_calli, o_oinit, o_getC, o_refp, o_cpi, o_cpo, o_mmax, o_mmin, o_lmin, o_iret, o_zret, o_lret, o_aret, o_vret, jd_lo, jd_la, jd_nl, jd_pop, List.length_cons, List.length_nil, List.set_cons_zero, List.set_cons_succ, List.getElem?_cons_zero, List.getElem?_cons_succ, List.replicate_succ, List.replicate_zero, List.cons_append, List.nil_append, List.append_nil, Value.category, Option.toList, va_rf, true_implies, false_implies, false_and, and_false, and_true, true_and, and_self, true_or, or_true, false_or, or_false, not_true_eq_false, not_false_eq_true, forall_const, implies_true, if_true, if_false, reduceCtorEq, reduceIte, Nat.reduceAdd, Nat.reduceMul, Nat.reduceSub, Nat.reduceDiv, Nat.reduceMod, Nat.reduceEqDiff, Nat.reduceLeDiff, Nat.reduceLT, Nat.zero_le, Nat.lt_add_one, Nat.le_refl, Nat.sub_zero, Nat.zero_lt_succ, ge_iff_le, ji_m2, ji_m1, ji_0, ji_1, ji_2, ji_3, ji_4, ji_5, ji_6, ji_7, ji_8, ji_10, ji_12, ji_29, ji_30, ji_31, ji_40, ji_60, ji_70, ji_80, ji_81, ji_360, ji_512, ji_972, ji_1000000, ji_2147483639, jl_m1, jl_0, jl_1, kE2, m257, k52, jn_sc]
  refine k_freightMadeGoodFor (d := d + 5) k52 ?_
  rw [p4]
  simp only [e46_75, e46_76, o_iload, o_lload, o_aload, o_istore, o_lstore, o_astore, o_iinc, o_ipush, o_lpush, o_null, o_ibin, o_ineg, o_lbin, o_ldv, o_lneg, o_lcmp, o_i2l, o_l2i, o_dup, o_pop, o_dupx, o_dup2, o_ic, o_iz, o_nul, o_acmp, o_tsw, o_gI, o_gR, o_pI, o_pZ, o_pR, o_iald, o_bald, o_lald, o_aald, o_iast, o_bast, o_last, o_aast, o_alen, o_newa, o_new, o_mna, o_cast, o_calls, o_callv, o_calli, o_oinit, o_getC, o_refp, o_cpi, o_cpo, o_mmax, o_mmin, o_lmin, o_iret, o_zret, o_lret, o_aret, o_vret, jd_lo, jd_la, jd_nl, jd_pop, List.length_cons, List.length_nil, List.set_cons_zero, List.set_cons_succ, List.getElem?_cons_zero, List.getElem?_cons_succ, List.replicate_succ, List.replicate_zero, List.cons_append, List.nil_append, List.append_nil, Value.category, Option.toList, va_rf, true_implies, false_implies, false_and, and_false, and_true, true_and, and_self, true_or, or_true, false_or, or_false, not_true_eq_false, not_false_eq_true, forall_const, implies_true, if_true, if_false, reduceCtorEq, reduceIte, Nat.reduceAdd, Nat.reduceMul, Nat.reduceSub, Nat.reduceDiv, Nat.reduceMod, Nat.reduceEqDiff, Nat.reduceLeDiff, Nat.reduceLT, Nat.zero_le, Nat.lt_add_one, Nat.le_refl, Nat.sub_zero, Nat.zero_lt_succ, ge_iff_le, ji_m2, ji_m1, ji_0, ji_1, ji_2, ji_3, ji_4, ji_5, ji_6, ji_7, ji_8, ji_10, ji_12, ji_29, ji_30, ji_31, ji_40, ji_60, ji_70, ji_80, ji_81, ji_360, ji_512, ji_972, ji_1000000, ji_2147483639, jl_m1, jl_0, jl_1, o2.1.1]
  have hGf : ∀ h3, AG (fun u => u ≠ Tg v 6 a ∧ u ≠ Tg v 8 a ∧ u ≠ Tg v 9 a) h2 h3 tg tg → AG (fun u => (∀ i, i < n → u ≠ Tg v 3 i) ∧ u ≠ Tg v 6 a ∧ u ≠ Tg v 8 a ∧ u ≠ Tg v 9 a) h h3 tg tg := fun h3 g3 => AG_t (AG_w g1 (fun u hu => hu.1)) (AG_t (AG_w g2 (fun u hu => hu.2)) (AG_w g3 (fun u hu => hu.2)))
  have fin : ∀ h3, cVA h3 tg ad v na s.2.2.1 s.2.2.2 → AG (fun u => u ≠ Tg v 6 a ∧ u ≠ Tg v 8 a ∧ u ≠ Tg v 9 a) h2 h3 tg tg → Q none h3 := fun h3 cA3 g3 => hQ h3 (cVI_fr cI2 g3 (by unfold Tg; omega) (fun i hi => by unfold Tg; omega)) cA3 (hGf h3 g3)
  have hfr := fr_iff hI hJ hj
  by_cases h7 : s.2.1 7 j = -1
  · have e0 : vLess s j y = 0 := by unfold vLess; rw [if_pos h7]
    have eg : (vGive1 s a j y).2.2.1 = u3 (u3 s.2.2.1 1 a j (s.2.2.1 1 a j + y)) 2 a j (s.2.2.1 2 a j + vGood s j y) := by
      unfold vGive1
      dsimp only
      rw [if_pos h7]
    have n0 : -(0 : Int32) = 0 := by decide
    have z0 : ∀ x : Int32, x + 0 = x := fun x => Int32.add_zero x
    have G1 : ∀ k b i, s.2.2.1 k b i = u3 (u3 (vGive1 s a j y).2.2.1 1 a j ((vGive1 s a j y).2.2.1 1 a j + -y)) 2 a j ((vGive1 s a j y).2.2.1 2 a j + -vGood s j y) k b i := fun k b i => by
      have w1 : u3 (u3 s.2.2.1 1 a j (s.2.2.1 1 a j + y)) 2 a j (s.2.2.1 2 a j + vGood s j y) 1 a j = s.2.2.1 1 a j + y := by
        unfold u3
        rw [if_neg (fun z => absurd z.1 (by decide)), if_pos ⟨rfl, rfl, rfl⟩]
      have w2 : u3 (u3 s.2.2.1 1 a j (s.2.2.1 1 a j + y)) 2 a j (s.2.2.1 2 a j + vGood s j y) 2 a j = s.2.2.1 2 a j + vGood s j y := if_pos ⟨rfl, rfl, rfl⟩
      rw [eg, w1, w2, ijcan, ijcan]
      unfold u3
      by_cases t2 : k = 2 ∧ b = a ∧ i = j
      · rw [if_pos t2, t2.1, t2.2.1, t2.2.2]
      · rw [if_neg t2]
        by_cases t1 : k = 1 ∧ b = a ∧ i = j
        · rw [if_pos t1, t1.1, t1.2.1, t1.2.2]
        · rw [if_neg t1, if_neg t2, if_neg t1]
    by_cases hj80 : j + 1 < 81
    · refine k_addG (d := d + 4) cA2 ha hna hj80 (fun h3 cA3 g3 => ?_)
      simp only [e46_79, o_iload, o_lload, o_aload, o_istore, o_lstore, o_astore, o_iinc, o_ipush, o_lpush, o_null, o_ibin, o_ineg, o_lbin, o_ldv, o_lneg, o_lcmp, o_i2l, o_l2i, o_dup, o_pop, o_dupx, o_dup2, o_ic, o_iz, o_nul, o_acmp, o_tsw, o_gI, o_gR, o_pI, o_pZ, o_pR, o_iald, o_bald, o_lald, o_aald, o_iast, o_bast, o_last, o_aast, o_alen, o_newa, o_new, o_mna, o_cast, o_calls, o_callv, o_calli, o_oinit, o_getC, o_refp, o_cpi, o_cpo, o_mmax, o_mmin, o_lmin, o_iret, o_zret, o_lret, o_aret, o_vret, jd_lo, jd_la, jd_nl, jd_pop, List.length_cons, List.length_nil, List.set_cons_zero, List.set_cons_succ, List.getElem?_cons_zero, List.getElem?_cons_succ, List.replicate_succ, List.replicate_zero, List.cons_append, List.nil_append, List.append_nil, Value.category, Option.toList, va_rf, true_implies, false_implies, false_and, and_false, and_true, true_and, and_self, true_or, or_true, false_or, or_false, not_true_eq_false, not_false_eq_true, forall_const, implies_true, if_true, if_false, reduceCtorEq, reduceIte, Nat.reduceAdd, Nat.reduceMul, Nat.reduceSub, Nat.reduceDiv, Nat.reduceMod, Nat.reduceEqDiff, Nat.reduceLeDiff, Nat.reduceLT, Nat.zero_le, Nat.lt_add_one, Nat.le_refl, Nat.sub_zero, Nat.zero_lt_succ, ge_iff_le, ji_m2, ji_m1, ji_0, ji_1, ji_2, ji_3, ji_4, ji_5, ji_6, ji_7, ji_8, ji_10, ji_12, ji_29, ji_30, ji_31, ji_40, ji_60, ji_70, ji_80, ji_81, ji_360, ji_512, ji_972, ji_1000000, ji_2147483639, jl_m1, jl_0, jl_1]
      refine fin h3 (cVA_cg cA3 (fun k b i _ _ _ => ?_) (fun _ _ _ _ => rfl)) g3
      rw [e0, ite_self, n0, z0, z0, G1 k b i]
      generalize u3 (u3 (vGive1 s a j y).2.2.1 1 a j ((vGive1 s a j y).2.2.1 1 a j + -y)) 2 a j ((vGive1 s a j y).2.2.1 2 a j + -vGood s j y) = G
      unfold u3
      by_cases w1 : k = 2 ∧ b = a ∧ i = j + 1
      · rw [if_pos w1, w1.1, w1.2.1, w1.2.2]
      · rw [if_neg w1]
        by_cases w2 : k = 1 ∧ b = a ∧ i = j + 1
        · rw [if_pos w2, w2.1, w2.2.1, w2.2.2]
        · rw [if_neg w2]
    · have ej : j + 1 = 81 := by omega
      rw [ej]
      refine k_addG0 (d := d + 4) o2.1.1 ?_
      simp only [e46_79, o_iload, o_lload, o_aload, o_istore, o_lstore, o_astore, o_iinc, o_ipush, o_lpush, o_null, o_ibin, o_ineg, o_lbin, o_ldv, o_lneg, o_lcmp, o_i2l, o_l2i, o_dup, o_pop, o_dupx, o_dup2, o_ic, o_iz, o_nul, o_acmp, o_tsw, o_gI, o_gR, o_pI, o_pZ, o_pR, o_iald, o_bald, o_lald, o_aald, o_iast, o_bast, o_last, o_aast, o_alen, o_newa, o_new, o_mna, o_cast, o_calls, o_callv, o_calli, o_oinit, o_getC, o_refp, o_cpi, o_cpo, o_mmax, o_mmin, o_lmin, o_iret, o_zret, o_lret, o_aret, o_vret, jd_lo, jd_la, jd_nl, jd_pop, List.length_cons, List.length_nil, List.set_cons_zero, List.set_cons_succ, List.getElem?_cons_zero, List.getElem?_cons_succ, List.replicate_succ, List.replicate_zero, List.cons_append, List.nil_append, List.append_nil, Value.category, Option.toList, va_rf, true_implies, false_implies, false_and, and_false, and_true, true_and, and_self, true_or, or_true, false_or, or_false, not_true_eq_false, not_false_eq_true, forall_const, implies_true, if_true, if_false, reduceCtorEq, reduceIte, Nat.reduceAdd, Nat.reduceMul, Nat.reduceSub, Nat.reduceDiv, Nat.reduceMod, Nat.reduceEqDiff, Nat.reduceLeDiff, Nat.reduceLT, Nat.zero_le, Nat.lt_add_one, Nat.le_refl, Nat.sub_zero, Nat.zero_lt_succ, ge_iff_le, ji_m2, ji_m1, ji_0, ji_1, ji_2, ji_3, ji_4, ji_5, ji_6, ji_7, ji_8, ji_10, ji_12, ji_29, ji_30, ji_31, ji_40, ji_60, ji_70, ji_80, ji_81, ji_360, ji_512, ji_972, ji_1000000, ji_2147483639, jl_m1, jl_0, jl_1]
      exact fin h2 (cVA_cg cA2 (fun k b i _ _ _ => G1 k b i) (fun _ _ _ _ => rfl)) AG_r
  · obtain ⟨e7, ecl⟩ := hfr.2 h7
    have hj1 : j + 1 < n := by
      apply Classical.byContradiction
      intro z
      exact h7 (hfr.1.mpr (fun w => z w.1))
    refine k_addG (d := d + 4) cA2 ha hna (show j + 1 < 81 by omega) (fun h3 cA3 g3 => ?_)
    simp only [e46_79, o_iload, o_lload, o_aload, o_istore, o_lstore, o_astore, o_iinc, o_ipush, o_lpush, o_null, o_ibin, o_ineg, o_lbin, o_ldv, o_lneg, o_lcmp, o_i2l, o_l2i, o_dup, o_pop, o_dupx, o_dup2, o_ic, o_iz, o_nul, o_acmp, o_tsw, o_gI, o_gR, o_pI, o_pZ, o_pR, o_iald, o_bald, o_lald, o_aald, o_iast, o_bast, o_last, o_aast, o_alen, o_newa, o_new, o_mna, o_cast, o_calls, o_callv, o_calli, o_oinit, o_getC, o_refp, o_cpi, o_cpo, o_mmax, o_mmin, o_lmin, o_iret, o_zret, o_lret, o_aret, o_vret, jd_lo, jd_la, jd_nl, jd_pop, List.length_cons, List.length_nil, List.set_cons_zero, List.set_cons_succ, List.getElem?_cons_zero, List.getElem?_cons_succ, List.replicate_succ, List.replicate_zero, List.cons_append, List.nil_append, List.append_nil, Value.category, Option.toList, va_rf, true_implies, false_implies, false_and, and_false, and_true, true_and, and_self, true_or, or_true, false_or, or_false, not_true_eq_false, not_false_eq_true, forall_const, implies_true, if_true, if_false, reduceCtorEq, reduceIte, Nat.reduceAdd, Nat.reduceMul, Nat.reduceSub, Nat.reduceDiv, Nat.reduceMod, Nat.reduceEqDiff, Nat.reduceLeDiff, Nat.reduceLT, Nat.zero_le, Nat.lt_add_one, Nat.le_refl, Nat.sub_zero, Nat.zero_lt_succ, ge_iff_le, ji_m2, ji_m1, ji_0, ji_1, ji_2, ji_3, ji_4, ji_5, ji_6, ji_7, ji_8, ji_10, ji_12, ji_29, ji_30, ji_31, ji_40, ji_60, ji_70, ji_80, ji_81, ji_360, ji_512, ji_972, ji_1000000, ji_2147483639, jl_m1, jl_0, jl_1]
    refine fin h3 (cVA_cg cA3 (fun k b i hk _ _ => ?_) (fun _ _ _ _ => rfl)) g3
    have A : ∀ k b i, (vGive1 s a j y).2.2.1 k b i = if k = 2 ∧ b = a ∧ i = j + 1 then s.2.2.1 2 a (j + 1) + (if s.2.1 4 j = 0 then vLess s j y else 0) else if k = 1 ∧ b = a ∧ i = j + 1 then s.2.2.1 1 a (j + 1) + vLess s j y else if k = 2 ∧ b = a ∧ i = j then s.2.2.1 2 a j + vGood s j y else if k = 1 ∧ b = a ∧ i = j then s.2.2.1 1 a j + y else s.2.2.1 k b i := fun k b i => by
      unfold vGive1
      dsimp only
      rw [if_neg h7, ecl]
      rfl
    have a1j : (vGive1 s a j y).2.2.1 1 a j = s.2.2.1 1 a j + y := by
      rw [A, if_neg (fun z => absurd z.1 (by decide)), if_neg (fun z => by omega), if_neg (fun z => absurd z.1 (by decide)), if_pos ⟨rfl, rfl, rfl⟩]
    have a2j : (vGive1 s a j y).2.2.1 2 a j = s.2.2.1 2 a j + vGood s j y := by
      rw [A, if_neg (fun z => by omega), if_neg (fun z => absurd z.1 (by decide)), if_pos ⟨rfl, rfl, rfl⟩]
    have a1k : (vGive1 s a j y).2.2.1 1 a (j + 1) = s.2.2.1 1 a (j + 1) + vLess s j y := by
      rw [A, if_neg (fun z => absurd z.1 (by decide)), if_pos ⟨rfl, rfl, rfl⟩]
    have a2k : (vGive1 s a j y).2.2.1 2 a (j + 1) = s.2.2.1 2 a (j + 1) + (if s.2.1 4 j = 0 then vLess s j y else 0) := by
      rw [A, if_pos ⟨rfl, rfl, rfl⟩]
    have b1 : u3 (u3 (vGive1 s a j y).2.2.1 1 a j ((vGive1 s a j y).2.2.1 1 a j + -y)) 2 a j ((vGive1 s a j y).2.2.1 2 a j + -vGood s j y) 1 a (j + 1) = (vGive1 s a j y).2.2.1 1 a (j + 1) := by
      unfold u3
      rw [if_neg (fun z => by omega), if_neg (fun z => by omega)]
    have b2 : u3 (u3 (vGive1 s a j y).2.2.1 1 a j ((vGive1 s a j y).2.2.1 1 a j + -y)) 2 a j ((vGive1 s a j y).2.2.1 2 a j + -vGood s j y) 2 a (j + 1) = (vGive1 s a j y).2.2.1 2 a (j + 1) := by
      unfold u3
      rw [if_neg (fun z => by omega), if_neg (fun z => by omega)]
    rw [b1, b2, a1j, a2j, a1k, a2k, ijcan, ijcan, ijcan, ijcan]
    unfold u3
    rw [A]
    by_cases t1 : k = 2 ∧ b = a ∧ i = j + 1
    · rw [if_pos t1, t1.1, t1.2.1, t1.2.2]
    · rw [if_neg t1, if_neg t1]
      by_cases t2 : k = 1 ∧ b = a ∧ i = j + 1
      · rw [if_pos t2, t2.1, t2.2.1, t2.2.2]
      · rw [if_neg t2, if_neg t2]
        by_cases t3 : k = 2 ∧ b = a ∧ i = j
        · rw [if_pos t3, t3.1, t3.2.1, t3.2.2]
        · rw [if_neg t3, if_neg t3]
          by_cases t4 : k = 1 ∧ b = a ∧ i = j
          · rw [if_pos t4, t4.1, t4.2.1, t4.2.2]
          · rw [if_neg t4, if_neg t4]
/-- a voyage with one event less -/
theorem cVoy_un (hV : VB po w0 q) (hO : okl (nI q) po w0 l) (hK : ∀ k, k < l.length + 1 → eK (evk (e :: l) k)) (h6 : (rep (nI q) po w0 l).1 6 = 0)
    (c0 : cV0 h tg ad aj v po q (fS q (rep (nI q) po w0 l))) (cI : cVI h tg ad v (cn (rep (nI q) po w0 l)) (rep (nI q) po w0 l).2.1) (cA : cVA h tg ad v (ca (rep (nI q) po w0 l)) (rep (nI q) po w0 l).2.2.1 (rep (nI q) po w0 l).2.2.2) (cE : cVE h tg ad v l.length (fun k => evF (rep (nI q) po w0 (lastn (e :: l) k)) (evk (e :: l) k))) (cS : cVS h tg ad v) : cVoy h tg ad aj v po w0 q l := by
  refine ⟨⟨hV, hO, fun k hk => ?_⟩, c0, cI, cA, cVE_cg cE (fun k hk => ?_), cS, fun e' l' hl he' => ?_, fun z => absurd h6 z⟩
  · have := hK k (by omega)
    rw [evk_o (by omega)] at this
    exact this
  · rw [lastn_c (by omega), evk_o (by omega)]
  · exfalso
    subst hl
    obtain ⟨hO1, ⟨r, s'⟩, hz⟩ := hO
    have hrs : rep (nI q) po w0 (e' :: l') = s' := rep_c hz
    rw [hrs] at h6
    by_cases h6' : (rep (nI q) po w0 l').1 6 = 0
    · rw [vDo_6 h6' he'] at hz
      split at hz
      · cases hz
      · injection hz with hz
        injection hz with h1 h2
        rw [← h2] at h6
        exact absurd h6 (show ¬ (1 : Int32) = 0 by decide)
    · rw [vDo_E h6'] at hz
      cases hz
end
