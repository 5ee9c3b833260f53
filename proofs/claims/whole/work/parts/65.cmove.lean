/-! the class: moveOn, wreck -/
section
variable {g d : Nat} {h : jd_H} {Q : jd_Q} {tg aj : Nat → Nat} {ad a2 : Nat → Nat → Nat} {v q n lo na p : Nat} {po w0 pp : Int32} {l : List Ev} {s : VS}
theorem cVR_ad (c : cVR h ad n na s) (h3 : ∀ i, i < n → a2 3 i = ad 3 i) (h6 : ∀ a k, a < na → 6 ≤ k → k ≤ 13 → a2 k a = ad k a) (h17 : ∀ k, 17 ≤ k → k ≤ 22 → a2 k 0 = ad k 0) : cVR h a2 n na s := by
  obtain ⟨c1, c2, c3, c4, c5⟩ := c
  refine ⟨fun i hi => by rw [h3 i hi]; exact c1 i hi, fun a ha => ?_, ?_, ?_, ?_⟩
  · rw [h6 a 6 ha (by omega) (by omega), h6 a 10 ha (by omega) (by omega), h6 a 11 ha (by omega) (by omega), h6 a 13 ha (by omega) (by omega)]
    exact c2 a ha
  · rw [h17 18 (by omega) (by omega)]; exact c3
  · rw [h17 17 (by omega) (by omega)]; exact c4
  · rw [h17 19 (by omega) (by omega), h17 20 (by omega) (by omega), h17 21 (by omega) (by omega)]; exact c5
set_option maxRecDepth 100000 in
theorem k_moveOn (c : cVoy h tg ad aj v po w0 q l) (cJ : cVJ h tg aj) (hl : l.length ≤ 511) (hQ0 : vDo (nI q) po (rep (nI q) po w0 l) (ev7 1 0 0 0 0 0 0) = none → Q (some (.int (-1))) h) (hQ1 : ∀ r s' h' tg' ad', vDo (nI q) po (rep (nI q) po w0 l) (ev7 1 0 0 0 0 0 0) = some (r, s') → cVoy h' tg' ad' aj v po w0 q ((ev7 1 0 0 0 0 0 0) :: l) → ad' 0 0 = ad 0 0 → cVJ h' tg' aj → AG (PV v) h h' tg tg' → Q (some (.int r)) h') : jd_WM g (d + 10) 27 [.ref (ad 0 0)] h Q := by
  refine ⟨Nat.le_of_ble_eq_true rfl, ?_⟩; show jd_w g (d + 9) 27 Q 0 [some (.ref (ad 0 0))] [] h 2 805
  obtain ⟨n, lo, na, p, hI, hJ⟩ := cVoy_IJ c
  obtain ⟨⟨hV, hO, hK⟩, c0, cI, cA, cE, cS, cW, cR⟩ := c
  generalize hs : rep (nI q) po w0 l = s at hI hJ c0 cI cA cR hQ0 hQ1
  have hn81 := IV_81 hI
  have hcn := IV_cn hI
  have hca := IV_ca hI
  have hna := hI.2.2.1.2
  rw [hcn] at cI
  rw [hca] at cA
  obtain ⟨⟨kV, tV⟩, ⟨r448, r449, r450, r451, r454⟩, ⟨i452, i453⟩, i455, i456, i457, i458, i459⟩ := id c0
  have h10 : ¬ (1 : Int32) = 0 := by decide
  rw [fS_2] at i457
  simp only [e27_0, e27_1, o_iload, o_lload, o_aload, o_istore, o_lstore, o_astore, o_iinc, o_ipush, o_lpush, o_null, o_ibin, o_ineg, o_lbin, o_ldv, o_lneg, o_lcmp, o_i2l, o_l2i, o_dup, o_pop, o_dupx, o_dup2, o_ic, o_iz, o_nul, o_acmp, o_tsw, o_gI, o_gR, o_pI, o_pZ, o_pR, o_iald, o_bald, o_lald, o_aald, o_iast, o_bast, o_last, o_aast, o_alen, o_newa, o_new, o_mna, o_cast, o_calls, o_callv, o_calli, o_oinit, o_getC, o_refp, o_cpi, o_cpo, o_mmax, o_mmin, o_lmin, o_iret, o_zret, o_lret, o_aret, o_vret, jd_lo, jd_la, jd_nl, jd_pop, List.length_cons, List.length_nil, List.set_cons_zero, List.set_cons_succ, List.getElem?_cons_zero, List.getElem?_cons_succ, List.replicate_succ, List.replicate_zero, List.cons_append, List.nil_append, List.append_nil, Value.category, Option.toList, va_rf, true_implies, false_implies, false_and, and_false, and_true, true_and, and_self, true_or, or_true, false_or, or_false, not_true_eq_false, not_false_eq_true, forall_const, implies_true, if_true, if_false, reduceCtorEq, reduceIte, Nat.reduceAdd, Nat.reduceMul, Nat.reduceSub, Nat.reduceDiv, Nat.reduceMod, Nat.reduceEqDiff, Nat.reduceLeDiff, Nat.reduceLT, Nat.zero_le, Nat.lt_add_one, Nat.le_refl, Nat.sub_zero, Nat.zero_lt_succ, ge_iff_le, ji_m2, ji_m1, ji_0, ji_1, ji_2, ji_3, ji_4, ji_5, ji_6, ji_7, ji_8, ji_10, ji_12, ji_29, ji_30, ji_31, ji_40, ji_60, ji_70, ji_80, ji_81, ji_360, ji_512, ji_972, ji_1000000, ji_2147483639, jl_m1, jl_0, jl_1, kV]
  refine k_takesV (d := d + 7) hI hJ c0 cE hl ?_
  by_cases h6 : s.1 6 = 0
  · rw [if_pos h6]
    have hvd : vDo (nI q) po s (ev7 1 0 0 0 0 0 0) = some (vMove (nI q) s) := vDo_1 h6 rfl
    obtain ⟨p', hI', hJ'⟩ := IJ_move hI hJ rfl h6
    simp only [e27_4, e27_9, e27_10, e27_11, o_iload, o_lload, o_aload, o_istore, o_lstore, o_astore, o_iinc, o_ipush, o_lpush, o_null, o_ibin, o_ineg, o_lbin, o_ldv, o_lneg, o_lcmp, o_i2l, o_l2i, o_dup, o_pop, o_dupx, o_dup2, o_ic, o_iz, o_nul, o_acmp, o_tsw, o_gI, o_gR, o_pI, o_pZ, o_pR, o_iald, o_bald, o_lald, o_aald, o_iast, o_bast, o_last, o_aast, o_alen, o_newa, o_new, o_mna, o_cast, o_calls, o_callv, o_calli, o_oinit, o_getC, o_refp, o_cpi, o_cpo, o_mmax, o_mmin, o_lmin, o_iret, o_zret, o_lret, o_aret, o_vret, jd_lo, jd_la, jd_nl, jd_pop, List.length_cons, List.length_nil, List.set_cons_zero, List.set_cons_succ, List.getElem?_cons_zero, List.getElem?_cons_succ, List.replicate_succ, List.replicate_zero, List.cons_append, List.nil_append, List.append_nil, Value.category, Option.toList, va_rf, true_implies, false_implies, false_and, and_false, and_true, true_and, and_self, true_or, or_true, false_or, or_false, not_true_eq_false, not_false_eq_true, forall_const, implies_true, if_true, if_false, reduceCtorEq, reduceIte, Nat.reduceAdd, Nat.reduceMul, Nat.reduceSub, Nat.reduceDiv, Nat.reduceMod, Nat.reduceEqDiff, Nat.reduceLeDiff, Nat.reduceLT, Nat.zero_le, Nat.lt_add_one, Nat.le_refl, Nat.sub_zero, Nat.zero_lt_succ, ge_iff_le, ji_m2, ji_m1, ji_0, ji_1, ji_2, ji_3, ji_4, ji_5, ji_6, ji_7, ji_8, ji_10, ji_12, ji_29, ji_30, ji_31, ji_40, ji_60, ji_70, ji_80, ji_81, ji_360, ji_512, ji_972, ji_1000000, ji_2147483639, jl_m1, jl_0, jl_1, h10, kV]
    refine k_note (d := d) cE kV r450 hl (by decide) (fun h2 tg2 ad2 hd2 cE2 hG2 => ?_)
    have d16 : ∀ k i, k ≠ 16 → ad2 k i = ad k i := fun k i hk => hd2 k i (fun z => hk z.1)
    have c02 := cV0_fr c0 hG2 (by unfold Tg; omega)
    have cI2 := cVI_fr cI hG2 (by unfold Tg; omega) (fun i hi => by unfold Tg; omega)
    have cA2 := cVA_fr cA hG2 (by unfold Tg; omega) (fun a k _ _ _ => by unfold Tg; omega)
    have cS2 := cVS_fr cS hG2 (by unfold Tg; omega)
    have cJ2 := cVJ_fr cJ hG2 (by unfold Tg; omega)
    -- the end, behind the voyage's own numbers
    have fin : ∀ h3 fv, AG (fun u => u ≠ Tg v 0 0) h2 h3 tg2 tg2 → cV0 h3 tg2 ad aj v po q fv → (∀ k, k < 5 → fS q (vMove (nI q) s).2 k = fv k) → (vMove (nI q) s).1 = (vMove (nI q) s).2.1 0 → jd_w g (d + 9) 27 Q 47 [some (.ref (ad 0 0))] [] h3 0 0 := fun h3 fv hG3 c03 hfv hr => by
      have cI3 := cVI_fr cI2 hG3 (by unfold Tg; omega) (fun i hi => by unfold Tg; omega)
      have cA3 := cVA_fr cA2 hG3 (by unfold Tg; omega) (fun a k _ _ _ => by unfold Tg; omega)
      have cE3 := cVE_fr cE2 hG3 (by unfold Tg; omega) (fun i hi => by unfold Tg; omega)
      have cS3 := cVS_fr cS2 hG3 (by unfold Tg; omega)
      have cJ3 := cVJ_fr cJ2 hG3 (by unfold Tg; omega)
      have cI3' : cVI h3 tg2 ad v n (vMove (nI q) s).2.2.1 := cVI_cg cI3 (fun k i hk _ => by
        unfold vMove
        split
        · rfl
        · exact if_neg (fun z => by omega))
      have cA3' : cVA h3 tg2 ad v na (vMove (nI q) s).2.2.2.1 (vMove (nI q) s).2.2.2.2 := cVA_cg cA3 (fun k a i _ _ _ => by
        unfold vMove
        split <;> rfl) (fun a o _ _ => by
        unfold vMove
        split <;> rfl)
      have hcn' := IV_cn hI'
      have hca' := IV_ca hI'
      have last : ∀ h4, (¬ (vMove (nI q) s).2.1 6 = 0 → cVR h4 ad n na (vMove (nI q) s).2) → cV0 h4 tg2 ad aj v po q fv → cVI h4 tg2 ad v n (vMove (nI q) s).2.2.1 → cVA h4 tg2 ad v na (vMove (nI q) s).2.2.2.1 (vMove (nI q) s).2.2.2.2 → cVS h4 tg2 ad v → cVJ h4 tg2 aj → AG (PE v) h3 h4 tg2 tg2 → jd_w g (d + 9) 27 Q 51 [some (.ref (ad 0 0))] [] h4 0 0 := fun h4 z1 z2 z3 z4 z5 z6 z7 => by
        have e455 : zI h4 455 (ad 0 0) = (vMove (nI q) s).1 := by
          rw [z2.2.2.2.1, hr, ← hfv 0 (by decide)]
          rfl
        simp only [e27_51, e27_52, e27_55, o_iload, o_lload, o_aload, o_istore, o_lstore, o_astore, o_iinc, o_ipush, o_lpush, o_null, o_ibin, o_ineg, o_lbin, o_ldv, o_lneg, o_lcmp, o_i2l, o_l2i, o_dup, o_pop, o_dupx, o_dup2, o_ic, o_iz, o_nul, o_acmp, o_tsw, o_gI, o_gR, o_pI, o_pZ, o_pR, o_iald, o_bald, o_lald, o_aald, o_iast, o_bast, o_last, o_aast, o_alen, o_newa, o_new, o_mna, o_cast, o_calls, o_callv, o_calli, o_oinit, o_getC, o_refp, o_cpi, o_cpo, o_mmax, o_mmin, o_lmin, o_iret, o_zret, o_lret, o_aret, o_vret, jd_lo, jd_la, jd_nl, jd_pop, List.length_cons, List.length_nil, List.set_cons_zero, List.set_cons_succ, List.getElem?_cons_zero, List.getElem?_cons_succ, List.replicate_succ, List.replicate_zero, List.cons_append, List.nil_append, List.append_nil, Value.category, Option.toList, va_rf, true_implies, false_implies, false_and, and_false, and_true, true_and, and_self, true_or, or_true, false_or, or_false, not_true_eq_false, not_false_eq_true, forall_const, implies_true, if_true, if_false, reduceCtorEq, reduceIte, Nat.reduceAdd, Nat.reduceMul, Nat.reduceSub, Nat.reduceDiv, Nat.reduceMod, Nat.reduceEqDiff, Nat.reduceLeDiff, Nat.reduceLT, Nat.zero_le, Nat.lt_add_one, Nat.le_refl, Nat.sub_zero, Nat.zero_lt_succ, ge_iff_le, ji_m2, ji_m1, ji_0, ji_1, ji_2, ji_3, ji_4, ji_5, ji_6, ji_7, ji_8, ji_10, ji_12, ji_29, ji_30, ji_31, ji_40, ji_60, ji_70, ji_80, ji_81, ji_360, ji_512, ji_972, ji_1000000, ji_2147483639, jl_m1, jl_0, jl_1, z2.1.1, e455]
        have hz := (congrArg (fun z => vDo (nI q) po z (ev7 1 0 0 0 0 0 0)) hs).trans hvd
        refine hQ1 _ _ h4 tg2 ad2 hvd (cVoy_mk (r := (vMove (nI q) s).1) (s' := (vMove (nI q) s).2) hV hO hK ⟨1, by decide, rfl⟩ hz ?_ ?_ ?_ (cVE_cg (cVE_fr cE3 z7 (by unfold PE Tg; omega) (fun i hi => by unfold PE Tg; omega)) (fun k hk => ?_)) ?_ (fun z => absurd z (show ¬ (1 : Int32) = 6 by decide)) (fun z => ?_)) (d16 0 0 (by decide)) z6 (AG_t (AG_w hG2 (fun u hu => by unfold PV Tg at hu; unfold Tg; omega)) (AG_t (AG_w hG3 (fun u hu => by unfold PV Tg at hu; unfold Tg; omega)) (AG_w z7 (fun u hu => by unfold PV Tg at hu; unfold PE Tg; omega))))
        · exact cV0_ad (cV0_cg z2 hfv) (fun k hk => d16 k 0 (by omega))
        · rw [hcn']
          exact cVI_ad z3 (d16 1 0 (by decide)) (fun i _ => d16 3 i (by decide))
        · rw [hca']
          exact cVA_ad z4 (d16 4 0 (by decide)) (fun a k _ _ _ => d16 k a (by omega))
        · by_cases e : k = l.length
          · rw [if_pos e]
            funext c
            rw [if_pos e, i457, hs]
            rfl
          · rw [if_neg e]
            funext c
            rw [if_neg e]
        · exact cVS_ad z5 (fun k _ _ => d16 k 0 (by omega))
        · rw [hcn', hca']
          exact cVR_ad (z1 z) (fun i _ => d16 3 i (by decide)) (fun a k _ _ _ => d16 k a (by omega)) (fun k _ _ => d16 k 0 (by omega))
      simp only [e27_47, e27_48, o_iload, o_lload, o_aload, o_istore, o_lstore, o_astore, o_iinc, o_ipush, o_lpush, o_null, o_ibin, o_ineg, o_lbin, o_ldv, o_lneg, o_lcmp, o_i2l, o_l2i, o_dup, o_pop, o_dupx, o_dup2, o_ic, o_iz, o_nul, o_acmp, o_tsw, o_gI, o_gR, o_pI, o_pZ, o_pR, o_iald, o_bald, o_lald, o_aald, o_iast, o_bast, o_last, o_aast, o_alen, o_newa, o_new, o_mna, o_cast, o_calls, o_callv, o_calli, o_oinit, o_getC, o_refp, o_cpi, o_cpo, o_mmax, o_mmin, o_lmin, o_iret, o_zret, o_lret, o_aret, o_vret, jd_lo, jd_la, jd_nl, jd_pop, List.length_cons, List.length_nil, List.set_cons_zero, List.set_cons_succ, List.getElem?_cons_zero, List.getElem?_cons_succ, List.replicate_succ, List.replicate_zero, List.cons_append, List.nil_append, List.append_nil, Value.category, Option.toList, va_rf, true_implies, false_implies, false_and, and_false, and_true, true_and, and_self, true_or, or_true, false_or, or_false, not_true_eq_false, not_false_eq_true, forall_const, implies_true, if_true, if_false, reduceCtorEq, reduceIte, Nat.reduceAdd, Nat.reduceMul, Nat.reduceSub, Nat.reduceDiv, Nat.reduceMod, Nat.reduceEqDiff, Nat.reduceLeDiff, Nat.reduceLT, Nat.zero_le, Nat.lt_add_one, Nat.le_refl, Nat.sub_zero, Nat.zero_lt_succ, ge_iff_le, ji_m2, ji_m1, ji_0, ji_1, ji_2, ji_3, ji_4, ji_5, ji_6, ji_7, ji_8, ji_10, ji_12, ji_29, ji_30, ji_31, ji_40, ji_60, ji_70, ji_80, ji_81, ji_360, ji_512, ji_972, ji_1000000, ji_2147483639, jl_m1, jl_0, jl_1, c03.1.1]
      refine k_adjEnd (d := d + 3) hI' hJ' c03 (by rw [← hfv 0 (by decide)]; rfl) (by rw [← hfv 3 (by decide)]; rfl) cI3' cA3' cS3 cJ3 (fun z => ?_) (fun h4 z z1 z2 z3 z4 z5 z6 z7 _ => ?_)
      · exact last h3 (fun w => absurd z w) c03 cI3' cA3' cS3 cJ3 AG_r
      · exact last h4 (fun _ => z1) z2 z3 z4 z5 z6 z7
    have j456 : zI h2 456 (ad 0 0) = s.1 5 := c02.2.2.2.2.1
    have j455 : zI h2 455 (ad 0 0) = s.1 0 := c02.2.2.2.1
    have w6 : vWr q s = 0 := if_pos (Or.inl h6)
    by_cases h5 : s.1 5 = 0
    · have hmv : vMove (nI q) s = (s.1 0, (u1 (u1 s.1 4 (-1)) 5 1, s.2)) := if_pos h5
      simp only [e27_14, e27_15, e27_18, e27_31, e27_32, e27_33, e27_36, e27_39, e27_40, e27_43, e27_44, o_iload, o_lload, o_aload, o_istore, o_lstore, o_astore, o_iinc, o_ipush, o_lpush, o_null, o_ibin, o_ineg, o_lbin, o_ldv, o_lneg, o_lcmp, o_i2l, o_l2i, o_dup, o_pop, o_dupx, o_dup2, o_ic, o_iz, o_nul, o_acmp, o_tsw, o_gI, o_gR, o_pI, o_pZ, o_pR, o_iald, o_bald, o_lald, o_aald, o_iast, o_bast, o_last, o_aast, o_alen, o_newa, o_new, o_mna, o_cast, o_calls, o_callv, o_calli, o_oinit, o_getC, o_refp, o_cpi, o_cpo, o_mmax, o_mmin, o_lmin, o_iret, o_zret, o_lret, o_aret, o_vret, jd_lo, jd_la, jd_nl, jd_pop, List.length_cons, List.length_nil, List.set_cons_zero, List.set_cons_succ, List.getElem?_cons_zero, List.getElem?_cons_succ, List.replicate_succ, List.replicate_zero, List.cons_append, List.nil_append, List.append_nil, Value.category, Option.toList, va_rf, true_implies, false_implies, false_and, and_false, and_true, true_and, and_self, true_or, or_true, false_or, or_false, not_true_eq_false, not_false_eq_true, forall_const, implies_true, if_true, if_false, reduceCtorEq, reduceIte, Nat.reduceAdd, Nat.reduceMul, Nat.reduceSub, Nat.reduceDiv, Nat.reduceMod, Nat.reduceEqDiff, Nat.reduceLeDiff, Nat.reduceLT, Nat.zero_le, Nat.lt_add_one, Nat.le_refl, Nat.sub_zero, Nat.zero_lt_succ, ge_iff_le, ji_m2, ji_m1, ji_0, ji_1, ji_2, ji_3, ji_4, ji_5, ji_6, ji_7, ji_8, ji_10, ji_12, ji_29, ji_30, ji_31, ji_40, ji_60, ji_70, ji_80, ji_81, ji_360, ji_512, ji_972, ji_1000000, ji_2147483639, jl_m1, jl_0, jl_1, rw_KI, rw_II, rw_RI, rw_LI, rw_AI, rw_JI, rw_OI, rw_KR, rw_IR, rw_RR, rw_LR, rw_AR, rw_JR, rw_OR, rw_KA, rw_IA, rw_RA, rw_LA, rw_AA, rw_JA, rw_OA, rw_KJ, rw_IJ, rw_RJ, rw_LJ, rw_AJ, rw_JJ, rw_OJ, rw_KO, rw_IO, rw_RO, rw_LO, rw_AO, rw_JO, rw_OO, rw_KAr, rw_IAr, rw_RAr, rw_LAr, rw_AAr, rw_JAr, rw_OAr, rw_KOr, rw_IOr, rw_ROr, rw_LOr, rw_AOr, rw_JOr, rw_OOr, rw_KN, rw_IN, rw_RN, rw_LN, rw_AN, rw_JN, rw_ON, rw_KY, rw_IY, rw_RY, rw_LY, rw_AY, rw_JY, rw_OY, c02.1.1, j456, h5]
      have f1 := cV0_w (k := 2) (x := -1) c02 (by decide)
      have f2 := cV0_w (k := 1) (x := 1) f1 (by decide)
      refine fin _ _ (AG_t (AG_wI (fun z => z c02.1.2)) (AG_wI (fun z => z c02.1.2))) f2 ?_ (by rw [hmv]; rfl)
      rw [hmv]
      exact fS_of rfl rfl rfl rfl rfl
    · have h51 := jbit hI.2.2.2.2.2.1 h5
      have hmv : vMove (nI q) s = (s.1 0 + 1, (u1 (u1 (u1 (u1 s.1 4 (-1)) 5 0) 0 (s.1 0 + 1)) 6 (if s.1 0 + 1 = nI q - 1 then 1 else 0), (fun k i => if k = 8 ∧ 1 ≤ i ∧ i < cn s ∧ s.2.1 5 i = s.1 0 + 1 then 0 else s.2.1 k i), s.2.2)) := if_neg h5
      simp only [e27_14, e27_15, e27_18, e27_21, e27_22, e27_23, e27_26, e27_27, e27_28, e27_31, e27_32, e27_33, e27_36, e27_39, e27_40, e27_43, e27_44, o_iload, o_lload, o_aload, o_istore, o_lstore, o_astore, o_iinc, o_ipush, o_lpush, o_null, o_ibin, o_ineg, o_lbin, o_ldv, o_lneg, o_lcmp, o_i2l, o_l2i, o_dup, o_pop, o_dupx, o_dup2, o_ic, o_iz, o_nul, o_acmp, o_tsw, o_gI, o_gR, o_pI, o_pZ, o_pR, o_iald, o_bald, o_lald, o_aald, o_iast, o_bast, o_last, o_aast, o_alen, o_newa, o_new, o_mna, o_cast, o_calls, o_callv, o_calli, o_oinit, o_getC, o_refp, o_cpi, o_cpo, o_mmax, o_mmin, o_lmin, o_iret, o_zret, o_lret, o_aret, o_vret, jd_lo, jd_la, jd_nl, jd_pop, List.length_cons, List.length_nil, List.set_cons_zero, List.set_cons_succ, List.getElem?_cons_zero, List.getElem?_cons_succ, List.replicate_succ, List.replicate_zero, List.cons_append, List.nil_append, List.append_nil, Value.category, Option.toList, va_rf, true_implies, false_implies, false_and, and_false, and_true, true_and, and_self, true_or, or_true, false_or, or_false, not_true_eq_false, not_false_eq_true, forall_const, implies_true, if_true, if_false, reduceCtorEq, reduceIte, Nat.reduceAdd, Nat.reduceMul, Nat.reduceSub, Nat.reduceDiv, Nat.reduceMod, Nat.reduceEqDiff, Nat.reduceLeDiff, Nat.reduceLT, Nat.zero_le, Nat.lt_add_one, Nat.le_refl, Nat.sub_zero, Nat.zero_lt_succ, ge_iff_le, ji_m2, ji_m1, ji_0, ji_1, ji_2, ji_3, ji_4, ji_5, ji_6, ji_7, ji_8, ji_10, ji_12, ji_29, ji_30, ji_31, ji_40, ji_60, ji_70, ji_80, ji_81, ji_360, ji_512, ji_972, ji_1000000, ji_2147483639, jl_m1, jl_0, jl_1, rw_KI, rw_II, rw_RI, rw_LI, rw_AI, rw_JI, rw_OI, rw_KR, rw_IR, rw_RR, rw_LR, rw_AR, rw_JR, rw_OR, rw_KA, rw_IA, rw_RA, rw_LA, rw_AA, rw_JA, rw_OA, rw_KJ, rw_IJ, rw_RJ, rw_LJ, rw_AJ, rw_JJ, rw_OJ, rw_KO, rw_IO, rw_RO, rw_LO, rw_AO, rw_JO, rw_OO, rw_KAr, rw_IAr, rw_RAr, rw_LAr, rw_AAr, rw_JAr, rw_OAr, rw_KOr, rw_IOr, rw_ROr, rw_LOr, rw_AOr, rw_JOr, rw_OOr, rw_KN, rw_IN, rw_RN, rw_LN, rw_AN, rw_JN, rw_ON, rw_KY, rw_IY, rw_RY, rw_LY, rw_AY, rw_JY, rw_OY, c02.1.1, j456, j455, h51, h10]
      have f1 := cV0_w (k := 2) (x := -1) c02 (by decide)
      have f2 := cV0_w (k := 0) (x := s.1 0 + 1) f1 (by decide)
      have f3 := cV0_w (k := 1) (x := 0) f2 (by decide)
      refine fin _ _ (AG_t (AG_wI (fun z => z c02.1.2)) (AG_t (AG_wI (fun z => z c02.1.2)) (AG_wI (fun z => z c02.1.2)))) f3 ?_ (by rw [hmv]; rfl)
      rw [hmv]
      refine fS_of rfl rfl rfl ?_ rfl
      show vWr q s = vWr q _
      rw [w6]
      refine (if_pos ?_).symm
      show (if s.1 0 + 1 = nI q - 1 then (1 : Int32) else 0) = 0 ∨ s.1 0 + 1 = nI (q - 1)
      have eq1 : nI q - 1 = nI (q - 1) := by rw [j1I, jn_sub (by have := hJ.1; omega)]
      by_cases hc : s.1 0 + 1 = nI q - 1
      · exact Or.inr (hc.trans eq1)
      · exact Or.inl (if_neg hc)
  · rw [if_neg h6]
    simp only [e27_4, e27_7, e27_8, o_iload, o_lload, o_aload, o_istore, o_lstore, o_astore, o_iinc, o_ipush, o_lpush, o_null, o_ibin, o_ineg, o_lbin, o_ldv, o_lneg, o_lcmp, o_i2l, o_l2i, o_dup, o_pop, o_dupx, o_dup2, o_ic, o_iz, o_nul, o_acmp, o_tsw, o_gI, o_gR, o_pI, o_pZ, o_pR, o_iald, o_bald, o_lald, o_aald, o_iast, o_bast, o_last, o_aast, o_alen, o_newa, o_new, o_mna, o_cast, o_calls, o_callv, o_calli, o_oinit, o_getC, o_refp, o_cpi, o_cpo, o_mmax, o_mmin, o_lmin, o_iret, o_zret, o_lret, o_aret, o_vret, jd_lo, jd_la, jd_nl, jd_pop, List.length_cons, List.length_nil, List.set_cons_zero, List.set_cons_succ, List.getElem?_cons_zero, List.getElem?_cons_succ, List.replicate_succ, List.replicate_zero, List.cons_append, List.nil_append, List.append_nil, Value.category, Option.toList, va_rf, true_implies, false_implies, false_and, and_false, and_true, true_and, and_self, true_or, or_true, false_or, or_false, not_true_eq_false, not_false_eq_true, forall_const, implies_true, if_true, if_false, reduceCtorEq, reduceIte, Nat.reduceAdd, Nat.reduceMul, Nat.reduceSub, Nat.reduceDiv, Nat.reduceMod, Nat.reduceEqDiff, Nat.reduceLeDiff, Nat.reduceLT, Nat.zero_le, Nat.lt_add_one, Nat.le_refl, Nat.sub_zero, Nat.zero_lt_succ, ge_iff_le, ji_m2, ji_m1, ji_0, ji_1, ji_2, ji_3, ji_4, ji_5, ji_6, ji_7, ji_8, ji_10, ji_12, ji_29, ji_30, ji_31, ji_40, ji_60, ji_70, ji_80, ji_81, ji_360, ji_512, ji_972, ji_1000000, ji_2147483639, jl_m1, jl_0, jl_1]
    exact hQ0 (vDo_E h6)
end
