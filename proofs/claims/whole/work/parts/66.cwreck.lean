/-! the class: wreck -/
section
variable {g d : Nat} {h : jd_H} {Q : jd_Q} {tg aj : Nat → Nat} {ad : Nat → Nat → Nat} {v q n lo na p : Nat} {po w0 pp : Int32} {l : List Ev} {s : VS}
set_option maxRecDepth 100000 in
theorem l_wreck {fv : Nat → Int32} (hI : IV pp s n lo na p) (hJ : JV q s n na p) (c0 : cV0 h tg ad aj v po q fv) (hf0 : fv 0 = s.1 0) (hf3 : fv 3 = vWr q s) (cI : cVI h tg ad v n s.2.1)
    (hex : ∀ h2 x y, AG (fun u => ∀ i, i < n → u ≠ Tg v 3 i) h h2 tg tg → cVI h2 tg ad v n (fLo s n) → (∀ i, i < n → ¬ s.2.1 8 i = 0 → zI h2 327 (ad 3 i) = s.2.1 2 i) → jd_w g (d + 3) 32 Q 78 [some (.ref (ad 0 0)), x, y] [] h2 0 0) :
    ∀ (r i0 : Nat) (h2 : jd_H) (y : Option Value), i0 + r = n → AG (fun u => ∀ i, i < n → u ≠ Tg v 3 i) h h2 tg tg → cVI h2 tg ad v n (fLo s i0) → (∀ i, i < i0 → ¬ s.2.1 8 i = 0 → zI h2 327 (ad 3 i) = s.2.1 2 i) → jd_w g (d + 3) 32 Q 24 [some (.ref (ad 0 0)), some (.int (nI i0)), y] [] h2 0 0 := by
  have hn81 := IV_81 hI
  intro r
  induction r with
  | zero =>
    intro i0 h2 y hi hG c2 hA
    have hin : i0 = n := by omega
    subst hin
    have c02 := cV0_fr c0 hG (fun i hi => by unfold Tg; omega)
    rw [e32_24]
    simp only [e32_25, e32_26, e32_29, o_iload, o_lload, o_aload, o_istore, o_lstore, o_astore, o_iinc, o_ipush, o_lpush, o_null, o_ibin, o_ineg, o_lbin, o_ldv, o_lneg, o_lcmp, o_i2l, o_l2i, o_dup, o_pop, o_dupx, o_dup2, o_ic, o_iz, o_nul, o_acmp, o_tsw, o_gI, o_gR, o_pI, o_pZ, o_pR, o_iald, o_bald, o_lald, o_aald, o_iast, o_bast, o_last, o_aast, o_alen, o_newa, o_new, o_mna, o_cast, o_calls, o_callv, o_calli, o_oinit, o_getC, o_refp, o_cpi, o_cpo, o_mmax, o_mmin, o_lmin, o_iret, o_zret, o_lret, o_aret, o_vret, jd_lo, jd_la, jd_nl, jd_pop, List.length_cons, List.length_nil, List.set_cons_zero, List.set_cons_succ, List.getElem?_cons_zero, List.getElem?_cons_succ, List.replicate_succ, List.replicate_zero, List.cons_append, List.nil_append, List.append_nil, Value.category, Option.toList, va_rf, true_implies, false_implies, false_and, and_false, and_true, true_and, and_self, true_or, or_true, false_or, or_false, not_true_eq_false, not_false_eq_true, forall_const, implies_true, if_true, if_false, reduceCtorEq, reduceIte, Nat.reduceAdd, Nat.reduceMul, Nat.reduceSub, Nat.reduceDiv, Nat.reduceMod, Nat.reduceEqDiff, Nat.reduceLeDiff, Nat.reduceLT, Nat.zero_le, Nat.lt_add_one, Nat.le_refl, Nat.sub_zero, Nat.zero_lt_succ, ge_iff_le, ji_m2, ji_m1, ji_0, ji_1, ji_2, ji_3, ji_4, ji_5, ji_6, ji_7, ji_8, ji_10, ji_12, ji_29, ji_30, ji_31, ji_40, ji_60, ji_70, ji_80, ji_81, ji_360, ji_512, ji_972, ji_1000000, ji_2147483639, jl_m1, jl_0, jl_1, c02.1.1, c02.2.1.1, vLS_K c2.1]
    refine k_lsize (d := d + 2) c2.1 ?_
    simp only [e32_34, o_iload, o_lload, o_aload, o_istore, o_lstore, o_astore, o_iinc, o_ipush, o_lpush, o_null, o_ibin, o_ineg, o_lbin, o_ldv, o_lneg, o_lcmp, o_i2l, o_l2i, o_dup, o_pop, o_dupx, o_dup2, o_ic, o_iz, o_nul, o_acmp, o_tsw, o_gI, o_gR, o_pI, o_pZ, o_pR, o_iald, o_bald, o_lald, o_aald, o_iast, o_bast, o_last, o_aast, o_alen, o_newa, o_new, o_mna, o_cast, o_calls, o_callv, o_calli, o_oinit, o_getC, o_refp, o_cpi, o_cpo, o_mmax, o_mmin, o_lmin, o_iret, o_zret, o_lret, o_aret, o_vret, jd_lo, jd_la, jd_nl, jd_pop, List.length_cons, List.length_nil, List.set_cons_zero, List.set_cons_succ, List.getElem?_cons_zero, List.getElem?_cons_succ, List.replicate_succ, List.replicate_zero, List.cons_append, List.nil_append, List.append_nil, Value.category, Option.toList, va_rf, true_implies, false_implies, false_and, and_false, and_true, true_and, and_self, true_or, or_true, false_or, or_false, not_true_eq_false, not_false_eq_true, forall_const, implies_true, if_true, if_false, reduceCtorEq, reduceIte, Nat.reduceAdd, Nat.reduceMul, Nat.reduceSub, Nat.reduceDiv, Nat.reduceMod, Nat.reduceEqDiff, Nat.reduceLeDiff, Nat.reduceLT, Nat.zero_le, Nat.lt_add_one, Nat.le_refl, Nat.sub_zero, Nat.zero_lt_succ, ge_iff_le, ji_m2, ji_m1, ji_0, ji_1, ji_2, ji_3, ji_4, ji_5, ji_6, ji_7, ji_8, ji_10, ji_12, ji_29, ji_30, ji_31, ji_40, ji_60, ji_70, ji_80, ji_81, ji_360, ji_512, ji_972, ji_1000000, ji_2147483639, jl_m1, jl_0, jl_1]
    exact ⟨fun _ => hex h2 _ _ hG c2 hA, fun w => absurd (Int32.le_refl _) w⟩
  | succ r ih =>
    intro i0 h2 y hi hG c2 hA
    have hin : i0 < n := by omega
    have hnle : ¬ nI n ≤ nI i0 := nI_ge hin (by omega)
    have h10 : ¬ (1 : Int32) = 0 := by decide
    have c02 := cV0_fr c0 hG (fun i hi => by unfold Tg; omega)
    obtain ⟨⟨k5, t5⟩, f0, f1, f3, f5, f6, f4, f2⟩ := c2.2 i0 hin
    have g5 : fLo s i0 5 i0 = s.2.1 5 i0 := by
      unfold fLo
      rw [if_neg (fun z => by omega), if_neg (fun z => by omega)]
    have g2 : fLo s i0 2 i0 = s.2.1 2 i0 := by
      unfold fLo
      rw [if_neg (fun z => by omega), if_neg (fun z => by omega)]
    rw [g5] at f5
    rw [g2] at f2
    have step : ∀ k i, k < 7 → ¬ (k = 2 ∧ i = i0 ∧ ¬ s.2.1 8 i0 = 0) → fLo s (i0 + 1) k i = fLo s i0 k i := fun k i hk hn => by
      by_cases e : i = i0
      · subst e
        unfold fLo
        rw [if_neg (fun z => hn ⟨z.2.1, rfl, z.2.2⟩), if_neg (fun z => by omega), if_neg (fun z => by omega), if_neg (fun z => by omega)]
      · exact fLo_ne e
    rw [e32_24]
    simp only [e32_25, e32_26, e32_29, o_iload, o_lload, o_aload, o_istore, o_lstore, o_astore, o_iinc, o_ipush, o_lpush, o_null, o_ibin, o_ineg, o_lbin, o_ldv, o_lneg, o_lcmp, o_i2l, o_l2i, o_dup, o_pop, o_dupx, o_dup2, o_ic, o_iz, o_nul, o_acmp, o_tsw, o_gI, o_gR, o_pI, o_pZ, o_pR, o_iald, o_bald, o_lald, o_aald, o_iast, o_bast, o_last, o_aast, o_alen, o_newa, o_new, o_mna, o_cast, o_calls, o_callv, o_calli, o_oinit, o_getC, o_refp, o_cpi, o_cpo, o_mmax, o_mmin, o_lmin, o_iret, o_zret, o_lret, o_aret, o_vret, jd_lo, jd_la, jd_nl, jd_pop, List.length_cons, List.length_nil, List.set_cons_zero, List.set_cons_succ, List.getElem?_cons_zero, List.getElem?_cons_succ, List.replicate_succ, List.replicate_zero, List.cons_append, List.nil_append, List.append_nil, Value.category, Option.toList, va_rf, true_implies, false_implies, false_and, and_false, and_true, true_and, and_self, true_or, or_true, false_or, or_false, not_true_eq_false, not_false_eq_true, forall_const, implies_true, if_true, if_false, reduceCtorEq, reduceIte, Nat.reduceAdd, Nat.reduceMul, Nat.reduceSub, Nat.reduceDiv, Nat.reduceMod, Nat.reduceEqDiff, Nat.reduceLeDiff, Nat.reduceLT, Nat.zero_le, Nat.lt_add_one, Nat.le_refl, Nat.sub_zero, Nat.zero_lt_succ, ge_iff_le, ji_m2, ji_m1, ji_0, ji_1, ji_2, ji_3, ji_4, ji_5, ji_6, ji_7, ji_8, ji_10, ji_12, ji_29, ji_30, ji_31, ji_40, ji_60, ji_70, ji_80, ji_81, ji_360, ji_512, ji_972, ji_1000000, ji_2147483639, jl_m1, jl_0, jl_1, c02.1.1, c02.2.1.1, vLS_K c2.1]
    refine k_lsize (d := d + 2) c2.1 ?_
    simp only [e32_34, e32_37, e32_38, e32_41, e32_42, o_iload, o_lload, o_aload, o_istore, o_lstore, o_astore, o_iinc, o_ipush, o_lpush, o_null, o_ibin, o_ineg, o_lbin, o_ldv, o_lneg, o_lcmp, o_i2l, o_l2i, o_dup, o_pop, o_dupx, o_dup2, o_ic, o_iz, o_nul, o_acmp, o_tsw, o_gI, o_gR, o_pI, o_pZ, o_pR, o_iald, o_bald, o_lald, o_aald, o_iast, o_bast, o_last, o_aast, o_alen, o_newa, o_new, o_mna, o_cast, o_calls, o_callv, o_calli, o_oinit, o_getC, o_refp, o_cpi, o_cpo, o_mmax, o_mmin, o_lmin, o_iret, o_zret, o_lret, o_aret, o_vret, jd_lo, jd_la, jd_nl, jd_pop, List.length_cons, List.length_nil, List.set_cons_zero, List.set_cons_succ, List.getElem?_cons_zero, List.getElem?_cons_succ, List.replicate_succ, List.replicate_zero, List.cons_append, List.nil_append, List.append_nil, Value.category, Option.toList, va_rf, true_implies, false_implies, false_and, and_false, and_true, true_and, and_self, true_or, or_true, false_or, or_false, not_true_eq_false, not_false_eq_true, forall_const, implies_true, if_true, if_false, reduceCtorEq, reduceIte, Nat.reduceAdd, Nat.reduceMul, Nat.reduceSub, Nat.reduceDiv, Nat.reduceMod, Nat.reduceEqDiff, Nat.reduceLeDiff, Nat.reduceLT, Nat.zero_le, Nat.lt_add_one, Nat.le_refl, Nat.sub_zero, Nat.zero_lt_succ, ge_iff_le, ji_m2, ji_m1, ji_0, ji_1, ji_2, ji_3, ji_4, ji_5, ji_6, ji_7, ji_8, ji_10, ji_12, ji_29, ji_30, ji_31, ji_40, ji_60, ji_70, ji_80, ji_81, ji_360, ji_512, ji_972, ji_1000000, ji_2147483639, jl_m1, jl_0, jl_1, hnle, c02.1.1, c02.2.1.1, vLS_K c2.1]
    refine k_lget (d := d) c2.1 hin ?_
    simp only [e32_47, e32_50, e32_51, e32_52, e32_53, o_iload, o_lload, o_aload, o_istore, o_lstore, o_astore, o_iinc, o_ipush, o_lpush, o_null, o_ibin, o_ineg, o_lbin, o_ldv, o_lneg, o_lcmp, o_i2l, o_l2i, o_dup, o_pop, o_dupx, o_dup2, o_ic, o_iz, o_nul, o_acmp, o_tsw, o_gI, o_gR, o_pI, o_pZ, o_pR, o_iald, o_bald, o_lald, o_aald, o_iast, o_bast, o_last, o_aast, o_alen, o_newa, o_new, o_mna, o_cast, o_calls, o_callv, o_calli, o_oinit, o_getC, o_refp, o_cpi, o_cpo, o_mmax, o_mmin, o_lmin, o_iret, o_zret, o_lret, o_aret, o_vret, jd_lo, jd_la, jd_nl, jd_pop, List.length_cons, List.length_nil, List.set_cons_zero, List.set_cons_succ, List.getElem?_cons_zero, List.getElem?_cons_succ, List.replicate_succ, List.replicate_zero, List.cons_append, List.nil_append, List.append_nil, Value.category, Option.toList, va_rf, true_implies, false_implies, false_and, and_false, and_true, true_and, and_self, true_or, or_true, false_or, or_false, not_true_eq_false, not_false_eq_true, forall_const, implies_true, if_true, if_false, reduceCtorEq, reduceIte, Nat.reduceAdd, Nat.reduceMul, Nat.reduceSub, Nat.reduceDiv, Nat.reduceMod, Nat.reduceEqDiff, Nat.reduceLeDiff, Nat.reduceLT, Nat.zero_le, Nat.lt_add_one, Nat.le_refl, Nat.sub_zero, Nat.zero_lt_succ, ge_iff_le, ji_m2, ji_m1, ji_0, ji_1, ji_2, ji_3, ji_4, ji_5, ji_6, ji_7, ji_8, ji_10, ji_12, ji_29, ji_30, ji_31, ji_40, ji_60, ji_70, ji_80, ji_81, ji_360, ji_512, ji_972, ji_1000000, ji_2147483639, jl_m1, jl_0, jl_1, k5, c02.1.1]
    refine k_aboard (d := d + 2) c02.1.1 k5 ?_
    rw [f5, c02.2.2.2.2.2.2.1, c02.2.2.2.1, hf0, hf3, aboard_val hI hJ hin]
    by_cases h8 : s.2.1 8 i0 = 0
    · rw [h8]
      simp only [e32_56, e32_72, e32_75, o_iload, o_lload, o_aload, o_istore, o_lstore, o_astore, o_iinc, o_ipush, o_lpush, o_null, o_ibin, o_ineg, o_lbin, o_ldv, o_lneg, o_lcmp, o_i2l, o_l2i, o_dup, o_pop, o_dupx, o_dup2, o_ic, o_iz, o_nul, o_acmp, o_tsw, o_gI, o_gR, o_pI, o_pZ, o_pR, o_iald, o_bald, o_lald, o_aald, o_iast, o_bast, o_last, o_aast, o_alen, o_newa, o_new, o_mna, o_cast, o_calls, o_callv, o_calli, o_oinit, o_getC, o_refp, o_cpi, o_cpo, o_mmax, o_mmin, o_lmin, o_iret, o_zret, o_lret, o_aret, o_vret, jd_lo, jd_la, jd_nl, jd_pop, List.length_cons, List.length_nil, List.set_cons_zero, List.set_cons_succ, List.getElem?_cons_zero, List.getElem?_cons_succ, List.replicate_succ, List.replicate_zero, List.cons_append, List.nil_append, List.append_nil, Value.category, Option.toList, va_rf, true_implies, false_implies, false_and, and_false, and_true, true_and, and_self, true_or, or_true, false_or, or_false, not_true_eq_false, not_false_eq_true, forall_const, implies_true, if_true, if_false, reduceCtorEq, reduceIte, Nat.reduceAdd, Nat.reduceMul, Nat.reduceSub, Nat.reduceDiv, Nat.reduceMod, Nat.reduceEqDiff, Nat.reduceLeDiff, Nat.reduceLT, Nat.zero_le, Nat.lt_add_one, Nat.le_refl, Nat.sub_zero, Nat.zero_lt_succ, ge_iff_le, ji_m2, ji_m1, ji_0, ji_1, ji_2, ji_3, ji_4, ji_5, ji_6, ji_7, ji_8, ji_10, ji_12, ji_29, ji_30, ji_31, ji_40, ji_60, ji_70, ji_80, ji_81, ji_360, ji_512, ji_972, ji_1000000, ji_2147483639, jl_m1, jl_0, jl_1, jn_sc]
      refine ih (i0 + 1) h2 _ (by omega) hG (cVI_cg c2 (fun k i hk _ => step k i hk (fun z => z.2.2 h8))) (fun i hi hab => ?_)
      by_cases e : i = i0
      · subst e; exact absurd h8 hab
      · exact hA i (by omega) hab
    · have h81 := jbit (hI.2.2.2.2.2.2.2 i0 hin).1 h8
      rw [h81]
      simp only [e32_56, e32_59, e32_60, e32_61, e32_64, e32_67, e32_68, e32_69, e32_72, e32_75, o_iload, o_lload, o_aload, o_istore, o_lstore, o_astore, o_iinc, o_ipush, o_lpush, o_null, o_ibin, o_ineg, o_lbin, o_ldv, o_lneg, o_lcmp, o_i2l, o_l2i, o_dup, o_pop, o_dupx, o_dup2, o_ic, o_iz, o_nul, o_acmp, o_tsw, o_gI, o_gR, o_pI, o_pZ, o_pR, o_iald, o_bald, o_lald, o_aald, o_iast, o_bast, o_last, o_aast, o_alen, o_newa, o_new, o_mna, o_cast, o_calls, o_callv, o_calli, o_oinit, o_getC, o_refp, o_cpi, o_cpo, o_mmax, o_mmin, o_lmin, o_iret, o_zret, o_lret, o_aret, o_vret, jd_lo, jd_la, jd_nl, jd_pop, List.length_cons, List.length_nil, List.set_cons_zero, List.set_cons_succ, List.getElem?_cons_zero, List.getElem?_cons_succ, List.replicate_succ, List.replicate_zero, List.cons_append, List.nil_append, List.append_nil, Value.category, Option.toList, va_rf, true_implies, false_implies, false_and, and_false, and_true, true_and, and_self, true_or, or_true, false_or, or_false, not_true_eq_false, not_false_eq_true, forall_const, implies_true, if_true, if_false, reduceCtorEq, reduceIte, Nat.reduceAdd, Nat.reduceMul, Nat.reduceSub, Nat.reduceDiv, Nat.reduceMod, Nat.reduceEqDiff, Nat.reduceLeDiff, Nat.reduceLT, Nat.zero_le, Nat.lt_add_one, Nat.le_refl, Nat.sub_zero, Nat.zero_lt_succ, ge_iff_le, ji_m2, ji_m1, ji_0, ji_1, ji_2, ji_3, ji_4, ji_5, ji_6, ji_7, ji_8, ji_10, ji_12, ji_29, ji_30, ji_31, ji_40, ji_60, ji_70, ji_80, ji_81, ji_360, ji_512, ji_972, ji_1000000, ji_2147483639, jl_m1, jl_0, jl_1, rw_KI, rw_II, rw_RI, rw_LI, rw_AI, rw_JI, rw_OI, rw_KR, rw_IR, rw_RR, rw_LR, rw_AR, rw_JR, rw_OR, rw_KA, rw_IA, rw_RA, rw_LA, rw_AA, rw_JA, rw_OA, rw_KJ, rw_IJ, rw_RJ, rw_LJ, rw_AJ, rw_JJ, rw_OJ, rw_KO, rw_IO, rw_RO, rw_LO, rw_AO, rw_JO, rw_OO, rw_KAr, rw_IAr, rw_RAr, rw_LAr, rw_AAr, rw_JAr, rw_OAr, rw_KOr, rw_IOr, rw_ROr, rw_LOr, rw_AOr, rw_JOr, rw_OOr, rw_KN, rw_IN, rw_RN, rw_LN, rw_AN, rw_JN, rw_ON, rw_KY, rw_IY, rw_RY, rw_LY, rw_AY, rw_JY, rw_OY, h10, k5, f2, jn_sc]
      have hG7 : AG (fun u => u ≠ Tg v 3 i0) h2 (wI h2 327 (ad 3 i0) (s.2.1 2 i0)) tg tg := AG_wI (fun z => z t5)
      have c7 : cVI (wI h2 327 (ad 3 i0) (s.2.1 2 i0)) tg ad v n (fLo s i0) := by
        refine ⟨vLS_fr c2.1 hG7 (by unfold Tg; omega), fun i hi => ?_⟩
        have w : ∀ f, f ≠ 327 → zI (wI h2 327 (ad 3 i0) (s.2.1 2 i0)) f (ad 3 i) = zI h2 f (ad 3 i) := fun f hf => wI_ne hf
        have := c2.2 i hi
        unfold cIn at this ⊢
        rw [w 320 (by decide), w 321 (by decide), w 322 (by decide), w 323 (by decide), w 324 (by decide), w 325 (by decide), w 326 (by decide)]
        exact this
      obtain ⟨c8, hG8⟩ := cVI_w2 (x := 0) c7 hin hn81
      refine ih (i0 + 1) _ _ (by omega) (AG_t hG (AG_t (AG_w hG7 (fun u hu => hu i0 hin)) (AG_w hG8 (fun u hu => hu i0 hin)))) (cVI_cg c8 (fun k i hk _ => ?_)) (fun i hi hab => ?_)
      · by_cases e : k = 2 ∧ i = i0
        · unfold u2
          rw [if_pos e, e.1, e.2]
          unfold fLo
          rw [if_pos ⟨by omega, rfl, h8⟩]
        · unfold u2
          rw [if_neg e]
          exact step k i hk (fun z => e ⟨z.1, z.2.1⟩)
      · rw [wI_ne (by decide)]
        by_cases e : i = i0
        · subst e; exact wI_s
        · have ne : ¬ ad 3 i = ad 3 i0 := fun z => by
            have t1 := (c2.2 i (by omega)).1.2
            rw [z, t5] at t1
            unfold Tg at t1
            omega
          rw [rw_II, if_neg (fun z => ne z.2)]
          exact hA i (by omega) hab
set_option maxRecDepth 100000 in
theorem k_wreck (c : cVoy h tg ad aj v po w0 q l) (cJ : cVJ h tg aj) (hl : l.length ≤ 511) (hQ0 : vDo (nI q) po (rep (nI q) po w0 l) (ev7 6 0 0 0 0 0 0) = none → Q (some (.int 0)) h) (hQ1 : ∀ r s' h' tg' ad', vDo (nI q) po (rep (nI q) po w0 l) (ev7 6 0 0 0 0 0 0) = some (r, s') → cVoy h' tg' ad' aj v po w0 q ((ev7 6 0 0 0 0 0 0) :: l) → ad' 0 0 = ad 0 0 → cVJ h' tg' aj → AG (PV v) h h' tg tg' → Q (some (.int 1)) h') : jd_WM g (d + 10) 32 [.ref (ad 0 0)] h Q := by
  refine ⟨Nat.le_of_ble_eq_true rfl, ?_⟩; show jd_w g (d + 9) 32 Q 0 [some (.ref (ad 0 0)), none, none] [] h 2 805
  obtain ⟨n, lo, na, p, hI, hJ⟩ := cVoy_IJ c
  obtain ⟨⟨hV, hO, hK⟩, c0, cI, cA, cE, cS, cW, cR⟩ := c
  generalize hs : rep (nI q) po w0 l = s at hI hJ c0 cI cA cR hQ0 hQ1
  have hn81 := IV_81 hI
  have hcn := IV_cn hI
  have hca := IV_ca hI
  have hna := hI.2.2.1.2
  rw [hcn] at cI
  rw [hca] at cA
  obtain ⟨⟨kV, tV⟩, ⟨r448, r449, r450, r451, r454⟩, ⟨i452, i453⟩, i455, i456, i457, i458, i459⟩ := id c0
  have h10 : ¬ (1 : Int32) = 0 := by decide
  rw [fS_2] at i457
  rw [fS_1] at i456
  simp only [e32_0, e32_1, o_iload, o_lload, o_aload, o_istore, o_lstore, o_astore, o_iinc, o_ipush, o_lpush, o_null, o_ibin, o_ineg, o_lbin, o_ldv, o_lneg, o_lcmp, o_i2l, o_l2i, o_dup, o_pop, o_dupx, o_dup2, o_ic, o_iz, o_nul, o_acmp, o_tsw, o_gI, o_gR, o_pI, o_pZ, o_pR, o_iald, o_bald, o_lald, o_aald, o_iast, o_bast, o_last, o_aast, o_alen, o_newa, o_new, o_mna, o_cast, o_calls, o_callv, o_calli, o_oinit, o_getC, o_refp, o_cpi, o_cpo, o_mmax, o_mmin, o_lmin, o_iret, o_zret, o_lret, o_aret, o_vret, jd_lo, jd_la, jd_nl, jd_pop, List.length_cons, List.length_nil, List.set_cons_zero, List.set_cons_succ, List.getElem?_cons_zero, List.getElem?_cons_succ, List.replicate_succ, List.replicate_zero, List.cons_append, List.nil_append, List.append_nil, Value.category, Option.toList, va_rf, true_implies, false_implies, false_and, and_false, and_true, true_and, and_self, true_or, or_true, false_or, or_false, not_true_eq_false, not_false_eq_true, forall_const, implies_true, if_true, if_false, reduceCtorEq, reduceIte, Nat.reduceAdd, Nat.reduceMul, Nat.reduceSub, Nat.reduceDiv, Nat.reduceMod, Nat.reduceEqDiff, Nat.reduceLeDiff, Nat.reduceLT, Nat.zero_le, Nat.lt_add_one, Nat.le_refl, Nat.sub_zero, Nat.zero_lt_succ, ge_iff_le, ji_m2, ji_m1, ji_0, ji_1, ji_2, ji_3, ji_4, ji_5, ji_6, ji_7, ji_8, ji_10, ji_12, ji_29, ji_30, ji_31, ji_40, ji_60, ji_70, ji_80, ji_81, ji_360, ji_512, ji_972, ji_1000000, ji_2147483639, jl_m1, jl_0, jl_1, kV]
  refine k_takesV (d := d + 7) hI hJ c0 cE hl ?_
  by_cases h6 : s.1 6 = 0
  · rw [if_pos h6]
    by_cases h5 : s.1 5 = 0
    · simp only [e32_4, e32_7, e32_8, e32_11, e32_14, e32_15, o_iload, o_lload, o_aload, o_istore, o_lstore, o_astore, o_iinc, o_ipush, o_lpush, o_null, o_ibin, o_ineg, o_lbin, o_ldv, o_lneg, o_lcmp, o_i2l, o_l2i, o_dup, o_pop, o_dupx, o_dup2, o_ic, o_iz, o_nul, o_acmp, o_tsw, o_gI, o_gR, o_pI, o_pZ, o_pR, o_iald, o_bald, o_lald, o_aald, o_iast, o_bast, o_last, o_aast, o_alen, o_newa, o_new, o_mna, o_cast, o_calls, o_callv, o_calli, o_oinit, o_getC, o_refp, o_cpi, o_cpo, o_mmax, o_mmin, o_lmin, o_iret, o_zret, o_lret, o_aret, o_vret, jd_lo, jd_la, jd_nl, jd_pop, List.length_cons, List.length_nil, List.set_cons_zero, List.set_cons_succ, List.getElem?_cons_zero, List.getElem?_cons_succ, List.replicate_succ, List.replicate_zero, List.cons_append, List.nil_append, List.append_nil, Value.category, Option.toList, va_rf, true_implies, false_implies, false_and, and_false, and_true, true_and, and_self, true_or, or_true, false_or, or_false, not_true_eq_false, not_false_eq_true, forall_const, implies_true, if_true, if_false, reduceCtorEq, reduceIte, Nat.reduceAdd, Nat.reduceMul, Nat.reduceSub, Nat.reduceDiv, Nat.reduceMod, Nat.reduceEqDiff, Nat.reduceLeDiff, Nat.reduceLT, Nat.zero_le, Nat.lt_add_one, Nat.le_refl, Nat.sub_zero, Nat.zero_lt_succ, ge_iff_le, ji_m2, ji_m1, ji_0, ji_1, ji_2, ji_3, ji_4, ji_5, ji_6, ji_7, ji_8, ji_10, ji_12, ji_29, ji_30, ji_31, ji_40, ji_60, ji_70, ji_80, ji_81, ji_360, ji_512, ji_972, ji_1000000, ji_2147483639, jl_m1, jl_0, jl_1, h10, kV, i456, h5]
      exact hQ0 ((vDo_6 h6 rfl).trans (if_pos h5))
    · have h51 := jbit hI.2.2.2.2.2.1 h5
      have hvd : vDo (nI q) po s (ev7 6 0 0 0 0 0 0) = some (1, vLost s) := (vDo_6 h6 rfl).trans (if_neg h5)
      obtain ⟨hI', hJ'⟩ := IJ_lost hI hJ h6
      have hvl : vLost s = (cLo s, fLo s n, s.2.2) := by
        unfold vLost cLo fLo
        rw [hcn]
      simp only [e32_4, e32_7, e32_8, e32_11, e32_14, e32_15, e32_16, e32_17, e32_19, o_iload, o_lload, o_aload, o_istore, o_lstore, o_astore, o_iinc, o_ipush, o_lpush, o_null, o_ibin, o_ineg, o_lbin, o_ldv, o_lneg, o_lcmp, o_i2l, o_l2i, o_dup, o_pop, o_dupx, o_dup2, o_ic, o_iz, o_nul, o_acmp, o_tsw, o_gI, o_gR, o_pI, o_pZ, o_pR, o_iald, o_bald, o_lald, o_aald, o_iast, o_bast, o_last, o_aast, o_alen, o_newa, o_new, o_mna, o_cast, o_calls, o_callv, o_calli, o_oinit, o_getC, o_refp, o_cpi, o_cpo, o_mmax, o_mmin, o_lmin, o_iret, o_zret, o_lret, o_aret, o_vret, jd_lo, jd_la, jd_nl, jd_pop, List.length_cons, List.length_nil, List.set_cons_zero, List.set_cons_succ, List.getElem?_cons_zero, List.getElem?_cons_succ, List.replicate_succ, List.replicate_zero, List.cons_append, List.nil_append, List.append_nil, Value.category, Option.toList, va_rf, true_implies, false_implies, false_and, and_false, and_true, true_and, and_self, true_or, or_true, false_or, or_false, not_true_eq_false, not_false_eq_true, forall_const, implies_true, if_true, if_false, reduceCtorEq, reduceIte, Nat.reduceAdd, Nat.reduceMul, Nat.reduceSub, Nat.reduceDiv, Nat.reduceMod, Nat.reduceEqDiff, Nat.reduceLeDiff, Nat.reduceLT, Nat.zero_le, Nat.lt_add_one, Nat.le_refl, Nat.sub_zero, Nat.zero_lt_succ, ge_iff_le, ji_m2, ji_m1, ji_0, ji_1, ji_2, ji_3, ji_4, ji_5, ji_6, ji_7, ji_8, ji_10, ji_12, ji_29, ji_30, ji_31, ji_40, ji_60, ji_70, ji_80, ji_81, ji_360, ji_512, ji_972, ji_1000000, ji_2147483639, jl_m1, jl_0, jl_1, h10, kV, i456, h51]
      refine k_note (d := d) cE kV r450 hl (by decide) (fun h2 tg2 ad2 hd2 cE2 hG2 => ?_)
      have d16 : ∀ k i, k ≠ 16 → ad2 k i = ad k i := fun k i hk => hd2 k i (fun z => hk z.1)
      have c02 := cV0_fr c0 hG2 (by unfold Tg; omega)
      have cI2 := cVI_fr cI hG2 (by unfold Tg; omega) (fun i hi => by unfold Tg; omega)
      have cA2 := cVA_fr cA hG2 (by unfold Tg; omega) (fun a k _ _ _ => by unfold Tg; omega)
      have cS2 := cVS_fr cS hG2 (by unfold Tg; omega)
      have cJ2 := cVJ_fr cJ hG2 (by unfold Tg; omega)
      have hG3 : AG (fun u => u ≠ Tg v 0 0) h2 (wI h2 457 (ad 0 0) (-1)) tg2 tg2 := AG_wI (fun z => z c02.1.2)
      have c03 := cV0_w (k := 2) (x := -1) c02 (by decide)
      have cI3 := cVI_fr cI2 hG3 (by unfold Tg; omega) (fun i hi => by unfold Tg; omega)
      have cA3 := cVA_fr cA2 hG3 (by unfold Tg; omega) (fun a k _ _ _ => by unfold Tg; omega)
      have cE3 := cVE_fr cE2 hG3 (by unfold Tg; omega) (fun i hi => by unfold Tg; omega)
      have cS3 := cVS_fr cS2 hG3 (by unfold Tg; omega)
      have cJ3 := cVJ_fr cJ2 hG3 (by unfold Tg; omega)
      simp only [e32_22, e32_23, o_iload, o_lload, o_aload, o_istore, o_lstore, o_astore, o_iinc, o_ipush, o_lpush, o_null, o_ibin, o_ineg, o_lbin, o_ldv, o_lneg, o_lcmp, o_i2l, o_l2i, o_dup, o_pop, o_dupx, o_dup2, o_ic, o_iz, o_nul, o_acmp, o_tsw, o_gI, o_gR, o_pI, o_pZ, o_pR, o_iald, o_bald, o_lald, o_aald, o_iast, o_bast, o_last, o_aast, o_alen, o_newa, o_new, o_mna, o_cast, o_calls, o_callv, o_calli, o_oinit, o_getC, o_refp, o_cpi, o_cpo, o_mmax, o_mmin, o_lmin, o_iret, o_zret, o_lret, o_aret, o_vret, jd_lo, jd_la, jd_nl, jd_pop, List.length_cons, List.length_nil, List.set_cons_zero, List.set_cons_succ, List.getElem?_cons_zero, List.getElem?_cons_succ, List.replicate_succ, List.replicate_zero, List.cons_append, List.nil_append, List.append_nil, Value.category, Option.toList, va_rf, true_implies, false_implies, false_and, and_false, and_true, true_and, and_self, true_or, or_true, false_or, or_false, not_true_eq_false, not_false_eq_true, forall_const, implies_true, if_true, if_false, reduceCtorEq, reduceIte, Nat.reduceAdd, Nat.reduceMul, Nat.reduceSub, Nat.reduceDiv, Nat.reduceMod, Nat.reduceEqDiff, Nat.reduceLeDiff, Nat.reduceLT, Nat.zero_le, Nat.lt_add_one, Nat.le_refl, Nat.sub_zero, Nat.zero_lt_succ, ge_iff_le, ji_m2, ji_m1, ji_0, ji_1, ji_2, ji_3, ji_4, ji_5, ji_6, ji_7, ji_8, ji_10, ji_12, ji_29, ji_30, ji_31, ji_40, ji_60, ji_70, ji_80, ji_81, ji_360, ji_512, ji_972, ji_1000000, ji_2147483639, jl_m1, jl_0, jl_1]
      refine l_wreck (d := d + 6) hI hJ c03 rfl rfl cI3 (fun h4 x y hG4 cI4 h327 => ?_) n 0 _ none (by omega) AG_r (cVI_cg cI3 (fun k i _ _ => ?_)) (fun i hi => by omega)
      · have c04 := cV0_fr c03 hG4 (fun i hi => by unfold Tg; omega)
        have cA4 := cVA_fr cA3 hG4 (fun i hi => by unfold Tg; omega) (fun a k _ _ _ i hi => by unfold Tg; omega)
        have cE4 := cVE_fr cE3 hG4 (fun i hi => by unfold Tg; omega) (fun k hk i hi => by unfold Tg; omega)
        have cS4 := cVS_fr cS3 hG4 (fun i hi => by unfold Tg; omega)
        have cJ4 := cVJ_fr cJ3 hG4 (fun i hi => by unfold Tg; omega)
        have f1 := cV0_w (k := 3) (x := 1) c04 (by decide)
        have f2 := cV0_w (k := 1) (x := 0) f1 (by decide)
        have hG5 : AG (fun u => u ≠ Tg v 0 0) h4 (wI (wI h4 458 (ad 0 0) 1) 456 (ad 0 0) 0) tg2 tg2 := AG_t (AG_wI (fun z => z c04.1.2)) (AG_wI (fun z => z c04.1.2))
        have cI5 := cVI_fr cI4 hG5 (by unfold Tg; omega) (fun i hi => by unfold Tg; omega)
        have cA5 := cVA_fr cA4 hG5 (by unfold Tg; omega) (fun a k _ _ _ => by unfold Tg; omega)
        have cE5 := cVE_fr cE4 hG5 (by unfold Tg; omega) (fun i hi => by unfold Tg; omega)
        have cS5 := cVS_fr cS4 hG5 (by unfold Tg; omega)
        have cJ5 := cVJ_fr cJ4 hG5 (by unfold Tg; omega)
        have hp := hJ.2.1 h6
        have ewr : vWr q (vLost s) = 1 := by
          refine if_neg (fun z => ?_)
          rcases z with z | z
          · exact absurd z (show ¬ (1 : Int32) = 0 by decide)
          · have z' : s.1 0 = nI (q - 1) := z
            rw [hI.2.2.2.1.1] at z'
            have hq1 := hJ.1
            have := (nI_eq (by omega) (by omega)).mp z'
            omega
        have hfv : ∀ k, k < 5 → fS q (vLost s) k = u1 (u1 (u1 (fS q s) 2 (-1)) 3 1) 1 0 k := fS_of rfl rfl rfl (by rw [ewr]; rfl) rfl
        have hcn' := IV_cn hI'
        have hca' := IV_ca hI'
        have s6 : ¬ (vLost s).1 6 = 0 := show ¬ (1 : Int32) = 0 by decide
        have i327 : ∀ i, i < n → ¬ s.2.1 8 i = 0 → zI (wI (wI h4 458 (ad 0 0) 1) 456 (ad 0 0) 0) 327 (ad 3 i) = s.2.1 2 i := fun i hi hab => by
          rw [wI_ne (by decide), wI_ne (by decide)]; exact h327 i hi hab
        simp only [e32_78, e32_79, e32_80, e32_83, e32_84, e32_85, e32_88, e32_89, o_iload, o_lload, o_aload, o_istore, o_lstore, o_astore, o_iinc, o_ipush, o_lpush, o_null, o_ibin, o_ineg, o_lbin, o_ldv, o_lneg, o_lcmp, o_i2l, o_l2i, o_dup, o_pop, o_dupx, o_dup2, o_ic, o_iz, o_nul, o_acmp, o_tsw, o_gI, o_gR, o_pI, o_pZ, o_pR, o_iald, o_bald, o_lald, o_aald, o_iast, o_bast, o_last, o_aast, o_alen, o_newa, o_new, o_mna, o_cast, o_calls, o_callv, o_calli, o_oinit, o_getC, o_refp, o_cpi, o_cpo, o_mmax, o_mmin, o_lmin, o_iret, o_zret, o_lret, o_aret, o_vret, jd_lo, jd_la, jd_nl, jd_pop, List.length_cons, List.length_nil, List.set_cons_zero, List.set_cons_succ, List.getElem?_cons_zero, List.getElem?_cons_succ, List.replicate_succ, List.replicate_zero, List.cons_append, List.nil_append, List.append_nil, Value.category, Option.toList, va_rf, true_implies, false_implies, false_and, and_false, and_true, true_and, and_self, true_or, or_true, false_or, or_false, not_true_eq_false, not_false_eq_true, forall_const, implies_true, if_true, if_false, reduceCtorEq, reduceIte, Nat.reduceAdd, Nat.reduceMul, Nat.reduceSub, Nat.reduceDiv, Nat.reduceMod, Nat.reduceEqDiff, Nat.reduceLeDiff, Nat.reduceLT, Nat.zero_le, Nat.lt_add_one, Nat.le_refl, Nat.sub_zero, Nat.zero_lt_succ, ge_iff_le, ji_m2, ji_m1, ji_0, ji_1, ji_2, ji_3, ji_4, ji_5, ji_6, ji_7, ji_8, ji_10, ji_12, ji_29, ji_30, ji_31, ji_40, ji_60, ji_70, ji_80, ji_81, ji_360, ji_512, ji_972, ji_1000000, ji_2147483639, jl_m1, jl_0, jl_1, rw_KI, rw_II, rw_RI, rw_LI, rw_AI, rw_JI, rw_OI, rw_KR, rw_IR, rw_RR, rw_LR, rw_AR, rw_JR, rw_OR, rw_KA, rw_IA, rw_RA, rw_LA, rw_AA, rw_JA, rw_OA, rw_KJ, rw_IJ, rw_RJ, rw_LJ, rw_AJ, rw_JJ, rw_OJ, rw_KO, rw_IO, rw_RO, rw_LO, rw_AO, rw_JO, rw_OO, rw_KAr, rw_IAr, rw_RAr, rw_LAr, rw_AAr, rw_JAr, rw_OAr, rw_KOr, rw_IOr, rw_ROr, rw_LOr, rw_AOr, rw_JOr, rw_OOr, rw_KN, rw_IN, rw_RN, rw_LN, rw_AN, rw_JN, rw_ON, rw_KY, rw_IY, rw_RY, rw_LY, rw_AY, rw_JY, rw_OY, c04.1.1]
        refine k_adjEnd (d := d + 3) hI' hJ' f2 (by rw [← hfv 0 (by decide)]; rfl) (by rw [← hfv 3 (by decide)]; rfl) (by rw [hvl]; exact cI5) (by rw [hvl]; exact cA5) cS5 cJ5 (fun z => absurd z s6) (fun h6' z z1 z2 z3 z4 z5 z6 z7 z8 => ?_)
        simp only [e32_92, e32_93, o_iload, o_lload, o_aload, o_istore, o_lstore, o_astore, o_iinc, o_ipush, o_lpush, o_null, o_ibin, o_ineg, o_lbin, o_ldv, o_lneg, o_lcmp, o_i2l, o_l2i, o_dup, o_pop, o_dupx, o_dup2, o_ic, o_iz, o_nul, o_acmp, o_tsw, o_gI, o_gR, o_pI, o_pZ, o_pR, o_iald, o_bald, o_lald, o_aald, o_iast, o_bast, o_last, o_aast, o_alen, o_newa, o_new, o_mna, o_cast, o_calls, o_callv, o_calli, o_oinit, o_getC, o_refp, o_cpi, o_cpo, o_mmax, o_mmin, o_lmin, o_iret, o_zret, o_lret, o_aret, o_vret, jd_lo, jd_la, jd_nl, jd_pop, List.length_cons, List.length_nil, List.set_cons_zero, List.set_cons_succ, List.getElem?_cons_zero, List.getElem?_cons_succ, List.replicate_succ, List.replicate_zero, List.cons_append, List.nil_append, List.append_nil, Value.category, Option.toList, va_rf, true_implies, false_implies, false_and, and_false, and_true, true_and, and_self, true_or, or_true, false_or, or_false, not_true_eq_false, not_false_eq_true, forall_const, implies_true, if_true, if_false, reduceCtorEq, reduceIte, Nat.reduceAdd, Nat.reduceMul, Nat.reduceSub, Nat.reduceDiv, Nat.reduceMod, Nat.reduceEqDiff, Nat.reduceLeDiff, Nat.reduceLT, Nat.zero_le, Nat.lt_add_one, Nat.le_refl, Nat.sub_zero, Nat.zero_lt_succ, ge_iff_le, ji_m2, ji_m1, ji_0, ji_1, ji_2, ji_3, ji_4, ji_5, ji_6, ji_7, ji_8, ji_10, ji_12, ji_29, ji_30, ji_31, ji_40, ji_60, ji_70, ji_80, ji_81, ji_360, ji_512, ji_972, ji_1000000, ji_2147483639, jl_m1, jl_0, jl_1]
        have hz := (congrArg (fun z => vDo (nI q) po z (ev7 6 0 0 0 0 0 0)) hs).trans hvd
        refine hQ1 _ _ h6' tg2 ad2 hvd (cVoy_mk hV hO hK ⟨6, by decide, rfl⟩ hz ?_ ?_ ?_ (cVE_cg (cVE_fr cE5 z7 (by unfold PE Tg; omega) (fun i hi => by unfold PE Tg; omega)) (fun k hk => ?_)) ?_ (fun _ => ?_) (fun z => ?_)) (d16 0 0 (by decide)) z6 (AG_t (AG_w hG2 (fun u hu => by unfold PV Tg at hu; unfold Tg; omega)) (AG_t (AG_w hG3 (fun u hu => by unfold PV Tg at hu; unfold Tg; omega)) (AG_t (AG_w hG4 (fun u hu i hi => by unfold PV Tg at hu; unfold Tg; omega)) (AG_t (AG_w hG5 (fun u hu => by unfold PV Tg at hu; unfold Tg; omega)) (AG_w z7 (fun u hu => by unfold PV Tg at hu; unfold PE Tg; omega))))))
        · exact cV0_ad (cV0_cg z2 hfv) (fun k hk => d16 k 0 (by omega))
        · rw [hcn']
          exact cVI_ad z3 (d16 1 0 (by decide)) (fun i _ => d16 3 i (by decide))
        · rw [hca']
          exact cVA_ad z4 (d16 4 0 (by decide)) (fun a k _ _ _ => d16 k a (by omega))
        · by_cases e : k = l.length
          · rw [if_pos e]
            funext c
            rw [if_pos e, i457, hs]
            rfl
          · rw [if_neg e]
            funext c
            rw [if_neg e]
        · exact cVS_ad z5 (fun k _ _ => d16 k 0 (by omega))
        · rw [hs, hcn]
          intro i hi hab
          rw [d16 3 i (by decide), z8 i hi]
          exact i327 i hi hab
        · rw [hcn', hca']
          exact cVR_ad z1 (fun i _ => d16 3 i (by decide)) (fun a k _ _ _ => d16 k a (by omega)) (fun k _ _ => d16 k 0 (by omega))
      · show (if _ then _ else if _ then _ else _) = _
        rw [if_neg (fun z => by omega), if_neg (fun z => by omega)]
  · rw [if_neg h6]
    simp only [e32_4, e32_14, e32_15, o_iload, o_lload, o_aload, o_istore, o_lstore, o_astore, o_iinc, o_ipush, o_lpush, o_null, o_ibin, o_ineg, o_lbin, o_ldv, o_lneg, o_lcmp, o_i2l, o_l2i, o_dup, o_pop, o_dupx, o_dup2, o_ic, o_iz, o_nul, o_acmp, o_tsw, o_gI, o_gR, o_pI, o_pZ, o_pR, o_iald, o_bald, o_lald, o_aald, o_iast, o_bast, o_last, o_aast, o_alen, o_newa, o_new, o_mna, o_cast, o_calls, o_callv, o_calli, o_oinit, o_getC, o_refp, o_cpi, o_cpo, o_mmax, o_mmin, o_lmin, o_iret, o_zret, o_lret, o_aret, o_vret, jd_lo, jd_la, jd_nl, jd_pop, List.length_cons, List.length_nil, List.set_cons_zero, List.set_cons_succ, List.getElem?_cons_zero, List.getElem?_cons_succ, List.replicate_succ, List.replicate_zero, List.cons_append, List.nil_append, List.append_nil, Value.category, Option.toList, va_rf, true_implies, false_implies, false_and, and_false, and_true, true_and, and_self, true_or, or_true, false_or, or_false, not_true_eq_false, not_false_eq_true, forall_const, implies_true, if_true, if_false, reduceCtorEq, reduceIte, Nat.reduceAdd, Nat.reduceMul, Nat.reduceSub, Nat.reduceDiv, Nat.reduceMod, Nat.reduceEqDiff, Nat.reduceLeDiff, Nat.reduceLT, Nat.zero_le, Nat.lt_add_one, Nat.le_refl, Nat.sub_zero, Nat.zero_lt_succ, ge_iff_le, ji_m2, ji_m1, ji_0, ji_1, ji_2, ji_3, ji_4, ji_5, ji_6, ji_7, ji_8, ji_10, ji_12, ji_29, ji_30, ji_31, ji_40, ji_60, ji_70, ji_80, ji_81, ji_360, ji_512, ji_972, ji_1000000, ji_2147483639, jl_m1, jl_0, jl_1]
    exact hQ0 (vDo_E h6)
end
