/-! the class: an act's givings and expenses; an event is noted -/
/-- all that is new lies at q -/
theorem AG_new {P : Nat → Prop} {h h1 : jd_H} {tg t1 : Nat → Nat} {q : Nat} (hq : zK h q = 0) (e : ∀ a, a ≠ q → (zK h1 a = zK h a ∧ zL h1 a = zL h a ∧ t1 a = tg a) ∧ (∀ f, zI h1 f a = zI h f a) ∧ (∀ f, zR h1 f a = zR h f a) ∧ zA h1 a = zA h a ∧ zJ h1 a = zJ h a ∧ zO h1 a = zO h a) : AG P h h1 tg t1 := fun a ha => by
  have hne : a ≠ q := fun z => ha (by rw [z]; exact hq)
  obtain ⟨⟨e1, e2, e3⟩, e4⟩ := e a hne
  exact ⟨e1, e2, e3, fun _ => e4⟩
section
variable {g d : Nat} {h : jd_H} {Q : jd_Q} {tg : Nat → Nat} {ad : Nat → Nat → Nat} {v na a j : Nat} {f : Nat → Nat → Nat → Int32} {sp : Nat → Nat → Int32} {x y : Int32}
theorem cAo_R {k : Nat} (c : cAo h tg ad v a) (hk : k < 7) : zR h (128 + k) (ad 6 a) = some (ad (7 + k) a) := (c.2 k hk).1
theorem cAo_ne {k l : Nat} (c : cAo h tg ad v a) (hk : k < 7) (hl : l < 7) (hkl : k ≠ l) : ¬ ad (7 + k) a = ad (7 + l) a := fun z => by
  have := (c.2 k hk).2.1
  rw [z, (c.2 l hl).2.1] at this
  unfold Tg at this
  omega
set_option maxRecDepth 100000 in
theorem k_addG (c : cVA h tg ad v na f sp) (ha : a < na) (hna : na ≤ 12) (hj : j < 81) (hQ : ∀ h', cVA h' tg ad v na (u3 (u3 f 1 a j (f 1 a j + x)) 2 a j (f 2 a j + y)) sp → AG (fun u => u ≠ Tg v 6 a ∧ u ≠ Tg v 8 a ∧ u ≠ Tg v 9 a) h h' tg tg → Q none h') : jd_WM g (d + 2) 1 [.ref (ad 6 a), .int (nI j), .int x, .int y] h Q := by
  refine ⟨Nat.le_of_ble_eq_true rfl, ?_⟩; show jd_w g (d + 1) 1 Q 0 [some (.ref (ad 6 a)), some (.int (nI j)), some (.int x), some (.int y)] [] h 0 0
  obtain ⟨o, cc⟩ := c.2 a ha
  have h10 : ¬ (1 : Int32) = 0 := by decide
  have r8 : zR h 129 (ad 6 a) = some (ad 8 a) := cAo_R o (k := 1) (by decide)
  have r9 : zR h 130 (ad 6 a) = some (ad 9 a) := cAo_R o (k := 2) (by decide)
  have k8 : zK h (ad 8 a) = 10 := (o.2 1 (by decide)).2.2.1
  have k9 : zK h (ad 9 a) = 10 := (o.2 2 (by decide)).2.2.1
  have l8 : zL h (ad 8 a) = 81 := (o.2 1 (by decide)).2.2.2
  have l9 : zL h (ad 9 a) = 81 := (o.2 2 (by decide)).2.2.2
  have t8 : tg (ad 8 a) = Tg v 8 a := (o.2 1 (by decide)).2.1
  have t9 : tg (ad 9 a) = Tg v 9 a := (o.2 2 (by decide)).2.1
  have n98 : ¬ ad 9 a = ad 8 a := cAo_ne o (k := 2) (l := 1) (by decide) (by decide) (by decide)
  have n89 : ¬ ad 8 a = ad 9 a := cAo_ne o (k := 1) (l := 2) (by decide) (by decide) (by decide)
  have n78 : ¬ ad 7 a = ad 8 a := cAo_ne o (k := 0) (l := 1) (by decide) (by decide) (by decide)
  have n79 : ¬ ad 7 a = ad 9 a := cAo_ne o (k := 0) (l := 2) (by decide) (by decide) (by decide)
  have nc8 : ¬ ad 12 a = ad 8 a := cAo_ne o (k := 5) (l := 1) (by decide) (by decide) (by decide)
  have nc9 : ¬ ad 12 a = ad 9 a := cAo_ne o (k := 5) (l := 2) (by decide) (by decide) (by decide)
  obtain ⟨c1, c2, c3, c4⟩ := cc
  obtain ⟨v7, v8, v9⟩ := c1 j hj
  simp only [e1_0, e1_1, e1_2, e1_4, o_iload, o_lload, o_aload, o_istore, o_lstore, o_astore, o_iinc, o_ipush, o_lpush, o_null, o_ibin, o_ineg, o_lbin, o_ldv, o_lneg, o_lcmp, o_i2l, o_l2i, o_dup, o_pop, o_dupx, o_dup2, o_ic, o_iz, o_nul, o_acmp, o_tsw, o_gI, o_gR, o_pI, o_pZ, o_pR, o_iald, o_bald, o_lald, o_aald, o_iast, o_bast, o_last, o_aast, o_alen, o_newa, o_new, o_mna, o_cast, o_calls, o_callv, o_calli, o_oinit, o_getC, o_refp, o_cpi, o_cpo, o_mmax, o_mmin, o_lmin, o_iret, o_zret, o_lret, o_aret, o_vret, jd_lo, jd_la, jd_nl, jd_pop, List.length_cons, List.length_nil, List.set_cons_zero, List.set_cons_succ, List.getElem?_cons_zero, List.getElem?_cons_succ, List.replicate_succ, List.replicate_zero, List.cons_append, List.nil_append, List.append_nil, Value.category, Option.toList, va_rf, true_implies, false_implies, false_and, and_false, and_true, true_and, and_self, true_or, or_true, false_or, or_false, not_true_eq_false, not_false_eq_true, forall_const, implies_true, if_true, if_false, reduceCtorEq, reduceIte, Nat.reduceAdd, Nat.reduceMul, Nat.reduceSub, Nat.reduceDiv, Nat.reduceMod, Nat.reduceEqDiff, Nat.reduceLeDiff, Nat.reduceLT, Nat.zero_le, Nat.lt_add_one, Nat.le_refl, Nat.sub_zero, Nat.zero_lt_succ, ge_iff_le, ji_m2, ji_m1, ji_0, ji_1, ji_2, ji_3, ji_4, ji_5, ji_6, ji_7, ji_8, ji_10, ji_12, ji_29, ji_30, ji_31, ji_40, ji_60, ji_70, ji_80, ji_81, ji_360, ji_512, ji_972, ji_1000000, ji_2147483639, jl_m1, jl_0, jl_1]
  refine k_isWithin (d := d) ?_
  rw [if_pos (show 0 ≤ nI j ∧ nI j ≤ 80 from ⟨nI_pos' (by omega), nI_le (b := 80) (by omega) (by decide)⟩)]
  simp only [e1_7, e1_10, e1_11, e1_14, e1_15, e1_16, e1_17, e1_18, e1_19, e1_20, e1_21, e1_24, e1_25, e1_26, e1_27, e1_28, e1_29, e1_30, e1_31, e1_32, e1_35, e1_36, e1_37, e1_40, o_iload, o_lload, o_aload, o_istore, o_lstore, o_astore, o_iinc, o_ipush, o_lpush, o_null, o_ibin, o_ineg, o_lbin, o_ldv, o_lneg, o_lcmp, o_i2l, o_l2i, o_dup, o_pop, o_dupx, o_dup2, o_ic, o_iz, o_nul, o_acmp, o_tsw, o_gI, o_gR, o_pI, o_pZ, o_pR, o_iald, o_bald, o_lald, o_aald, o_iast, o_bast, o_last, o_aast, o_alen, o_newa, o_new, o_mna, o_cast, o_calls, o_callv, o_calli, o_oinit, o_getC, o_refp, o_cpi, o_cpo, o_mmax, o_mmin, o_lmin, o_iret, o_zret, o_lret, o_aret, o_vret, jd_lo, jd_la, jd_nl, jd_pop, List.length_cons, List.length_nil, List.set_cons_zero, List.set_cons_succ, List.getElem?_cons_zero, List.getElem?_cons_succ, List.replicate_succ, List.replicate_zero, List.cons_append, List.nil_append, List.append_nil, Value.category, Option.toList, va_rf, true_implies, false_implies, false_and, and_false, and_true, true_and, and_self, true_or, or_true, false_or, or_false, not_true_eq_false, not_false_eq_true, forall_const, implies_true, if_true, if_false, reduceCtorEq, reduceIte, Nat.reduceAdd, Nat.reduceMul, Nat.reduceSub, Nat.reduceDiv, Nat.reduceMod, Nat.reduceEqDiff, Nat.reduceLeDiff, Nat.reduceLT, Nat.zero_le, Nat.lt_add_one, Nat.le_refl, Nat.sub_zero, Nat.zero_lt_succ, ge_iff_le, ji_m2, ji_m1, ji_0, ji_1, ji_2, ji_3, ji_4, ji_5, ji_6, ji_7, ji_8, ji_10, ji_12, ji_29, ji_30, ji_31, ji_40, ji_60, ji_70, ji_80, ji_81, ji_360, ji_512, ji_972, ji_1000000, ji_2147483639, jl_m1, jl_0, jl_1, rw_KI, rw_II, rw_RI, rw_LI, rw_AI, rw_JI, rw_OI, rw_KR, rw_IR, rw_RR, rw_LR, rw_AR, rw_JR, rw_OR, rw_KA, rw_IA, rw_RA, rw_LA, rw_AA, rw_JA, rw_OA, rw_KJ, rw_IJ, rw_RJ, rw_LJ, rw_AJ, rw_JJ, rw_OJ, rw_KO, rw_IO, rw_RO, rw_LO, rw_AO, rw_JO, rw_OO, rw_KAr, rw_IAr, rw_RAr, rw_LAr, rw_AAr, rw_JAr, rw_OAr, rw_KOr, rw_IOr, rw_ROr, rw_LOr, rw_AOr, rw_JOr, rw_OOr, rw_KN, rw_IN, rw_RN, rw_LN, rw_AN, rw_JN, rw_ON, rw_KY, rw_IY, rw_RY, rw_LY, rw_AY, rw_JY, rw_OY, h10, o.1.1, r8, r9, k8, k9, l8, l9, jn_in hj (by decide), jn_cl hj (by decide), n98, v8, v9, c4]
  have hG : AG (fun u => u ≠ Tg v 6 a ∧ u ≠ Tg v 8 a ∧ u ≠ Tg v 9 a) h (wI (wA (wA h (ad 8 a) j (f 1 a j + x)) (ad 9 a) j (f 2 a j + y)) 136 (ad 6 a) (si (f 2 a) 81 + y)) tg tg := AG_t (AG_wA (fun z => z.2.1 t8)) (AG_t (AG_wA (fun z => z.2.2 t9)) (AG_wI (fun z => z.1 o.1.2)))
  refine hQ _ ⟨vLS_fr c.1 hG (by unfold Tg; omega), fun b hb => ?_⟩ hG
  by_cases e : b = a
  · subst e
    refine ⟨o, fun i hi => ?_, fun o ho => ?_, ?_, ?_⟩
    · simp only [rw_KI, rw_II, rw_RI, rw_LI, rw_AI, rw_JI, rw_OI, rw_KR, rw_IR, rw_RR, rw_LR, rw_AR, rw_JR, rw_OR, rw_KA, rw_IA, rw_RA, rw_LA, rw_AA, rw_JA, rw_OA, rw_KJ, rw_IJ, rw_RJ, rw_LJ, rw_AJ, rw_JJ, rw_OJ, rw_KO, rw_IO, rw_RO, rw_LO, rw_AO, rw_JO, rw_OO, rw_KAr, rw_IAr, rw_RAr, rw_LAr, rw_AAr, rw_JAr, rw_OAr, rw_KOr, rw_IOr, rw_ROr, rw_LOr, rw_AOr, rw_JOr, rw_OOr, rw_KN, rw_IN, rw_RN, rw_LN, rw_AN, rw_JN, rw_ON, rw_KY, rw_IY, rw_RY, rw_LY, rw_AY, rw_JY, rw_OY, n78, n79, n89, n98, false_and, if_false, true_and, u3, if_true]
      obtain ⟨w7, w8, w9⟩ := c1 i hi
      refine ⟨?_, ?_, ?_⟩
      · simp [w7]
      · by_cases ei : i = j
        · simp [ei]
        · simp [ei, w8]
      · by_cases ei : i = j
        · simp [ei]
        · simp [ei, w9]
    · simp only [rw_KI, rw_II, rw_RI, rw_LI, rw_AI, rw_JI, rw_OI, rw_KR, rw_IR, rw_RR, rw_LR, rw_AR, rw_JR, rw_OR, rw_KA, rw_IA, rw_RA, rw_LA, rw_AA, rw_JA, rw_OA, rw_KJ, rw_IJ, rw_RJ, rw_LJ, rw_AJ, rw_JJ, rw_OJ, rw_KO, rw_IO, rw_RO, rw_LO, rw_AO, rw_JO, rw_OO, rw_KAr, rw_IAr, rw_RAr, rw_LAr, rw_AAr, rw_JAr, rw_OAr, rw_KOr, rw_IOr, rw_ROr, rw_LOr, rw_AOr, rw_JOr, rw_OOr, rw_KN, rw_IN, rw_RN, rw_LN, rw_AN, rw_JN, rw_ON, rw_KY, rw_IY, rw_RY, rw_LY, rw_AY, rw_JY, rw_OY, nc8, nc9, false_and, if_false]
      exact c2 o ho
    · rw [wI_ne (by decide)]; exact c3
    · rw [wI_s]
      refine (si_up 81 hj ?_ (fun i _ hi => ?_)).symm
      · show u3 (u3 f 1 b j (f 1 b j + x)) 2 b j (f 2 b j + y) 2 b j = _
        exact if_pos ⟨rfl, rfl, rfl⟩
      · show u3 (u3 f 1 b j (f 1 b j + x)) 2 b j (f 2 b j + y) 2 b i = _
        unfold u3
        rw [if_neg (fun z => hi z.2.2), if_neg (fun z => absurd z.1 (by decide))]
  · obtain ⟨o', cc'⟩ := c.2 b hb
    refine ⟨cAo_fr o' hG (by unfold Tg; omega), ?_⟩
    have := cAc_fr o' cc' hG (by unfold Tg; omega) (by unfold Tg; omega) (by unfold Tg; omega) (by unfold Tg; omega) (by unfold Tg; omega)
    have ef : (fun k => u3 (u3 f 1 a j (f 1 a j + x)) 2 a j (f 2 a j + y) k b) = fun k => f k b := by
      funext k i
      unfold u3
      rw [if_neg (fun z => e z.2.1), if_neg (fun z => e z.2.1)]
    rw [ef]
    exact this
set_option maxRecDepth 100000 in
theorem k_addG0 (ka : zK h (ad 6 a) = 2) (hQ : Q none h) : jd_WM g (d + 2) 1 [.ref (ad 6 a), .int (nI 81), .int x, .int y] h Q := by
  refine ⟨Nat.le_of_ble_eq_true rfl, ?_⟩; show jd_w g (d + 1) 1 Q 0 [some (.ref (ad 6 a)), some (.int (nI 81)), some (.int x), some (.int y)] [] h 0 0
  simp only [e1_0, e1_1, e1_2, e1_4, o_iload, o_lload, o_aload, o_istore, o_lstore, o_astore, o_iinc, o_ipush, o_lpush, o_null, o_ibin, o_ineg, o_lbin, o_ldv, o_lneg, o_lcmp, o_i2l, o_l2i, o_dup, o_pop, o_dupx, o_dup2, o_ic, o_iz, o_nul, o_acmp, o_tsw, o_gI, o_gR, o_pI, o_pZ, o_pR, o_iald, o_bald, o_lald, o_aald, o_iast, o_bast, o_last, o_aast, o_alen, o_newa, o_new, o_mna, o_cast, o_calls, o_callv, o_calli, o_oinit, o_getC, o_refp, o_cpi, o_cpo, o_mmax, o_mmin, o_lmin, o_iret, o_zret, o_lret, o_aret, o_vret, jd_lo, jd_la, jd_nl, jd_pop, List.length_cons, List.length_nil, List.set_cons_zero, List.set_cons_succ, List.getElem?_cons_zero, List.getElem?_cons_succ, List.replicate_succ, List.replicate_zero, List.cons_append, List.nil_append, List.append_nil, Value.category, Option.toList, va_rf, true_implies, false_implies, false_and, and_false, and_true, true_and, and_self, true_or, or_true, false_or, or_false, not_true_eq_false, not_false_eq_true, forall_const, implies_true, if_true, if_false, reduceCtorEq, reduceIte, Nat.reduceAdd, Nat.reduceMul, Nat.reduceSub, Nat.reduceDiv, Nat.reduceMod, Nat.reduceEqDiff, Nat.reduceLeDiff, Nat.reduceLT, Nat.zero_le, Nat.lt_add_one, Nat.le_refl, Nat.sub_zero, Nat.zero_lt_succ, ge_iff_le, ji_m2, ji_m1, ji_0, ji_1, ji_2, ji_3, ji_4, ji_5, ji_6, ji_7, ji_8, ji_10, ji_12, ji_29, ji_30, ji_31, ji_40, ji_60, ji_70, ji_80, ji_81, ji_360, ji_512, ji_972, ji_1000000, ji_2147483639, jl_m1, jl_0, jl_1]
  refine k_isWithin (d := d) ?_
  rw [if_neg (show ¬ (0 ≤ nI 81 ∧ nI 81 ≤ 80) by decide)]
  simp only [e1_7, e1_40, o_iload, o_lload, o_aload, o_istore, o_lstore, o_astore, o_iinc, o_ipush, o_lpush, o_null, o_ibin, o_ineg, o_lbin, o_ldv, o_lneg, o_lcmp, o_i2l, o_l2i, o_dup, o_pop, o_dupx, o_dup2, o_ic, o_iz, o_nul, o_acmp, o_tsw, o_gI, o_gR, o_pI, o_pZ, o_pR, o_iald, o_bald, o_lald, o_aald, o_iast, o_bast, o_last, o_aast, o_alen, o_newa, o_new, o_mna, o_cast, o_calls, o_callv, o_calli, o_oinit, o_getC, o_refp, o_cpi, o_cpo, o_mmax, o_mmin, o_lmin, o_iret, o_zret, o_lret, o_aret, o_vret, jd_lo, jd_la, jd_nl, jd_pop, List.length_cons, List.length_nil, List.set_cons_zero, List.set_cons_succ, List.getElem?_cons_zero, List.getElem?_cons_succ, List.replicate_succ, List.replicate_zero, List.cons_append, List.nil_append, List.append_nil, Value.category, Option.toList, va_rf, true_implies, false_implies, false_and, and_false, and_true, true_and, and_self, true_or, or_true, false_or, or_false, not_true_eq_false, not_false_eq_true, forall_const, implies_true, if_true, if_false, reduceCtorEq, reduceIte, Nat.reduceAdd, Nat.reduceMul, Nat.reduceSub, Nat.reduceDiv, Nat.reduceMod, Nat.reduceEqDiff, Nat.reduceLeDiff, Nat.reduceLT, Nat.zero_le, Nat.lt_add_one, Nat.le_refl, Nat.sub_zero, Nat.zero_lt_succ, ge_iff_le, ji_m2, ji_m1, ji_0, ji_1, ji_2, ji_3, ji_4, ji_5, ji_6, ji_7, ji_8, ji_10, ji_12, ji_29, ji_30, ji_31, ji_40, ji_60, ji_70, ji_80, ji_81, ji_360, ji_512, ji_972, ji_1000000, ji_2147483639, jl_m1, jl_0, jl_1]
  exact hQ
set_option maxRecDepth 100000 in
theorem k_addX (c : cVA h tg ad v na f sp) (ha : a < na) (hna : na ≤ 12) (hj : j < 30) (hQ : ∀ h', cVA h' tg ad v na f (u2 sp a j (sp a j + x)) → AG (fun u => u ≠ Tg v 6 a ∧ u ≠ Tg v 12 a) h h' tg tg → Q none h') : jd_WM g (d + 3) 2 [.ref (ad 6 a), .int (nI j), .int x] h Q := by
  refine ⟨Nat.le_of_ble_eq_true rfl, ?_⟩; show jd_w g (d + 2) 2 Q 0 [some (.ref (ad 6 a)), some (.int (nI j)), some (.int x)] [] h 0 0
  obtain ⟨o, cc⟩ := c.2 a ha
  have h10 : ¬ (1 : Int32) = 0 := by decide
  have r12 : zR h 133 (ad 6 a) = some (ad 12 a) := cAo_R o (k := 5) (by decide)
  have k12 : zK h (ad 12 a) = 10 := (o.2 5 (by decide)).2.2.1
  have l12 : zL h (ad 12 a) = 30 := (o.2 5 (by decide)).2.2.2
  have t12 : tg (ad 12 a) = Tg v 12 a := (o.2 5 (by decide)).2.1
  have n7 : ¬ ad 7 a = ad 12 a := cAo_ne o (k := 0) (l := 5) (by decide) (by decide) (by decide)
  have n8 : ¬ ad 8 a = ad 12 a := cAo_ne o (k := 1) (l := 5) (by decide) (by decide) (by decide)
  have n9 : ¬ ad 9 a = ad 12 a := cAo_ne o (k := 2) (l := 5) (by decide) (by decide) (by decide)
  obtain ⟨c1, c2, c3, c4⟩ := cc
  have v12 := c2 j hj
  simp only [e2_0, e2_1, o_iload, o_lload, o_aload, o_istore, o_lstore, o_astore, o_iinc, o_ipush, o_lpush, o_null, o_ibin, o_ineg, o_lbin, o_ldv, o_lneg, o_lcmp, o_i2l, o_l2i, o_dup, o_pop, o_dupx, o_dup2, o_ic, o_iz, o_nul, o_acmp, o_tsw, o_gI, o_gR, o_pI, o_pZ, o_pR, o_iald, o_bald, o_lald, o_aald, o_iast, o_bast, o_last, o_aast, o_alen, o_newa, o_new, o_mna, o_cast, o_calls, o_callv, o_calli, o_oinit, o_getC, o_refp, o_cpi, o_cpo, o_mmax, o_mmin, o_lmin, o_iret, o_zret, o_lret, o_aret, o_vret, jd_lo, jd_la, jd_nl, jd_pop, List.length_cons, List.length_nil, List.set_cons_zero, List.set_cons_succ, List.getElem?_cons_zero, List.getElem?_cons_succ, List.replicate_succ, List.replicate_zero, List.cons_append, List.nil_append, List.append_nil, Value.category, Option.toList, va_rf, true_implies, false_implies, false_and, and_false, and_true, true_and, and_self, true_or, or_true, false_or, or_false, not_true_eq_false, not_false_eq_true, forall_const, implies_true, if_true, if_false, reduceCtorEq, reduceIte, Nat.reduceAdd, Nat.reduceMul, Nat.reduceSub, Nat.reduceDiv, Nat.reduceMod, Nat.reduceEqDiff, Nat.reduceLeDiff, Nat.reduceLT, Nat.zero_le, Nat.lt_add_one, Nat.le_refl, Nat.sub_zero, Nat.zero_lt_succ, ge_iff_le, ji_m2, ji_m1, ji_0, ji_1, ji_2, ji_3, ji_4, ji_5, ji_6, ji_7, ji_8, ji_10, ji_12, ji_29, ji_30, ji_31, ji_40, ji_60, ji_70, ji_80, ji_81, ji_360, ji_512, ji_972, ji_1000000, ji_2147483639, jl_m1, jl_0, jl_1]
  refine k_isOwner (d := d) ?_
  rw [if_pos (show 0 ≤ nI j ∧ nI j ≤ 29 from ⟨nI_pos' (by omega), nI_le (b := 29) (by omega) (by decide)⟩)]
  simp only [e2_4, e2_7, e2_8, e2_11, e2_12, e2_13, e2_14, e2_15, e2_16, e2_17, e2_18, e2_19, e2_22, e2_23, e2_24, e2_27, o_iload, o_lload, o_aload, o_istore, o_lstore, o_astore, o_iinc, o_ipush, o_lpush, o_null, o_ibin, o_ineg, o_lbin, o_ldv, o_lneg, o_lcmp, o_i2l, o_l2i, o_dup, o_pop, o_dupx, o_dup2, o_ic, o_iz, o_nul, o_acmp, o_tsw, o_gI, o_gR, o_pI, o_pZ, o_pR, o_iald, o_bald, o_lald, o_aald, o_iast, o_bast, o_last, o_aast, o_alen, o_newa, o_new, o_mna, o_cast, o_calls, o_callv, o_calli, o_oinit, o_getC, o_refp, o_cpi, o_cpo, o_mmax, o_mmin, o_lmin, o_iret, o_zret, o_lret, o_aret, o_vret, jd_lo, jd_la, jd_nl, jd_pop, List.length_cons, List.length_nil, List.set_cons_zero, List.set_cons_succ, List.getElem?_cons_zero, List.getElem?_cons_succ, List.replicate_succ, List.replicate_zero, List.cons_append, List.nil_append, List.append_nil, Value.category, Option.toList, va_rf, true_implies, false_implies, false_and, and_false, and_true, true_and, and_self, true_or, or_true, false_or, or_false, not_true_eq_false, not_false_eq_true, forall_const, implies_true, if_true, if_false, reduceCtorEq, reduceIte, Nat.reduceAdd, Nat.reduceMul, Nat.reduceSub, Nat.reduceDiv, Nat.reduceMod, Nat.reduceEqDiff, Nat.reduceLeDiff, Nat.reduceLT, Nat.zero_le, Nat.lt_add_one, Nat.le_refl, Nat.sub_zero, Nat.zero_lt_succ, ge_iff_le, ji_m2, ji_m1, ji_0, ji_1, ji_2, ji_3, ji_4, ji_5, ji_6, ji_7, ji_8, ji_10, ji_12, ji_29, ji_30, ji_31, ji_40, ji_60, ji_70, ji_80, ji_81, ji_360, ji_512, ji_972, ji_1000000, ji_2147483639, jl_m1, jl_0, jl_1, rw_KI, rw_II, rw_RI, rw_LI, rw_AI, rw_JI, rw_OI, rw_KR, rw_IR, rw_RR, rw_LR, rw_AR, rw_JR, rw_OR, rw_KA, rw_IA, rw_RA, rw_LA, rw_AA, rw_JA, rw_OA, rw_KJ, rw_IJ, rw_RJ, rw_LJ, rw_AJ, rw_JJ, rw_OJ, rw_KO, rw_IO, rw_RO, rw_LO, rw_AO, rw_JO, rw_OO, rw_KAr, rw_IAr, rw_RAr, rw_LAr, rw_AAr, rw_JAr, rw_OAr, rw_KOr, rw_IOr, rw_ROr, rw_LOr, rw_AOr, rw_JOr, rw_OOr, rw_KN, rw_IN, rw_RN, rw_LN, rw_AN, rw_JN, rw_ON, rw_KY, rw_IY, rw_RY, rw_LY, rw_AY, rw_JY, rw_OY, h10, o.1.1, r12, k12, l12, jn_in hj (by decide), jn_cl hj (by decide), v12, c3]
  have hG : AG (fun u => u ≠ Tg v 6 a ∧ u ≠ Tg v 12 a) h (wI (wA h (ad 12 a) j (sp a j + x)) 135 (ad 6 a) (si (sp a) 30 + x)) tg tg := AG_t (AG_wA (fun z => z.2 t12)) (AG_wI (fun z => z.1 o.1.2))
  refine hQ _ ⟨vLS_fr c.1 hG (by unfold Tg; omega), fun b hb => ?_⟩ hG
  by_cases e : b = a
  · subst e
    refine ⟨o, fun i hi => ?_, fun o ho => ?_, ?_, ?_⟩
    · simp only [rw_KI, rw_II, rw_RI, rw_LI, rw_AI, rw_JI, rw_OI, rw_KR, rw_IR, rw_RR, rw_LR, rw_AR, rw_JR, rw_OR, rw_KA, rw_IA, rw_RA, rw_LA, rw_AA, rw_JA, rw_OA, rw_KJ, rw_IJ, rw_RJ, rw_LJ, rw_AJ, rw_JJ, rw_OJ, rw_KO, rw_IO, rw_RO, rw_LO, rw_AO, rw_JO, rw_OO, rw_KAr, rw_IAr, rw_RAr, rw_LAr, rw_AAr, rw_JAr, rw_OAr, rw_KOr, rw_IOr, rw_ROr, rw_LOr, rw_AOr, rw_JOr, rw_OOr, rw_KN, rw_IN, rw_RN, rw_LN, rw_AN, rw_JN, rw_ON, rw_KY, rw_IY, rw_RY, rw_LY, rw_AY, rw_JY, rw_OY, n7, n8, n9, false_and, if_false]
      exact c1 i hi
    · simp only [rw_KI, rw_II, rw_RI, rw_LI, rw_AI, rw_JI, rw_OI, rw_KR, rw_IR, rw_RR, rw_LR, rw_AR, rw_JR, rw_OR, rw_KA, rw_IA, rw_RA, rw_LA, rw_AA, rw_JA, rw_OA, rw_KJ, rw_IJ, rw_RJ, rw_LJ, rw_AJ, rw_JJ, rw_OJ, rw_KO, rw_IO, rw_RO, rw_LO, rw_AO, rw_JO, rw_OO, rw_KAr, rw_IAr, rw_RAr, rw_LAr, rw_AAr, rw_JAr, rw_OAr, rw_KOr, rw_IOr, rw_ROr, rw_LOr, rw_AOr, rw_JOr, rw_OOr, rw_KN, rw_IN, rw_RN, rw_LN, rw_AN, rw_JN, rw_ON, rw_KY, rw_IY, rw_RY, rw_LY, rw_AY, rw_JY, rw_OY, true_and, u2]
      by_cases ei : o = j
      · rw [if_pos ei, if_pos ei]
      · rw [if_neg ei, if_neg ei]; exact c2 o ho
    · rw [wI_s]
      refine (si_up 30 hj (if_pos ⟨rfl, rfl⟩) (fun i _ hi => if_neg (fun z => hi z.2))).symm
    · rw [wI_ne (by decide)]; exact c4
  · obtain ⟨o', cc'⟩ := c.2 b hb
    refine ⟨cAo_fr o' hG (by unfold Tg; omega), ?_⟩
    have := cAc_fr o' cc' hG (by unfold Tg; omega) (by unfold Tg; omega) (by unfold Tg; omega) (by unfold Tg; omega) (by unfold Tg; omega)
    have ef : u2 sp a j (sp a j + x) b = sp b := by
      funext i
      unfold u2
      rw [if_neg (fun z => e z.1)]
    rw [ef]
    exact this
set_option maxRecDepth 100000 in
theorem k_einit {q : Nat} {a b c e f : Int32} (hk : zK h q = 4) (hQ : Q none (wI (wI (wI (wI (wI h 256 q a) 257 q b) 258 q c) 259 q e) 260 q f)) : jd_WM g (d + 2) 9 [.ref q, .int a, .int b, .int c, .int e, .int f] h Q := by
  refine ⟨Nat.le_of_ble_eq_true rfl, ?_⟩; show jd_w g (d + 1) 9 Q 0 [some (.ref q), some (.int a), some (.int b), some (.int c), some (.int e), some (.int f)] [] h 0 0
  simp only [e9_0, e9_1, e9_4, e9_5, e9_6, e9_9, e9_10, e9_11, e9_14, e9_15, e9_16, e9_19, e9_20, e9_22, e9_25, e9_26, e9_28, e9_31, o_iload, o_lload, o_aload, o_istore, o_lstore, o_astore, o_iinc, o_ipush, o_lpush, o_null, o_ibin, o_ineg, o_lbin, o_ldv, o_lneg, o_lcmp, o_i2l, o_l2i, o_dup, o_pop, o_dupx, o_dup2, o_ic, o_iz, o_nul, o_acmp, o_tsw, o_gI, o_gR, o_pI, o_pZ, o_pR, o_iald, o_bald, o_lald, o_aald, o_iast, o_bast, o_last, o_aast, o_alen, o_newa, o_new, o_mna, o_cast, o_calls, o_callv, o_calli, o_oinit, o_getC, o_refp, o_cpi, o_cpo, o_mmax, o_mmin, o_lmin, o_iret, o_zret, o_lret, o_aret, o_vret, jd_lo, jd_la, jd_nl, jd_pop, List.length_cons, List.length_nil, List.set_cons_zero, List.set_cons_succ, List.getElem?_cons_zero, List.getElem?_cons_succ, List.replicate_succ, List.replicate_zero, List.cons_append, List.nil_append, List.append_nil, Value.category, Option.toList, va_rf, true_implies, false_implies, false_and, and_false, and_true, true_and, and_self, true_or, or_true, false_or, or_false, not_true_eq_false, not_false_eq_true, forall_const, implies_true, if_true, if_false, reduceCtorEq, reduceIte, Nat.reduceAdd, Nat.reduceMul, Nat.reduceSub, Nat.reduceDiv, Nat.reduceMod, Nat.reduceEqDiff, Nat.reduceLeDiff, Nat.reduceLT, Nat.zero_le, Nat.lt_add_one, Nat.le_refl, Nat.sub_zero, Nat.zero_lt_succ, ge_iff_le, ji_m2, ji_m1, ji_0, ji_1, ji_2, ji_3, ji_4, ji_5, ji_6, ji_7, ji_8, ji_10, ji_12, ji_29, ji_30, ji_31, ji_40, ji_60, ji_70, ji_80, ji_81, ji_360, ji_512, ji_972, ji_1000000, ji_2147483639, jl_m1, jl_0, jl_1, rw_KI, rw_II, rw_RI, rw_LI, rw_AI, rw_JI, rw_OI, rw_KR, rw_IR, rw_RR, rw_LR, rw_AR, rw_JR, rw_OR, rw_KA, rw_IA, rw_RA, rw_LA, rw_AA, rw_JA, rw_OA, rw_KJ, rw_IJ, rw_RJ, rw_LJ, rw_AJ, rw_JJ, rw_OJ, rw_KO, rw_IO, rw_RO, rw_LO, rw_AO, rw_JO, rw_OO, rw_KAr, rw_IAr, rw_RAr, rw_LAr, rw_AAr, rw_JAr, rw_OAr, rw_KOr, rw_IOr, rw_ROr, rw_LOr, rw_AOr, rw_JOr, rw_OOr, rw_KN, rw_IN, rw_RN, rw_LN, rw_AN, rw_JN, rw_ON, rw_KY, rw_IY, rw_RY, rw_LY, rw_AY, rw_JY, rw_OY, hk]
  exact hQ
end
def evR (kd pl x ft op : Int32) (c : Nat) : Int32 := if c = 0 then kd else if c = 1 then pl else if c = 2 then x else if c = 3 then ft else op
section
variable {g d : Nat} {h : jd_H} {Q : jd_Q} {tg : Nat → Nat} {ad : Nat → Nat → Nat} {v len V : Nat} {F : Nat → Nat → Int32} {kd pl x ft : Int32}
set_option maxRecDepth 100000 in
theorem k_noteT (c : cVE h tg ad v len F) (kV : zK h V = 7) (r : zR h 450 V = some (ad 14 0)) (hl : len ≤ 511)
    (hQ : ∀ h2 tg2 ad2, (∀ k i, ¬ (k = 16 ∧ i = len) → ad2 k i = ad k i) → cVE h2 tg2 ad2 v (len + 1) (fun k c => if k = len then evR kd pl x ft (zI h 457 V) c else F k c) → AG (fun u => u ≠ Tg v 14 0) h h2 tg tg2 → ((kd = 3 ∨ kd = 4) → Q none h2) ∧ (¬ (kd = 3 ∨ kd = 4) → Q none (wI h2 457 V (-1)))) : jd_WM g (d + 8) 38 [.ref V, .int kd, .int pl, .int x, .int ft] h Q := by
  refine ⟨Nat.le_of_ble_eq_true rfl, ?_⟩; show jd_w g (d + 7) 38 Q 0 [some (.ref V), some (.int kd), some (.int pl), some (.int x), some (.int ft)] [] h 2 805
  simp only [e38_0, e38_1, e38_4, e38_7, e38_8, e38_9, e38_10, e38_11, e38_13, e38_14, e38_17, o_iload, o_lload, o_aload, o_istore, o_lstore, o_astore, o_iinc, o_ipush, o_lpush, o_null, o_ibin, o_ineg, o_lbin, o_ldv, o_lneg, o_lcmp, o_i2l, o_l2i, o_dup, o_pop, o_dupx, o_dup2, o_ic, o_iz, o_nul, o_acmp, o_tsw, o_gI, o_gR, o_pI, o_pZ, o_pR, o_iald, o_bald, o_lald, o_aald, o_iast, o_bast, o_last, o_aast, o_alen, o_newa, o_new, o_mna, o_cast, o_calls, o_callv, o_calli, o_oinit, o_getC, o_refp, o_cpi, o_cpo, o_mmax, o_mmin, o_lmin, o_iret, o_zret, o_lret, o_aret, o_vret, jd_lo, jd_la, jd_nl, jd_pop, List.length_cons, List.length_nil, List.set_cons_zero, List.set_cons_succ, List.getElem?_cons_zero, List.getElem?_cons_succ, List.replicate_succ, List.replicate_zero, List.cons_append, List.nil_append, List.append_nil, Value.category, Option.toList, va_rf, true_implies, false_implies, false_and, and_false, and_true, true_and, and_self, true_or, or_true, false_or, or_false, not_true_eq_false, not_false_eq_true, forall_const, implies_true, if_true, if_false, reduceCtorEq, reduceIte, Nat.reduceAdd, Nat.reduceMul, Nat.reduceSub, Nat.reduceDiv, Nat.reduceMod, Nat.reduceEqDiff, Nat.reduceLeDiff, Nat.reduceLT, Nat.zero_le, Nat.lt_add_one, Nat.le_refl, Nat.sub_zero, Nat.zero_lt_succ, ge_iff_le, ji_m2, ji_m1, ji_0, ji_1, ji_2, ji_3, ji_4, ji_5, ji_6, ji_7, ji_8, ji_10, ji_12, ji_29, ji_30, ji_31, ji_40, ji_60, ji_70, ji_80, ji_81, ji_360, ji_512, ji_972, ji_1000000, ji_2147483639, jl_m1, jl_0, jl_1, rw_KI, rw_II, rw_RI, rw_LI, rw_AI, rw_JI, rw_OI, rw_KR, rw_IR, rw_RR, rw_LR, rw_AR, rw_JR, rw_OR, rw_KA, rw_IA, rw_RA, rw_LA, rw_AA, rw_JA, rw_OA, rw_KJ, rw_IJ, rw_RJ, rw_LJ, rw_AJ, rw_JJ, rw_OJ, rw_KO, rw_IO, rw_RO, rw_LO, rw_AO, rw_JO, rw_OO, rw_KAr, rw_IAr, rw_RAr, rw_LAr, rw_AAr, rw_JAr, rw_OAr, rw_KOr, rw_IOr, rw_ROr, rw_LOr, rw_AOr, rw_JOr, rw_OOr, rw_KN, rw_IN, rw_RN, rw_LN, rw_AN, rw_JN, rw_ON, rw_KY, rw_IY, rw_RY, rw_LY, rw_AY, rw_JY, rw_OY, kV, r]
  intro q hq
  have hVq : ¬ V = q := fun z => by rw [z, hq] at kV; exact absurd kV (by decide)
  simp only [if_neg hVq, true_and]
  refine k_einit (d := d + 5) (by rw [rw_KN, if_pos rfl]) ?_
  generalize h1e : wI (wI (wI (wI (wI (wN h q 4) 256 q kd) 257 q pl) 258 q x) 259 q ft) 260 q (zI h 457 V) = h1
  have kq : zK h1 q = 4 := by
    rw [← h1e]
    show zK (wN h q 4) q = 4
    rw [rw_KN, if_pos rfl]
  have iq : ∀ i, i < 5 → zI h1 (256 + i) q = evR kd pl x ft (zI h 457 V) i := fun i hi => by
    rw [← h1e]
    have hi' : i = 0 ∨ i = 1 ∨ i = 2 ∨ i = 3 ∨ i = 4 := by omega
    rcases hi' with rfl | rfl | rfl | rfl | rfl
    · show zI _ 256 q = kd
      rw [wI_ne (by decide), wI_ne (by decide), wI_ne (by decide), wI_ne (by decide), wI_s]
    · show zI _ 257 q = pl
      rw [wI_ne (by decide), wI_ne (by decide), wI_ne (by decide), wI_s]
    · show zI _ 258 q = x
      rw [wI_ne (by decide), wI_ne (by decide), wI_s]
    · show zI _ 259 q = ft
      rw [wI_ne (by decide), wI_s]
    · show zI _ 260 q = zI h 457 V
      rw [wI_s]
  have hG1 : ∀ P : Nat → Prop, AG P h h1 tg (u1 tg q (Tg v 16 len)) := fun P => AG_new hq (fun a ha => by
    have wn : ∀ (h : jd_H) (f : Nat) (x : Int32) (p : Nat), zI (wI h f q x) p a = zI h p a := fun h f x p => by rw [rw_II, if_neg (fun z => ha z.2)]
    rw [← h1e]
    refine ⟨⟨?_, rfl, if_neg ha⟩, fun f => ?_, fun f => ?_, rfl, rfl, rfl⟩
    · show zK (wN h q 4) a = _
      rw [rw_KN, if_neg ha]
    · rw [wn, wn, wn, wn, wn, rw_IN, if_neg ha]
    · show zR (wN h q 4) f a = _
      rw [rw_RN, if_neg ha])
  have c1 := cVE_fr c (hG1 (fun _ => True)) trivial (fun _ _ => trivial)
  have kV1 : zK h1 V = 7 := AG_K (hG1 (fun _ => True)) kV (by decide)
  have kl : zK h1 (ad 14 0) = 1 := vLS_K c1.1
  simp only [e38_20, o_iload, o_lload, o_aload, o_istore, o_lstore, o_astore, o_iinc, o_ipush, o_lpush, o_null, o_ibin, o_ineg, o_lbin, o_ldv, o_lneg, o_lcmp, o_i2l, o_l2i, o_dup, o_pop, o_dupx, o_dup2, o_ic, o_iz, o_nul, o_acmp, o_tsw, o_gI, o_gR, o_pI, o_pZ, o_pR, o_iald, o_bald, o_lald, o_aald, o_iast, o_bast, o_last, o_aast, o_alen, o_newa, o_new, o_mna, o_cast, o_calls, o_callv, o_calli, o_oinit, o_getC, o_refp, o_cpi, o_cpo, o_mmax, o_mmin, o_lmin, o_iret, o_zret, o_lret, o_aret, o_vret, jd_lo, jd_la, jd_nl, jd_pop, List.length_cons, List.length_nil, List.set_cons_zero, List.set_cons_succ, List.getElem?_cons_zero, List.getElem?_cons_succ, List.replicate_succ, List.replicate_zero, List.cons_append, List.nil_append, List.append_nil, Value.category, Option.toList, va_rf, true_implies, false_implies, false_and, and_false, and_true, true_and, and_self, true_or, or_true, false_or, or_false, not_true_eq_false, not_false_eq_true, forall_const, implies_true, if_true, if_false, reduceCtorEq, reduceIte, Nat.reduceAdd, Nat.reduceMul, Nat.reduceSub, Nat.reduceDiv, Nat.reduceMod, Nat.reduceEqDiff, Nat.reduceLeDiff, Nat.reduceLT, Nat.zero_le, Nat.lt_add_one, Nat.le_refl, Nat.sub_zero, Nat.zero_lt_succ, ge_iff_le, ji_m2, ji_m1, ji_0, ji_1, ji_2, ji_3, ji_4, ji_5, ji_6, ji_7, ji_8, ji_10, ji_12, ji_29, ji_30, ji_31, ji_40, ji_60, ji_70, ji_80, ji_81, ji_360, ji_512, ji_972, ji_1000000, ji_2147483639, jl_m1, jl_0, jl_1, kl]
  refine k_ladd (d := d) c1.1 hl (by rw [kq]; decide) (by rw [kq]; decide) (fun i hi => by rw [(c1.2 i hi).1.1]; decide) (fun h2 tg2 hL2 hG2 => ?_)
  have kV2 : zK h2 V = 7 := AG_K hG2 kV1 (by decide)
  have hQ2 := hQ h2 tg2 (fun k i => if k = 16 ∧ i = len then q else ad k i) (fun k i hk => if_neg hk) ⟨?_, fun k hk => ?_⟩ (AG_t (hG1 _) hG2)
  · simp only [e38_25, e38_26, e38_27, e38_28, e38_31, e38_32, e38_33, e38_36, e38_37, e38_38, e38_41, o_iload, o_lload, o_aload, o_istore, o_lstore, o_astore, o_iinc, o_ipush, o_lpush, o_null, o_ibin, o_ineg, o_lbin, o_ldv, o_lneg, o_lcmp, o_i2l, o_l2i, o_dup, o_pop, o_dupx, o_dup2, o_ic, o_iz, o_nul, o_acmp, o_tsw, o_gI, o_gR, o_pI, o_pZ, o_pR, o_iald, o_bald, o_lald, o_aald, o_iast, o_bast, o_last, o_aast, o_alen, o_newa, o_new, o_mna, o_cast, o_calls, o_callv, o_calli, o_oinit, o_getC, o_refp, o_cpi, o_cpo, o_mmax, o_mmin, o_lmin, o_iret, o_zret, o_lret, o_aret, o_vret, jd_lo, jd_la, jd_nl, jd_pop, List.length_cons, List.length_nil, List.set_cons_zero, List.set_cons_succ, List.getElem?_cons_zero, List.getElem?_cons_succ, List.replicate_succ, List.replicate_zero, List.cons_append, List.nil_append, List.append_nil, Value.category, Option.toList, va_rf, true_implies, false_implies, false_and, and_false, and_true, true_and, and_self, true_or, or_true, false_or, or_false, not_true_eq_false, not_false_eq_true, forall_const, implies_true, if_true, if_false, reduceCtorEq, reduceIte, Nat.reduceAdd, Nat.reduceMul, Nat.reduceSub, Nat.reduceDiv, Nat.reduceMod, Nat.reduceEqDiff, Nat.reduceLeDiff, Nat.reduceLT, Nat.zero_le, Nat.lt_add_one, Nat.le_refl, Nat.sub_zero, Nat.zero_lt_succ, ge_iff_le, ji_m2, ji_m1, ji_0, ji_1, ji_2, ji_3, ji_4, ji_5, ji_6, ji_7, ji_8, ji_10, ji_12, ji_29, ji_30, ji_31, ji_40, ji_60, ji_70, ji_80, ji_81, ji_360, ji_512, ji_972, ji_1000000, ji_2147483639, jl_m1, jl_0, jl_1, rw_KI, rw_II, rw_RI, rw_LI, rw_AI, rw_JI, rw_OI, rw_KR, rw_IR, rw_RR, rw_LR, rw_AR, rw_JR, rw_OR, rw_KA, rw_IA, rw_RA, rw_LA, rw_AA, rw_JA, rw_OA, rw_KJ, rw_IJ, rw_RJ, rw_LJ, rw_AJ, rw_JJ, rw_OJ, rw_KO, rw_IO, rw_RO, rw_LO, rw_AO, rw_JO, rw_OO, rw_KAr, rw_IAr, rw_RAr, rw_LAr, rw_AAr, rw_JAr, rw_OAr, rw_KOr, rw_IOr, rw_ROr, rw_LOr, rw_AOr, rw_JOr, rw_OOr, rw_KN, rw_IN, rw_RN, rw_LN, rw_AN, rw_JN, rw_ON, rw_KY, rw_IY, rw_RY, rw_LY, rw_AY, rw_JY, rw_OY, kV2]
    refine ⟨fun z => hQ2.1 (Or.inl z), fun z => ⟨fun y => hQ2.1 (Or.inr y), fun y => hQ2.2 (fun w => w.elim z y)⟩⟩
  · dsimp only
    rw [if_neg (fun z => absurd z.1 (by decide))]
    refine vLS_cg hL2 (fun i hi => ?_)
    unfold u1
    by_cases e : i = len
    · rw [if_pos e, if_pos ⟨rfl, e⟩]
    · rw [if_neg e, if_neg (fun z => e z.2)]
  · by_cases e : k = len
    · subst e
      have q0 : zK h1 q ≠ 0 := by rw [kq]; decide
      have tq : u1 tg q (Tg v 16 k) q = Tg v 16 k := if_pos rfl
      have hp : u1 tg q (Tg v 16 k) q ≠ Tg v 14 0 := by rw [tq]; unfold Tg; omega
      dsimp only
      rw [if_pos ⟨rfl, rfl⟩]
      refine ⟨⟨AG_K hG2 kq (by decide), (AG_g hG2 q0).trans tq⟩, fun i hi => ?_⟩
      rw [if_pos rfl, AG_I hG2 q0 hp]
      exact iq i hi
    · obtain ⟨⟨k1, k2⟩, k3⟩ := c1.2 k (by omega)
      have q0 : zK h1 (ad 16 k) ≠ 0 := by rw [k1]; decide
      dsimp only
      rw [if_neg (fun z => e z.2)]
      refine ⟨⟨AG_K hG2 k1 (by decide), (AG_g hG2 q0).trans k2⟩, fun i hi => ?_⟩
      rw [if_neg e, AG_I hG2 q0 (by rw [k2]; unfold Tg; omega)]
      exact k3 i hi
set_option maxRecDepth 100000 in
theorem k_note (c : cVE h tg ad v len F) (kV : zK h V = 7) (r : zR h 450 V = some (ad 14 0)) (hl : len ≤ 511) (hk : ¬ (kd = 3 ∨ kd = 4))
    (hQ : ∀ h2 tg2 ad2, (∀ k i, ¬ (k = 16 ∧ i = len) → ad2 k i = ad k i) → cVE h2 tg2 ad2 v (len + 1) (fun k c => if k = len then evR kd (-1) 0 0 (zI h 457 V) c else F k c) → AG (fun u => u ≠ Tg v 14 0) h h2 tg tg2 → Q none (wI h2 457 V (-1))) : jd_WM g (d + 9) 37 [.ref V, .int kd] h Q := by
  refine ⟨Nat.le_of_ble_eq_true rfl, ?_⟩; show jd_w g (d + 8) 37 Q 0 [some (.ref V), some (.int kd)] [] h 2 805
  simp only [e37_0, e37_1, e37_2, e37_3, e37_4, e37_5, o_iload, o_lload, o_aload, o_istore, o_lstore, o_astore, o_iinc, o_ipush, o_lpush, o_null, o_ibin, o_ineg, o_lbin, o_ldv, o_lneg, o_lcmp, o_i2l, o_l2i, o_dup, o_pop, o_dupx, o_dup2, o_ic, o_iz, o_nul, o_acmp, o_tsw, o_gI, o_gR, o_pI, o_pZ, o_pR, o_iald, o_bald, o_lald, o_aald, o_iast, o_bast, o_last, o_aast, o_alen, o_newa, o_new, o_mna, o_cast, o_calls, o_callv, o_calli, o_oinit, o_getC, o_refp, o_cpi, o_cpo, o_mmax, o_mmin, o_lmin, o_iret, o_zret, o_lret, o_aret, o_vret, jd_lo, jd_la, jd_nl, jd_pop, List.length_cons, List.length_nil, List.set_cons_zero, List.set_cons_succ, List.getElem?_cons_zero, List.getElem?_cons_succ, List.replicate_succ, List.replicate_zero, List.cons_append, List.nil_append, List.append_nil, Value.category, Option.toList, va_rf, true_implies, false_implies, false_and, and_false, and_true, true_and, and_self, true_or, or_true, false_or, or_false, not_true_eq_false, not_false_eq_true, forall_const, implies_true, if_true, if_false, reduceCtorEq, reduceIte, Nat.reduceAdd, Nat.reduceMul, Nat.reduceSub, Nat.reduceDiv, Nat.reduceMod, Nat.reduceEqDiff, Nat.reduceLeDiff, Nat.reduceLT, Nat.zero_le, Nat.lt_add_one, Nat.le_refl, Nat.sub_zero, Nat.zero_lt_succ, ge_iff_le, ji_m2, ji_m1, ji_0, ji_1, ji_2, ji_3, ji_4, ji_5, ji_6, ji_7, ji_8, ji_10, ji_12, ji_29, ji_30, ji_31, ji_40, ji_60, ji_70, ji_80, ji_81, ji_360, ji_512, ji_972, ji_1000000, ji_2147483639, jl_m1, jl_0, jl_1, kV]
  refine k_noteT (d := d) c kV r hl (fun h2 tg2 ad2 h3 h4 h5 => ⟨fun z => absurd z hk, fun _ => ?_⟩)
  simp only [e37_8, o_iload, o_lload, o_aload, o_istore, o_lstore, o_astore, o_iinc, o_ipush, o_lpush, o_null, o_ibin, o_ineg, o_lbin, o_ldv, o_lneg, o_lcmp, o_i2l, o_l2i, o_dup, o_pop, o_dupx, o_dup2, o_ic, o_iz, o_nul, o_acmp, o_tsw, o_gI, o_gR, o_pI, o_pZ, o_pR, o_iald, o_bald, o_lald, o_aald, o_iast, o_bast, o_last, o_aast, o_alen, o_newa, o_new, o_mna, o_cast, o_calls, o_callv, o_calli, o_oinit, o_getC, o_refp, o_cpi, o_cpo, o_mmax, o_mmin, o_lmin, o_iret, o_zret, o_lret, o_aret, o_vret, jd_lo, jd_la, jd_nl, jd_pop, List.length_cons, List.length_nil, List.set_cons_zero, List.set_cons_succ, List.getElem?_cons_zero, List.getElem?_cons_succ, List.replicate_succ, List.replicate_zero, List.cons_append, List.nil_append, List.append_nil, Value.category, Option.toList, va_rf, true_implies, false_implies, false_and, and_false, and_true, true_and, and_self, true_or, or_true, false_or, or_false, not_true_eq_false, not_false_eq_true, forall_const, implies_true, if_true, if_false, reduceCtorEq, reduceIte, Nat.reduceAdd, Nat.reduceMul, Nat.reduceSub, Nat.reduceDiv, Nat.reduceMod, Nat.reduceEqDiff, Nat.reduceLeDiff, Nat.reduceLT, Nat.zero_le, Nat.lt_add_one, Nat.le_refl, Nat.sub_zero, Nat.zero_lt_succ, ge_iff_le, ji_m2, ji_m1, ji_0, ji_1, ji_2, ji_3, ji_4, ji_5, ji_6, ji_7, ji_8, ji_10, ji_12, ji_29, ji_30, ji_31, ji_40, ji_60, ji_70, ji_80, ji_81, ji_360, ji_512, ji_972, ji_1000000, ji_2147483639, jl_m1, jl_0, jl_1]
  exact hQ h2 tg2 ad2 h3 h4 h5
end
