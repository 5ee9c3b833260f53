/-! the class: payments -/
section
variable {g d : Nat} {h : jd_H} {Q : jd_Q} {tg aj : Nat → Nat} {ad : Nat → Nat → Nat} {v n lo na p q a : Nat} {pp : Int32} {s : VS} {B C : Nat → Int}
set_option maxRecDepth 100000 in
theorem l_least (c : cVS h tg ad v) (hC : ∀ o, o < 30 → zA h (ad 22 0) o = Int32.ofInt (C o) ∧ -984000000 ≤ C o ∧ C o ≤ 984000000) (hQ : Q (some (.int (nI (pLo C)))) h) :
    ∀ (k j : Nat), j + k + 1 = 30 → jd_w g d 18 Q 4 [some (.ref (ad 17 0)), some (.int (nI (pm (fun o => - C o) j))), some (.int (nI (j + 1)))] [] h 0 0 := by
  have kk := c.2.2 22 (by decide) (by decide)
  intro k
  induction k with
  | zero =>
    intro j hj
    have e1 : j = 29 := by omega
    subst e1
    rw [e18_4]
    simp only [e18_5, e18_7, e18_33, e18_34, o_iload, o_lload, o_aload, o_istore, o_lstore, o_astore, o_iinc, o_ipush, o_lpush, o_null, o_ibin, o_ineg, o_lbin, o_ldv, o_lneg, o_lcmp, o_i2l, o_l2i, o_dup, o_pop, o_dupx, o_dup2, o_ic, o_iz, o_nul, o_acmp, o_tsw, o_gI, o_gR, o_pI, o_pZ, o_pR, o_iald, o_bald, o_lald, o_aald, o_iast, o_bast, o_last, o_aast, o_alen, o_newa, o_new, o_mna, o_cast, o_calls, o_callv, o_calli, o_oinit, o_getC, o_refp, o_cpi, o_cpo, o_mmax, o_mmin, o_lmin, o_iret, o_zret, o_lret, o_aret, o_vret, jd_lo, jd_la, jd_nl, jd_pop, List.length_cons, List.length_nil, List.set_cons_zero, List.set_cons_succ, List.getElem?_cons_zero, List.getElem?_cons_succ, List.replicate_succ, List.replicate_zero, List.cons_append, List.nil_append, List.append_nil, Value.category, Option.toList, va_rf, true_implies, false_implies, false_and, and_false, and_true, true_and, and_self, true_or, or_true, false_or, or_false, not_true_eq_false, not_false_eq_true, forall_const, implies_true, if_true, if_false, reduceCtorEq, reduceIte, Nat.reduceAdd, Nat.reduceMul, Nat.reduceSub, Nat.reduceDiv, Nat.reduceMod, Nat.reduceEqDiff, Nat.reduceLeDiff, Nat.reduceLT, Nat.zero_le, Nat.lt_add_one, Nat.le_refl, Nat.sub_zero, Nat.zero_lt_succ, ge_iff_le, ji_m2, ji_m1, ji_0, ji_1, ji_2, ji_3, ji_4, ji_5, ji_6, ji_7, ji_8, ji_10, ji_12, ji_29, ji_30, ji_31, ji_40, ji_60, ji_70, ji_80, ji_81, ji_360, ji_512, ji_972, ji_1000000, ji_2147483639, jl_m1, jl_0, jl_1, j30]
    exact ⟨fun _ => hQ, fun z => absurd (Int32.le_refl _) z⟩
  | succ k ih =>
    intro j hj
    have p1 : pm (fun o => - C o) j < 30 := by have := pm_le (fun o => - C o) j; omega
    have ij : j + 1 < 30 := by omega
    have hnle : ¬ nI 30 ≤ nI (j + 1) := nI_ge (by omega) (by decide)
    have c0 := hC (j + 1) ij
    have c1 := hC _ p1
    rw [e18_4]
    simp only [e18_5, e18_7, e18_10, e18_11, e18_14, e18_15, e18_16, e18_17, e18_20, e18_21, e18_22, e18_25, e18_26, e18_27, e18_30, o_iload, o_lload, o_aload, o_istore, o_lstore, o_astore, o_iinc, o_ipush, o_lpush, o_null, o_ibin, o_ineg, o_lbin, o_ldv, o_lneg, o_lcmp, o_i2l, o_l2i, o_dup, o_pop, o_dupx, o_dup2, o_ic, o_iz, o_nul, o_acmp, o_tsw, o_gI, o_gR, o_pI, o_pZ, o_pR, o_iald, o_bald, o_lald, o_aald, o_iast, o_bast, o_last, o_aast, o_alen, o_newa, o_new, o_mna, o_cast, o_calls, o_callv, o_calli, o_oinit, o_getC, o_refp, o_cpi, o_cpo, o_mmax, o_mmin, o_lmin, o_iret, o_zret, o_lret, o_aret, o_vret, jd_lo, jd_la, jd_nl, jd_pop, List.length_cons, List.length_nil, List.set_cons_zero, List.set_cons_succ, List.getElem?_cons_zero, List.getElem?_cons_succ, List.replicate_succ, List.replicate_zero, List.cons_append, List.nil_append, List.append_nil, Value.category, Option.toList, va_rf, true_implies, false_implies, false_and, and_false, and_true, true_and, and_self, true_or, or_true, false_or, or_false, not_true_eq_false, not_false_eq_true, forall_const, implies_true, if_true, if_false, reduceCtorEq, reduceIte, Nat.reduceAdd, Nat.reduceMul, Nat.reduceSub, Nat.reduceDiv, Nat.reduceMod, Nat.reduceEqDiff, Nat.reduceLeDiff, Nat.reduceLT, Nat.zero_le, Nat.lt_add_one, Nat.le_refl, Nat.sub_zero, Nat.zero_lt_succ, ge_iff_le, ji_m2, ji_m1, ji_0, ji_1, ji_2, ji_3, ji_4, ji_5, ji_6, ji_7, ji_8, ji_10, ji_12, ji_29, ji_30, ji_31, ji_40, ji_60, ji_70, ji_80, ji_81, ji_360, ji_512, ji_972, ji_1000000, ji_2147483639, jl_m1, jl_0, jl_1, c.1.1, c.2.1.2.2.2.2, kk.1, kk.2.1, j30, hnle, jn_in ij (by decide), jn_cl ij (by decide), jn_in p1 (by decide), jn_cl p1 (by decide), c0.1, c1.1, jI_le c1.2 c0.2, jn_sc]
    have hi := ih (j + 1) (by omega)
    have e1 : pm (fun o => - C o) (j + 1) = if C (j + 1) < C (pm (fun o => - C o) j) then j + 1 else pm (fun o => - C o) j := by
      show (if - C (pm (fun o => - C o) j) < - C (j + 1) then j + 1 else pm (fun o => - C o) j) = _
      by_cases hc : C (j + 1) < C (pm (fun o => - C o) j)
      · rw [if_pos hc, if_pos (by omega)]
      · rw [if_neg hc, if_neg (by omega)]
    rw [e1] at hi
    refine ⟨fun z => ?_, fun z => ?_⟩
    · rw [if_neg (by omega)] at hi; exact hi
    · rw [if_pos (by omega)] at hi; exact hi
set_option maxRecDepth 100000 in
theorem l_great (c : cVS h tg ad v) (hC : ∀ o, o < 30 → zA h (ad 22 0) o = Int32.ofInt (C o) ∧ -984000000 ≤ C o ∧ C o ≤ 984000000) (hQ : Q (some (.int (nI (pHi C)))) h) :
    ∀ (k j : Nat), j + k + 1 = 30 → jd_w g d 19 Q 4 [some (.ref (ad 17 0)), some (.int (nI (pm C j))), some (.int (nI (j + 1)))] [] h 0 0 := by
  have kk := c.2.2 22 (by decide) (by decide)
  intro k
  induction k with
  | zero =>
    intro j hj
    have e1 : j = 29 := by omega
    subst e1
    rw [e19_4]
    simp only [e19_5, e19_7, e19_33, e19_34, o_iload, o_lload, o_aload, o_istore, o_lstore, o_astore, o_iinc, o_ipush, o_lpush, o_null, o_ibin, o_ineg, o_lbin, o_ldv, o_lneg, o_lcmp, o_i2l, o_l2i, o_dup, o_pop, o_dupx, o_dup2, o_ic, o_iz, o_nul, o_acmp, o_tsw, o_gI, o_gR, o_pI, o_pZ, o_pR, o_iald, o_bald, o_lald, o_aald, o_iast, o_bast, o_last, o_aast, o_alen, o_newa, o_new, o_mna, o_cast, o_calls, o_callv, o_calli, o_oinit, o_getC, o_refp, o_cpi, o_cpo, o_mmax, o_mmin, o_lmin, o_iret, o_zret, o_lret, o_aret, o_vret, jd_lo, jd_la, jd_nl, jd_pop, List.length_cons, List.length_nil, List.set_cons_zero, List.set_cons_succ, List.getElem?_cons_zero, List.getElem?_cons_succ, List.replicate_succ, List.replicate_zero, List.cons_append, List.nil_append, List.append_nil, Value.category, Option.toList, va_rf, true_implies, false_implies, false_and, and_false, and_true, true_and, and_self, true_or, or_true, false_or, or_false, not_true_eq_false, not_false_eq_true, forall_const, implies_true, if_true, if_false, reduceCtorEq, reduceIte, Nat.reduceAdd, Nat.reduceMul, Nat.reduceSub, Nat.reduceDiv, Nat.reduceMod, Nat.reduceEqDiff, Nat.reduceLeDiff, Nat.reduceLT, Nat.zero_le, Nat.lt_add_one, Nat.le_refl, Nat.sub_zero, Nat.zero_lt_succ, ge_iff_le, ji_m2, ji_m1, ji_0, ji_1, ji_2, ji_3, ji_4, ji_5, ji_6, ji_7, ji_8, ji_10, ji_12, ji_29, ji_30, ji_31, ji_40, ji_60, ji_70, ji_80, ji_81, ji_360, ji_512, ji_972, ji_1000000, ji_2147483639, jl_m1, jl_0, jl_1, j30]
    exact ⟨fun _ => hQ, fun z => absurd (Int32.le_refl _) z⟩
  | succ k ih =>
    intro j hj
    have p1 : pm C j < 30 := by have := pm_le C j; omega
    have ij : j + 1 < 30 := by omega
    have hnle : ¬ nI 30 ≤ nI (j + 1) := nI_ge (by omega) (by decide)
    have c0 := hC (j + 1) ij
    have c1 := hC _ p1
    rw [e19_4]
    simp only [e19_5, e19_7, e19_10, e19_11, e19_14, e19_15, e19_16, e19_17, e19_20, e19_21, e19_22, e19_25, e19_26, e19_27, e19_30, o_iload, o_lload, o_aload, o_istore, o_lstore, o_astore, o_iinc, o_ipush, o_lpush, o_null, o_ibin, o_ineg, o_lbin, o_ldv, o_lneg, o_lcmp, o_i2l, o_l2i, o_dup, o_pop, o_dupx, o_dup2, o_ic, o_iz, o_nul, o_acmp, o_tsw, o_gI, o_gR, o_pI, o_pZ, o_pR, o_iald, o_bald, o_lald, o_aald, o_iast, o_bast, o_last, o_aast, o_alen, o_newa, o_new, o_mna, o_cast, o_calls, o_callv, o_calli, o_oinit, o_getC, o_refp, o_cpi, o_cpo, o_mmax, o_mmin, o_lmin, o_iret, o_zret, o_lret, o_aret, o_vret, jd_lo, jd_la, jd_nl, jd_pop, List.length_cons, List.length_nil, List.set_cons_zero, List.set_cons_succ, List.getElem?_cons_zero, List.getElem?_cons_succ, List.replicate_succ, List.replicate_zero, List.cons_append, List.nil_append, List.append_nil, Value.category, Option.toList, va_rf, true_implies, false_implies, false_and, and_false, and_true, true_and, and_self, true_or, or_true, false_or, or_false, not_true_eq_false, not_false_eq_true, forall_const, implies_true, if_true, if_false, reduceCtorEq, reduceIte, Nat.reduceAdd, Nat.reduceMul, Nat.reduceSub, Nat.reduceDiv, Nat.reduceMod, Nat.reduceEqDiff, Nat.reduceLeDiff, Nat.reduceLT, Nat.zero_le, Nat.lt_add_one, Nat.le_refl, Nat.sub_zero, Nat.zero_lt_succ, ge_iff_le, ji_m2, ji_m1, ji_0, ji_1, ji_2, ji_3, ji_4, ji_5, ji_6, ji_7, ji_8, ji_10, ji_12, ji_29, ji_30, ji_31, ji_40, ji_60, ji_70, ji_80, ji_81, ji_360, ji_512, ji_972, ji_1000000, ji_2147483639, jl_m1, jl_0, jl_1, c.1.1, c.2.1.2.2.2.2, kk.1, kk.2.1, j30, hnle, jn_in ij (by decide), jn_cl ij (by decide), jn_in p1 (by decide), jn_cl p1 (by decide), c0.1, c1.1, jI_le c0.2 c1.2, jn_sc]
    have hi := ih (j + 1) (by omega)
    have e1 : pm C (j + 1) = if C (pm C j) < C (j + 1) then j + 1 else pm C j := rfl
    rw [e1] at hi
    refine ⟨fun z => ?_, fun z => ?_⟩
    · rw [if_neg (by omega)] at hi; exact hi
    · rw [if_pos (by omega)] at hi; exact hi
set_option maxRecDepth 100000 in
theorem k_least (c : cVS h tg ad v) (hC : ∀ o, o < 30 → zA h (ad 22 0) o = Int32.ofInt (C o) ∧ -984000000 ≤ C o ∧ C o ≤ 984000000) (hQ : Q (some (.int (nI (pLo C)))) h) : jd_WM g (d + 1) 18 [.ref (ad 17 0)] h Q := by
  refine ⟨Nat.le_of_ble_eq_true rfl, ?_⟩; show jd_w g d 18 Q 0 [some (.ref (ad 17 0)), none, none] [] h 0 0
  simp only [e18_0, e18_1, e18_2, e18_3, o_iload, o_lload, o_aload, o_istore, o_lstore, o_astore, o_iinc, o_ipush, o_lpush, o_null, o_ibin, o_ineg, o_lbin, o_ldv, o_lneg, o_lcmp, o_i2l, o_l2i, o_dup, o_pop, o_dupx, o_dup2, o_ic, o_iz, o_nul, o_acmp, o_tsw, o_gI, o_gR, o_pI, o_pZ, o_pR, o_iald, o_bald, o_lald, o_aald, o_iast, o_bast, o_last, o_aast, o_alen, o_newa, o_new, o_mna, o_cast, o_calls, o_callv, o_calli, o_oinit, o_getC, o_refp, o_cpi, o_cpo, o_mmax, o_mmin, o_lmin, o_iret, o_zret, o_lret, o_aret, o_vret, jd_lo, jd_la, jd_nl, jd_pop, List.length_cons, List.length_nil, List.set_cons_zero, List.set_cons_succ, List.getElem?_cons_zero, List.getElem?_cons_succ, List.replicate_succ, List.replicate_zero, List.cons_append, List.nil_append, List.append_nil, Value.category, Option.toList, va_rf, true_implies, false_implies, false_and, and_false, and_true, true_and, and_self, true_or, or_true, false_or, or_false, not_true_eq_false, not_false_eq_true, forall_const, implies_true, if_true, if_false, reduceCtorEq, reduceIte, Nat.reduceAdd, Nat.reduceMul, Nat.reduceSub, Nat.reduceDiv, Nat.reduceMod, Nat.reduceEqDiff, Nat.reduceLeDiff, Nat.reduceLT, Nat.zero_le, Nat.lt_add_one, Nat.le_refl, Nat.sub_zero, Nat.zero_lt_succ, ge_iff_le, ji_m2, ji_m1, ji_0, ji_1, ji_2, ji_3, ji_4, ji_5, ji_6, ji_7, ji_8, ji_10, ji_12, ji_29, ji_30, ji_31, ji_40, ji_60, ji_70, ji_80, ji_81, ji_360, ji_512, ji_972, ji_1000000, ji_2147483639, jl_m1, jl_0, jl_1]
  exact l_least c hC hQ 29 0 (by omega)
set_option maxRecDepth 100000 in
theorem k_great (c : cVS h tg ad v) (hC : ∀ o, o < 30 → zA h (ad 22 0) o = Int32.ofInt (C o) ∧ -984000000 ≤ C o ∧ C o ≤ 984000000) (hQ : Q (some (.int (nI (pHi C)))) h) : jd_WM g (d + 1) 19 [.ref (ad 17 0)] h Q := by
  refine ⟨Nat.le_of_ble_eq_true rfl, ?_⟩; show jd_w g d 19 Q 0 [some (.ref (ad 17 0)), none, none] [] h 0 0
  simp only [e19_0, e19_1, e19_2, e19_3, o_iload, o_lload, o_aload, o_istore, o_lstore, o_astore, o_iinc, o_ipush, o_lpush, o_null, o_ibin, o_ineg, o_lbin, o_ldv, o_lneg, o_lcmp, o_i2l, o_l2i, o_dup, o_pop, o_dupx, o_dup2, o_ic, o_iz, o_nul, o_acmp, o_tsw, o_gI, o_gR, o_pI, o_pZ, o_pR, o_iald, o_bald, o_lald, o_aald, o_iast, o_bast, o_last, o_aast, o_alen, o_newa, o_new, o_mna, o_cast, o_calls, o_callv, o_calli, o_oinit, o_getC, o_refp, o_cpi, o_cpo, o_mmax, o_mmin, o_lmin, o_iret, o_zret, o_lret, o_aret, o_vret, jd_lo, jd_la, jd_nl, jd_pop, List.length_cons, List.length_nil, List.set_cons_zero, List.set_cons_succ, List.getElem?_cons_zero, List.getElem?_cons_succ, List.replicate_succ, List.replicate_zero, List.cons_append, List.nil_append, List.append_nil, Value.category, Option.toList, va_rf, true_implies, false_implies, false_and, and_false, and_true, true_and, and_self, true_or, or_true, false_or, or_false, not_true_eq_false, not_false_eq_true, forall_const, implies_true, if_true, if_false, reduceCtorEq, reduceIte, Nat.reduceAdd, Nat.reduceMul, Nat.reduceSub, Nat.reduceDiv, Nat.reduceMod, Nat.reduceEqDiff, Nat.reduceLeDiff, Nat.reduceLT, Nat.zero_le, Nat.lt_add_one, Nat.le_refl, Nat.sub_zero, Nat.zero_lt_succ, ge_iff_le, ji_m2, ji_m1, ji_0, ji_1, ji_2, ji_3, ji_4, ji_5, ji_6, ji_7, ji_8, ji_10, ji_12, ji_29, ji_30, ji_31, ji_40, ji_60, ji_70, ji_80, ji_81, ji_360, ji_512, ji_972, ji_1000000, ji_2147483639, jl_m1, jl_0, jl_1]
  exact l_great c hC hQ 29 0 (by omega)
/-- k payments stand in the settlement -/
def PZ (h : jd_H) (ad : Nat → Nat → Nat) (B : Nat → Int) (k : Nat) : Prop := zI h 388 (ad 17 0) = nI k ∧ ∀ j, j < k → zA h (ad 19 0) j = nI (pLo (pB B j)) ∧ zA h (ad 20 0) j = nI (pHi (pB B j)) ∧ zA h (ad 21 0) j = Int32.ofInt (pAm (pB B j))
set_option maxRecDepth 100000 in
theorem l_cp (c : cVS h tg ad v) (hQ : ∀ h2, SF ad h h2 → zA h2 (ad 18 0) = zA h (ad 18 0) → PZ h2 ad B (pN B 30) → Q none h2) :
    ∀ (f k : Nat) (h1 : jd_H) (x1 x2 x3 : Option Value), k + f = 30 → PI B 984000000 k → SF ad h h1 → zA h1 (ad 18 0) = zA h (ad 18 0) → PZ h1 ad B k → (∀ o, o < 30 → zA h1 (ad 22 0) o = Int32.ofInt (pB B k o)) → jd_w g (d + 1) 17 Q 20 [some (.ref (ad 17 0)), x1, x2, x3] [] h1 0 0 := by
  intro f
  induction f with
  | zero =>
    intro k h1 x1 x2 x3 hk hP hF h18 hY hB
    have e : k = 30 := by omega
    subst e
    have c1 := SF_S hF c
    have hN : pN B 30 = 30 := PI_30 hP
    have h388 : zI h1 388 (ad 17 0) = nI 30 := hY.1
    rw [e17_20]
    simp only [e17_21, e17_24, e17_26, e17_124, o_iload, o_lload, o_aload, o_istore, o_lstore, o_astore, o_iinc, o_ipush, o_lpush, o_null, o_ibin, o_ineg, o_lbin, o_ldv, o_lneg, o_lcmp, o_i2l, o_l2i, o_dup, o_pop, o_dupx, o_dup2, o_ic, o_iz, o_nul, o_acmp, o_tsw, o_gI, o_gR, o_pI, o_pZ, o_pR, o_iald, o_bald, o_lald, o_aald, o_iast, o_bast, o_last, o_aast, o_alen, o_newa, o_new, o_mna, o_cast, o_calls, o_callv, o_calli, o_oinit, o_getC, o_refp, o_cpi, o_cpo, o_mmax, o_mmin, o_lmin, o_iret, o_zret, o_lret, o_aret, o_vret, jd_lo, jd_la, jd_nl, jd_pop, List.length_cons, List.length_nil, List.set_cons_zero, List.set_cons_succ, List.getElem?_cons_zero, List.getElem?_cons_succ, List.replicate_succ, List.replicate_zero, List.cons_append, List.nil_append, List.append_nil, Value.category, Option.toList, va_rf, true_implies, false_implies, false_and, and_false, and_true, true_and, and_self, true_or, or_true, false_or, or_false, not_true_eq_false, not_false_eq_true, forall_const, implies_true, if_true, if_false, reduceCtorEq, reduceIte, Nat.reduceAdd, Nat.reduceMul, Nat.reduceSub, Nat.reduceDiv, Nat.reduceMod, Nat.reduceEqDiff, Nat.reduceLeDiff, Nat.reduceLT, Nat.zero_le, Nat.lt_add_one, Nat.le_refl, Nat.sub_zero, Nat.zero_lt_succ, ge_iff_le, ji_m2, ji_m1, ji_0, ji_1, ji_2, ji_3, ji_4, ji_5, ji_6, ji_7, ji_8, ji_10, ji_12, ji_29, ji_30, ji_31, ji_40, ji_60, ji_70, ji_80, ji_81, ji_360, ji_512, ji_972, ji_1000000, ji_2147483639, jl_m1, jl_0, jl_1, c1.1.1, h388, j30]
    exact ⟨fun _ => hQ h1 hF h18 (by rw [hN]; exact hY), fun z => absurd (Int32.le_refl _) z⟩
  | succ f ih =>
    intro k h1 x1 x2 x3 hk hP hF h18 hY hB
    have c1 := SF_S hF c
    have hbb := hP.2.2.2.2
    have b1 := hbb _ (pLo_lt (B := pB B k))
    have b2 := hbb _ (pHi_lt (B := pB B k))
    have p1 := pLo_lt (B := pB B k)
    have p2 := pHi_lt (B := pB B k)
    have hk30 : k < 30 := by omega
    have hnle : ¬ nI 30 ≤ nI k := nI_ge hk30 (by decide)
    have kk22 := c1.2.2 22 (by decide) (by decide)
    have kk19 := c1.2.2 19 (by decide) (by decide)
    have kk20 := c1.2.2 20 (by decide) (by decide)
    have kk21 := c1.2.2 21 (by decide) (by decide)
    rw [e17_20]
    simp only [e17_21, e17_24, e17_26, e17_29, e17_30, o_iload, o_lload, o_aload, o_istore, o_lstore, o_astore, o_iinc, o_ipush, o_lpush, o_null, o_ibin, o_ineg, o_lbin, o_ldv, o_lneg, o_lcmp, o_i2l, o_l2i, o_dup, o_pop, o_dupx, o_dup2, o_ic, o_iz, o_nul, o_acmp, o_tsw, o_gI, o_gR, o_pI, o_pZ, o_pR, o_iald, o_bald, o_lald, o_aald, o_iast, o_bast, o_last, o_aast, o_alen, o_newa, o_new, o_mna, o_cast, o_calls, o_callv, o_calli, o_oinit, o_getC, o_refp, o_cpi, o_cpo, o_mmax, o_mmin, o_lmin, o_iret, o_zret, o_lret, o_aret, o_vret, jd_lo, jd_la, jd_nl, jd_pop, List.length_cons, List.length_nil, List.set_cons_zero, List.set_cons_succ, List.getElem?_cons_zero, List.getElem?_cons_succ, List.replicate_succ, List.replicate_zero, List.cons_append, List.nil_append, List.append_nil, Value.category, Option.toList, va_rf, true_implies, false_implies, false_and, and_false, and_true, true_and, and_self, true_or, or_true, false_or, or_false, not_true_eq_false, not_false_eq_true, forall_const, implies_true, if_true, if_false, reduceCtorEq, reduceIte, Nat.reduceAdd, Nat.reduceMul, Nat.reduceSub, Nat.reduceDiv, Nat.reduceMod, Nat.reduceEqDiff, Nat.reduceLeDiff, Nat.reduceLT, Nat.zero_le, Nat.lt_add_one, Nat.le_refl, Nat.sub_zero, Nat.zero_lt_succ, ge_iff_le, ji_m2, ji_m1, ji_0, ji_1, ji_2, ji_3, ji_4, ji_5, ji_6, ji_7, ji_8, ji_10, ji_12, ji_29, ji_30, ji_31, ji_40, ji_60, ji_70, ji_80, ji_81, ji_360, ji_512, ji_972, ji_1000000, ji_2147483639, jl_m1, jl_0, jl_1, c1.1.1, hY.1, j30, hnle]
    refine k_least (d := d) (C := pB B k) c1 (fun o ho => ⟨hB o ho, hbb o ho⟩) ?_
    simp only [e17_33, e17_34, e17_35, o_iload, o_lload, o_aload, o_istore, o_lstore, o_astore, o_iinc, o_ipush, o_lpush, o_null, o_ibin, o_ineg, o_lbin, o_ldv, o_lneg, o_lcmp, o_i2l, o_l2i, o_dup, o_pop, o_dupx, o_dup2, o_ic, o_iz, o_nul, o_acmp, o_tsw, o_gI, o_gR, o_pI, o_pZ, o_pR, o_iald, o_bald, o_lald, o_aald, o_iast, o_bast, o_last, o_aast, o_alen, o_newa, o_new, o_mna, o_cast, o_calls, o_callv, o_calli, o_oinit, o_getC, o_refp, o_cpi, o_cpo, o_mmax, o_mmin, o_lmin, o_iret, o_zret, o_lret, o_aret, o_vret, jd_lo, jd_la, jd_nl, jd_pop, List.length_cons, List.length_nil, List.set_cons_zero, List.set_cons_succ, List.getElem?_cons_zero, List.getElem?_cons_succ, List.replicate_succ, List.replicate_zero, List.cons_append, List.nil_append, List.append_nil, Value.category, Option.toList, va_rf, true_implies, false_implies, false_and, and_false, and_true, true_and, and_self, true_or, or_true, false_or, or_false, not_true_eq_false, not_false_eq_true, forall_const, implies_true, if_true, if_false, reduceCtorEq, reduceIte, Nat.reduceAdd, Nat.reduceMul, Nat.reduceSub, Nat.reduceDiv, Nat.reduceMod, Nat.reduceEqDiff, Nat.reduceLeDiff, Nat.reduceLT, Nat.zero_le, Nat.lt_add_one, Nat.le_refl, Nat.sub_zero, Nat.zero_lt_succ, ge_iff_le, ji_m2, ji_m1, ji_0, ji_1, ji_2, ji_3, ji_4, ji_5, ji_6, ji_7, ji_8, ji_10, ji_12, ji_29, ji_30, ji_31, ji_40, ji_60, ji_70, ji_80, ji_81, ji_360, ji_512, ji_972, ji_1000000, ji_2147483639, jl_m1, jl_0, jl_1, c1.1.1]
    refine k_great (d := d) (C := pB B k) c1 (fun o ho => ⟨hB o ho, hbb o ho⟩) ?_
    have emin : (if Int32.ofInt (pB B k (pHi (pB B k))) < -Int32.ofInt (pB B k (pLo (pB B k))) then Int32.ofInt (pB B k (pHi (pB B k))) else -Int32.ofInt (pB B k (pLo (pB B k)))) = Int32.ofInt (pAm (pB B k)) := by
      rw [← Int32.ofInt_neg]
      have ej := jI_lt b2 (show -984000000 ≤ -pB B k (pLo (pB B k)) ∧ -pB B k (pLo (pB B k)) ≤ 984000000 by omega)
      by_cases hc : pB B k (pHi (pB B k)) < -pB B k (pLo (pB B k))
      · rw [if_pos (by rw [ej]; exact hc)]; congr 1; unfold pAm; omega
      · rw [if_neg (by rw [ej]; exact hc)]; congr 1; unfold pAm; omega
    have bam : -984000000 ≤ pAm (pB B k) ∧ pAm (pB B k) ≤ 984000000 := by unfold pAm; omega
    have eam : (0 < Int32.ofInt (pAm (pB B k))) = (0 < pAm (pB B k)) := jI_lt (x := 0) (by omega) bam
    by_cases hst : pAm (pB B k) ≤ 0
    · have hN := PI_e hP hst
      have n0 : ¬ 0 < pAm (pB B k) := by omega
      simp only [e17_38, e17_39, e17_40, e17_43, e17_44, e17_45, e17_46, e17_47, e17_50, e17_51, e17_52, e17_55, e17_56, e17_57, e17_60, o_iload, o_lload, o_aload, o_istore, o_lstore, o_astore, o_iinc, o_ipush, o_lpush, o_null, o_ibin, o_ineg, o_lbin, o_ldv, o_lneg, o_lcmp, o_i2l, o_l2i, o_dup, o_pop, o_dupx, o_dup2, o_ic, o_iz, o_nul, o_acmp, o_tsw, o_gI, o_gR, o_pI, o_pZ, o_pR, o_iald, o_bald, o_lald, o_aald, o_iast, o_bast, o_last, o_aast, o_alen, o_newa, o_new, o_mna, o_cast, o_calls, o_callv, o_calli, o_oinit, o_getC, o_refp, o_cpi, o_cpo, o_mmax, o_mmin, o_lmin, o_iret, o_zret, o_lret, o_aret, o_vret, jd_lo, jd_la, jd_nl, jd_pop, List.length_cons, List.length_nil, List.set_cons_zero, List.set_cons_succ, List.getElem?_cons_zero, List.getElem?_cons_succ, List.replicate_succ, List.replicate_zero, List.cons_append, List.nil_append, List.append_nil, Value.category, Option.toList, va_rf, true_implies, false_implies, false_and, and_false, and_true, true_and, and_self, true_or, or_true, false_or, or_false, not_true_eq_false, not_false_eq_true, forall_const, implies_true, if_true, if_false, reduceCtorEq, reduceIte, Nat.reduceAdd, Nat.reduceMul, Nat.reduceSub, Nat.reduceDiv, Nat.reduceMod, Nat.reduceEqDiff, Nat.reduceLeDiff, Nat.reduceLT, Nat.zero_le, Nat.lt_add_one, Nat.le_refl, Nat.sub_zero, Nat.zero_lt_succ, ge_iff_le, ji_m2, ji_m1, ji_0, ji_1, ji_2, ji_3, ji_4, ji_5, ji_6, ji_7, ji_8, ji_10, ji_12, ji_29, ji_30, ji_31, ji_40, ji_60, ji_70, ji_80, ji_81, ji_360, ji_512, ji_972, ji_1000000, ji_2147483639, jl_m1, jl_0, jl_1, c1.1.1, c1.2.1.2.2.2.2, kk22.1, kk22.2.1, jn_in p1 (by decide), jn_cl p1 (by decide), jn_in p2 (by decide), jn_cl p2 (by decide), hB _ p1, hB _ p2, emin, eam, n0]
      exact hQ h1 hF h18 (by rw [hN]; exact hY)
    · obtain ⟨d1, d2, dne, d3, d4, d5⟩ := p_due hst
      have hne : ¬ pHi (pB B k) = pLo (pB B k) := fun z => dne z.symm
      have n0 : 0 < pAm (pB B k) := by omega
      obtain ⟨hP1, -⟩ := PI_s hP hst
      have n1922 : ¬ ad 19 0 = ad 22 0 := cVS_ne c1 (by omega) (by omega) (by decide)
      have n2022 : ¬ ad 20 0 = ad 22 0 := cVS_ne c1 (by omega) (by omega) (by decide)
      have n2122 : ¬ ad 21 0 = ad 22 0 := cVS_ne c1 (by omega) (by omega) (by decide)
      have n1920 : ¬ ad 19 0 = ad 20 0 := cVS_ne c1 (by omega) (by omega) (by decide)
      have n1921 : ¬ ad 19 0 = ad 21 0 := cVS_ne c1 (by omega) (by omega) (by decide)
      have n2021 : ¬ ad 20 0 = ad 21 0 := cVS_ne c1 (by omega) (by omega) (by decide)
      have n2219 : ¬ ad 22 0 = ad 19 0 := cVS_ne c1 (by omega) (by omega) (by decide)
      have n2220 : ¬ ad 22 0 = ad 20 0 := cVS_ne c1 (by omega) (by omega) (by decide)
      have n2221 : ¬ ad 22 0 = ad 21 0 := cVS_ne c1 (by omega) (by omega) (by decide)
      have n2019 : ¬ ad 20 0 = ad 19 0 := cVS_ne c1 (by omega) (by omega) (by decide)
      have n2119 : ¬ ad 21 0 = ad 19 0 := cVS_ne c1 (by omega) (by omega) (by decide)
      have n2120 : ¬ ad 21 0 = ad 20 0 := cVS_ne c1 (by omega) (by omega) (by decide)
      have n18 : ∀ k, 19 ≤ k → k ≤ 22 → ¬ ad 18 0 = ad k 0 := fun k h1 h2 => cVS_ne c1 (by omega) (by omega) (by omega)
      simp only [e17_38, e17_39, e17_40, e17_43, e17_44, e17_45, e17_46, e17_47, e17_50, e17_51, e17_52, e17_55, e17_56, e17_57, e17_60, e17_61, e17_62, e17_65, e17_66, e17_67, e17_68, e17_69, e17_70, e17_71, e17_72, e17_75, e17_76, e17_77, e17_78, e17_79, e17_80, e17_81, e17_82, e17_85, e17_86, e17_89, e17_90, e17_91, e17_92, e17_95, e17_96, e17_99, e17_100, e17_101, e17_102, e17_105, e17_106, e17_109, e17_110, e17_111, e17_112, e17_113, e17_116, e17_117, e17_118, e17_121, o_iload, o_lload, o_aload, o_istore, o_lstore, o_astore, o_iinc, o_ipush, o_lpush, o_null, o_ibin, o_ineg, o_lbin, o_ldv, o_lneg, o_lcmp, o_i2l, o_l2i, o_dup, o_pop, o_dupx, o_dup2, o_ic, o_iz, o_nul, o_acmp, o_tsw, o_gI, o_gR, o_pI, o_pZ, o_pR, o_iald, o_bald, o_lald, o_aald, o_iast, o_bast, o_last, o_aast, o_alen, o_newa, o_new, o_mna, o_cast, o_calls, o_callv, o_calli, o_oinit, o_getC, o_refp, o_cpi, o_cpo, o_mmax, o_mmin, o_lmin, o_iret, o_zret, o_lret, o_aret, o_vret, jd_lo, jd_la, jd_nl, jd_pop, List.length_cons, List.length_nil, List.set_cons_zero, List.set_cons_succ, List.getElem?_cons_zero, List.getElem?_cons_succ, List.replicate_succ, List.replicate_zero, List.cons_append, List.nil_append, List.append_nil, Value.category, Option.toList, va_rf, true_implies, false_implies, false_and, and_false, and_true, true_and, and_self, true_or, or_true, false_or, or_false, not_true_eq_false, not_false_eq_true, forall_const, implies_true, if_true, if_false, reduceCtorEq, reduceIte, Nat.reduceAdd, Nat.reduceMul, Nat.reduceSub, Nat.reduceDiv, Nat.reduceMod, Nat.reduceEqDiff, Nat.reduceLeDiff, Nat.reduceLT, Nat.zero_le, Nat.lt_add_one, Nat.le_refl, Nat.sub_zero, Nat.zero_lt_succ, ge_iff_le, ji_m2, ji_m1, ji_0, ji_1, ji_2, ji_3, ji_4, ji_5, ji_6, ji_7, ji_8, ji_10, ji_12, ji_29, ji_30, ji_31, ji_40, ji_60, ji_70, ji_80, ji_81, ji_360, ji_512, ji_972, ji_1000000, ji_2147483639, jl_m1, jl_0, jl_1, rw_KI, rw_II, rw_RI, rw_LI, rw_AI, rw_JI, rw_OI, rw_KR, rw_IR, rw_RR, rw_LR, rw_AR, rw_JR, rw_OR, rw_KA, rw_IA, rw_RA, rw_LA, rw_AA, rw_JA, rw_OA, rw_KJ, rw_IJ, rw_RJ, rw_LJ, rw_AJ, rw_JJ, rw_OJ, rw_KO, rw_IO, rw_RO, rw_LO, rw_AO, rw_JO, rw_OO, rw_KAr, rw_IAr, rw_RAr, rw_LAr, rw_AAr, rw_JAr, rw_OAr, rw_KOr, rw_IOr, rw_ROr, rw_LOr, rw_AOr, rw_JOr, rw_OOr, rw_KN, rw_IN, rw_RN, rw_LN, rw_AN, rw_JN, rw_ON, rw_KY, rw_IY, rw_RY, rw_LY, rw_AY, rw_JY, rw_OY, c1.1.1, c1.2.1.2.1, c1.2.1.2.2.1, c1.2.1.2.2.2.1, c1.2.1.2.2.2.2, kk19.1, kk19.2.1, kk20.1, kk20.2.1, kk21.1, kk21.2.1, kk22.1, kk22.2.1, jn_in p1 (by decide), jn_cl p1 (by decide), jn_in p2 (by decide), jn_cl p2 (by decide), jn_in hk30 (by decide), jn_cl hk30 (by decide), hB _ p1, hB _ p2, emin, eam, n0, hne, hY.1, jn_sc]
      refine ih (k + 1) _ _ _ _ (by omega) hP1 (SF_I (SF_A (SF_A (SF_A (SF_A (SF_A hF (by decide) (by decide)) (by decide) (by decide)) (by decide) (by decide)) (by decide) (by decide)) (by decide) (by decide))) ?_ ⟨wI_s, fun j hj => ?_⟩ (fun o ho => ?_)
      · rw [rw_AI, wA_na (n18 21 (by decide) (by decide)), wA_na (n18 20 (by decide) (by decide)), wA_na (n18 19 (by decide) (by decide)), wA_na (n18 22 (by decide) (by decide)), wA_na (n18 22 (by decide) (by decide))]
        exact h18
      · simp only [rw_AI, rw_AA, n1922, n2022, n2122, n1920, n1921, n2021, n2019, n2119, n2120, false_and, if_false, true_and]
        by_cases e : j = k
        · subst e; simp
        · simp only [e, if_false]
          exact hY.2 j (by omega)
      · simp only [rw_AI, rw_AA, n2219, n2220, n2221, false_and, if_false, true_and]
        show _ = Int32.ofInt (pSt (pB B k) o)
        rw [pSt_at]
        by_cases e1 : o = pHi (pB B k)
        · rw [if_pos e1, if_pos e1, Int32.ofInt_sub]
        · rw [if_neg e1, if_neg e1]
          by_cases e2 : o = pLo (pB B k)
          · rw [if_pos e2, if_pos e2, Int32.ofInt_add]
          · rw [if_neg e2, if_neg e2]; exact hB o ho
set_option maxRecDepth 100000 in
theorem k_cpay (c : cVS h tg ad v) (h0 : smi B 30 = 0) (hb : ∀ o, o < 30 → -984000000 ≤ B o ∧ B o ≤ 984000000) (hB : ∀ o, o < 30 → zA h (ad 18 0) o = Int32.ofInt (B o)) (hQ : ∀ h2, SF ad h h2 → (∀ o, o < 30 → zA h2 (ad 18 0) o = Int32.ofInt (B o)) → PZ h2 ad B (pN B 30) → Q none h2) : jd_WM g (d + 2) 17 [.ref (ad 17 0)] h Q := by
  refine ⟨Nat.le_of_ble_eq_true rfl, ?_⟩; show jd_w g (d + 1) 17 Q 0 [some (.ref (ad 17 0)), none, none, none] [] h 0 0
  have kk18 := c.2.2 18 (by decide) (by decide)
  have kk22 := c.2.2 22 (by decide) (by decide)
  have n1822 : ¬ ad 18 0 = ad 22 0 := cVS_ne c (by omega) (by omega) (by decide)
  have c30 : Int32.toNatClampNeg 30 = 30 := rfl
  have n00 : ¬ (0 : Int32) < 0 := by decide
  have n30 : ¬ (30 : Int32) < 0 := by decide
  simp only [e17_0, e17_1, e17_4, e17_5, e17_6, e17_9, e17_10, e17_12, e17_15, e17_16, e17_17, o_iload, o_lload, o_aload, o_istore, o_lstore, o_astore, o_iinc, o_ipush, o_lpush, o_null, o_ibin, o_ineg, o_lbin, o_ldv, o_lneg, o_lcmp, o_i2l, o_l2i, o_dup, o_pop, o_dupx, o_dup2, o_ic, o_iz, o_nul, o_acmp, o_tsw, o_gI, o_gR, o_pI, o_pZ, o_pR, o_iald, o_bald, o_lald, o_aald, o_iast, o_bast, o_last, o_aast, o_alen, o_newa, o_new, o_mna, o_cast, o_calls, o_callv, o_calli, o_oinit, o_getC, o_refp, o_cpi, o_cpo, o_mmax, o_mmin, o_lmin, o_iret, o_zret, o_lret, o_aret, o_vret, jd_lo, jd_la, jd_nl, jd_pop, List.length_cons, List.length_nil, List.set_cons_zero, List.set_cons_succ, List.getElem?_cons_zero, List.getElem?_cons_succ, List.replicate_succ, List.replicate_zero, List.cons_append, List.nil_append, List.append_nil, Value.category, Option.toList, va_rf, true_implies, false_implies, false_and, and_false, and_true, true_and, and_self, true_or, or_true, false_or, or_false, not_true_eq_false, not_false_eq_true, forall_const, implies_true, if_true, if_false, reduceCtorEq, reduceIte, Nat.reduceAdd, Nat.reduceMul, Nat.reduceSub, Nat.reduceDiv, Nat.reduceMod, Nat.reduceEqDiff, Nat.reduceLeDiff, Nat.reduceLT, Nat.zero_le, Nat.lt_add_one, Nat.le_refl, Nat.sub_zero, Nat.zero_lt_succ, ge_iff_le, ji_m2, ji_m1, ji_0, ji_1, ji_2, ji_3, ji_4, ji_5, ji_6, ji_7, ji_8, ji_10, ji_12, ji_29, ji_30, ji_31, ji_40, ji_60, ji_70, ji_80, ji_81, ji_360, ji_512, ji_972, ji_1000000, ji_2147483639, jl_m1, jl_0, jl_1, rw_KI, rw_II, rw_RI, rw_LI, rw_AI, rw_JI, rw_OI, rw_KR, rw_IR, rw_RR, rw_LR, rw_AR, rw_JR, rw_OR, rw_KA, rw_IA, rw_RA, rw_LA, rw_AA, rw_JA, rw_OA, rw_KJ, rw_IJ, rw_RJ, rw_LJ, rw_AJ, rw_JJ, rw_OJ, rw_KO, rw_IO, rw_RO, rw_LO, rw_AO, rw_JO, rw_OO, rw_KAr, rw_IAr, rw_RAr, rw_LAr, rw_AAr, rw_JAr, rw_OAr, rw_KOr, rw_IOr, rw_ROr, rw_LOr, rw_AOr, rw_JOr, rw_OOr, rw_KN, rw_IN, rw_RN, rw_LN, rw_AN, rw_JN, rw_ON, rw_KY, rw_IY, rw_RY, rw_LY, rw_AY, rw_JY, rw_OY, c.1.1, c.2.1.1, c.2.1.2.2.2.2, kk18.1, kk18.2.1, kk22.1, kk22.2.1, j0cl, c30, n00, n30, Nat.zero_add]
  generalize h1e : wAr h (ad 22 0) (va_cpy (zA h (ad 18 0)) (zA h (ad 22 0)) 0 0 30) = h1
  have hF1 : SF ad h h1 := by
    rw [← h1e]
    exact ⟨rfl, rfl, rfl, rfl, rfl, fun _ _ _ => rfl, fun b hb => by funext j; rw [rw_AAr, if_neg (hb 22 (by decide) (by decide))]⟩
  have a18 : zA h1 (ad 18 0) = zA h (ad 18 0) := by
    rw [← h1e]
    funext j
    rw [rw_AAr, if_neg n1822]
  have a22 : ∀ o, o < 30 → zA h1 (ad 22 0) o = Int32.ofInt (B o) := fun o ho => by
    rw [← h1e, rw_AAr, if_pos rfl, pk_cpy_in (by omega) (by omega), Nat.zero_add, Nat.sub_zero]
    exact hB o ho
  have hF2 := SF_I (x := 0) hF1
  refine l_cp (SF_S hF2 c) (fun h3 hF3 h18 hY => hQ h3 (SF_t hF2 hF3) (fun o ho => ?_) hY) 30 0 _ _ _ _ (by omega) (PI_0 h0 hb) SF_r rfl ⟨wI_s, fun j hj => by omega⟩ a22
  rw [h18]
  show zA h1 (ad 18 0) o = _
  rw [a18]
  exact hB o ho
end
