/-! the class: an ended voyage is adjusted -/
/-- what is not written when a voyage is adjusted -/
def PE (v u : Nat) : Prop := (u < 200 ∨ 204 < u) ∧ ¬ (Tg v 3 0 ≤ u ∧ u < Tg v 4 0) ∧ ¬ (Tg v 6 0 ≤ u ∧ u < Tg v 14 0) ∧ ¬ (Tg v 17 0 ≤ u ∧ u < Tg v 23 0)
/-- what is not written when its acts are adjusted -/
def PA (v u : Nat) : Prop := (u < 200 ∨ 204 < u) ∧ ¬ (Tg v 6 0 ≤ u ∧ u < Tg v 14 0)
/-- an act's table, adjusted -/
def cRA (h : jd_H) (ad : Nat → Nat → Nat) (n : Nat) (s : VS) (a : Nat) : Prop := (∀ i, i < n → zA h (ad 10 a) i = nI (aPart s (-1) (hA s (-1) a) a i) ∧ zA h (ad 11 a) i = nI (aBo s (-1) (hA s (-1) a) a i)) ∧ (∀ o, o < 30 → zA h (ad 13 a) o = nI (gt s a o)) ∧ zI h 137 (ad 6 a) = nI (aEx s (-1) (hA s (-1) a) a) ∧ zI h 138 (ad 6 a) = nI (aSu s (-1) (hA s (-1) a) a) ∧ zI h 139 (ad 6 a) = nI (sm (aPart s (-1) (hA s (-1) a) a) 81)
section
variable {g d : Nat} {h h1 : jd_H} {Q : jd_Q} {tg t1 aj : Nat → Nat} {ad : Nat → Nat → Nat} {v n lo na p q a : Nat} {pp po : Int32} {s : VS} {P : Nat → Prop} {H : Nat → Nat}
theorem cRA_fr (c : cRA h ad n s a) (o : cAo h tg ad v a) (x : AG P h h1 tg t1) (p6 : P (Tg v 6 a)) (p10 : P (Tg v 10 a)) (p11 : P (Tg v 11 a)) (p13 : P (Tg v 13 a)) : cRA h1 ad n s a := by
  have k0 : zK h (ad 6 a) ≠ 0 := by rw [o.1.1]; decide
  have hp' : P (tg (ad 6 a)) := by rw [o.1.2]; exact p6
  have a10 : zA h1 (ad 10 a) = zA h (ad 10 a) := AG_A x (cAo_nz o (k := 3) (by decide)) (by rw [(o.2 3 (by decide)).2.1]; exact p10)
  have a11 : zA h1 (ad 11 a) = zA h (ad 11 a) := AG_A x (cAo_nz o (k := 4) (by decide)) (by rw [(o.2 4 (by decide)).2.1]; exact p11)
  have a13 : zA h1 (ad 13 a) = zA h (ad 13 a) := AG_A x (cAo_nz o (k := 6) (by decide)) (by rw [(o.2 6 (by decide)).2.1]; exact p13)
  unfold cRA at c ⊢
  rw [AG_I x k0 hp', AG_I x k0 hp', AG_I x k0 hp', a10, a11, a13]
  exact c
set_option maxRecDepth 100000 in
theorem l_set (hI : IV pp s n lo na p) (hJ : JV q s n na p) (cS : cVS h tg ad v) (cI : cVI h tg ad v n s.2.1) (cA : cVA h tg ad v na s.2.2.1 s.2.2.2) (cR : ∀ a, a < na → cRA h ad n s a)
    (hex : ∀ h2, SF ad h h2 → (∀ o, o < 30 → zA h2 (ad 18 0) o = Int32.ofInt (bal s na o)) → jd_w g (d + 4) 15 Q 41 [some (.ref (ad 17 0)), some (.ref (ad 1 0)), some (.ref (ad 4 0)), some (.int (nI na))] [] h2 0 0) :
    ∀ (r a : Nat) (h2 : jd_H), a + r = na → SF ad h h2 → (∀ o, o < 30 → zA h2 (ad 18 0) o = Int32.ofInt (bal s a o)) → jd_w g (d + 4) 15 Q 10 [some (.ref (ad 17 0)), some (.ref (ad 1 0)), some (.ref (ad 4 0)), some (.int (nI a))] [] h2 0 0 := by
  have hn81 := IV_81 hI
  have hna := hI.2.2.1.2
  intro r
  induction r with
  | zero =>
    intro a h2 hi hF hB
    have hin : a = na := by omega
    subst hin
    have cA2 := cVA_fr cA (SF_AG hF cS) (fun k _ _ => by unfold Tg; omega) (fun b k _ _ _ j _ _ => by unfold Tg; omega)
    rw [e15_10]
    simp only [e15_11, e15_12, o_iload, o_lload, o_aload, o_istore, o_lstore, o_astore, o_iinc, o_ipush, o_lpush, o_null, o_ibin, o_ineg, o_lbin, o_ldv, o_lneg, o_lcmp, o_i2l, o_l2i, o_dup, o_pop, o_dupx, o_dup2, o_ic, o_iz, o_nul, o_acmp, o_tsw, o_gI, o_gR, o_pI, o_pZ, o_pR, o_iald, o_bald, o_lald, o_aald, o_iast, o_bast, o_last, o_aast, o_alen, o_newa, o_new, o_mna, o_cast, o_calls, o_callv, o_calli, o_oinit, o_getC, o_refp, o_cpi, o_cpo, o_mmax, o_mmin, o_lmin, o_iret, o_zret, o_lret, o_aret, o_vret, jd_lo, jd_la, jd_nl, jd_pop, List.length_cons, List.length_nil, List.set_cons_zero, List.set_cons_succ, List.getElem?_cons_zero, List.getElem?_cons_succ, List.replicate_succ, List.replicate_zero, List.cons_append, List.nil_append, List.append_nil, Value.category, Option.toList, va_rf, true_implies, false_implies, false_and, and_false, and_true, true_and, and_self, true_or, or_true, false_or, or_false, not_true_eq_false, not_false_eq_true, forall_const, implies_true, if_true, if_false, reduceCtorEq, reduceIte, Nat.reduceAdd, Nat.reduceMul, Nat.reduceSub, Nat.reduceDiv, Nat.reduceMod, Nat.reduceEqDiff, Nat.reduceLeDiff, Nat.reduceLT, Nat.zero_le, Nat.lt_add_one, Nat.le_refl, Nat.sub_zero, Nat.zero_lt_succ, ge_iff_le, ji_m2, ji_m1, ji_0, ji_1, ji_2, ji_3, ji_4, ji_5, ji_6, ji_7, ji_8, ji_10, ji_12, ji_29, ji_30, ji_31, ji_40, ji_60, ji_70, ji_80, ji_81, ji_360, ji_512, ji_972, ji_1000000, ji_2147483639, jl_m1, jl_0, jl_1, vLS_K cA2.1]
    refine k_lsize (d := d + 3) cA2.1 ?_
    simp only [e15_17, o_iload, o_lload, o_aload, o_istore, o_lstore, o_astore, o_iinc, o_ipush, o_lpush, o_null, o_ibin, o_ineg, o_lbin, o_ldv, o_lneg, o_lcmp, o_i2l, o_l2i, o_dup, o_pop, o_dupx, o_dup2, o_ic, o_iz, o_nul, o_acmp, o_tsw, o_gI, o_gR, o_pI, o_pZ, o_pR, o_iald, o_bald, o_lald, o_aald, o_iast, o_bast, o_last, o_aast, o_alen, o_newa, o_new, o_mna, o_cast, o_calls, o_callv, o_calli, o_oinit, o_getC, o_refp, o_cpi, o_cpo, o_mmax, o_mmin, o_lmin, o_iret, o_zret, o_lret, o_aret, o_vret, jd_lo, jd_la, jd_nl, jd_pop, List.length_cons, List.length_nil, List.set_cons_zero, List.set_cons_succ, List.getElem?_cons_zero, List.getElem?_cons_succ, List.replicate_succ, List.replicate_zero, List.cons_append, List.nil_append, List.append_nil, Value.category, Option.toList, va_rf, true_implies, false_implies, false_and, and_false, and_true, true_and, and_self, true_or, or_true, false_or, or_false, not_true_eq_false, not_false_eq_true, forall_const, implies_true, if_true, if_false, reduceCtorEq, reduceIte, Nat.reduceAdd, Nat.reduceMul, Nat.reduceSub, Nat.reduceDiv, Nat.reduceMod, Nat.reduceEqDiff, Nat.reduceLeDiff, Nat.reduceLT, Nat.zero_le, Nat.lt_add_one, Nat.le_refl, Nat.sub_zero, Nat.zero_lt_succ, ge_iff_le, ji_m2, ji_m1, ji_0, ji_1, ji_2, ji_3, ji_4, ji_5, ji_6, ji_7, ji_8, ji_10, ji_12, ji_29, ji_30, ji_31, ji_40, ji_60, ji_70, ji_80, ji_81, ji_360, ji_512, ji_972, ji_1000000, ji_2147483639, jl_m1, jl_0, jl_1]
    exact ⟨fun _ => hex h2 hF hB, fun w => absurd (Int32.le_refl _) w⟩
  | succ r ih =>
    intro a h2 hi hF hB
    have ha : a < na := by omega
    have hnle : ¬ nI na ≤ nI a := nI_ge ha (by omega)
    have hG := SF_AG hF cS
    have cA2 := cVA_fr cA hG (fun k _ _ => by unfold Tg; omega) (fun b k _ _ _ j _ _ => by unfold Tg; omega)
    have cI2 := cVI_fr cI hG (fun k _ _ => by unfold Tg; omega) (fun i _ k _ _ => by unfold Tg; omega)
    have cS2 := SF_S hF cS
    have cR2 := cRA_fr (cR a ha) (cA.2 a ha).1 hG (fun k _ _ => by unfold Tg; omega) (fun k _ _ => by unfold Tg; omega) (fun k _ _ => by unfold Tg; omega) (fun k _ _ => by unfold Tg; omega)
    have o2 := (cA2.2 a ha).1
    have sa : cSA h2 tg ad v n a s := ⟨cS2, cI2, o2, fun i hi => ⟨((cA2.2 a ha).2.1 i (by omega)).2.2, (cR2.1 i hi).2⟩, cR2.2.1⟩
    rw [e15_10]
    simp only [e15_11, e15_12, o_iload, o_lload, o_aload, o_istore, o_lstore, o_astore, o_iinc, o_ipush, o_lpush, o_null, o_ibin, o_ineg, o_lbin, o_ldv, o_lneg, o_lcmp, o_i2l, o_l2i, o_dup, o_pop, o_dupx, o_dup2, o_ic, o_iz, o_nul, o_acmp, o_tsw, o_gI, o_gR, o_pI, o_pZ, o_pR, o_iald, o_bald, o_lald, o_aald, o_iast, o_bast, o_last, o_aast, o_alen, o_newa, o_new, o_mna, o_cast, o_calls, o_callv, o_calli, o_oinit, o_getC, o_refp, o_cpi, o_cpo, o_mmax, o_mmin, o_lmin, o_iret, o_zret, o_lret, o_aret, o_vret, jd_lo, jd_la, jd_nl, jd_pop, List.length_cons, List.length_nil, List.set_cons_zero, List.set_cons_succ, List.getElem?_cons_zero, List.getElem?_cons_succ, List.replicate_succ, List.replicate_zero, List.cons_append, List.nil_append, List.append_nil, Value.category, Option.toList, va_rf, true_implies, false_implies, false_and, and_false, and_true, true_and, and_self, true_or, or_true, false_or, or_false, not_true_eq_false, not_false_eq_true, forall_const, implies_true, if_true, if_false, reduceCtorEq, reduceIte, Nat.reduceAdd, Nat.reduceMul, Nat.reduceSub, Nat.reduceDiv, Nat.reduceMod, Nat.reduceEqDiff, Nat.reduceLeDiff, Nat.reduceLT, Nat.zero_le, Nat.lt_add_one, Nat.le_refl, Nat.sub_zero, Nat.zero_lt_succ, ge_iff_le, ji_m2, ji_m1, ji_0, ji_1, ji_2, ji_3, ji_4, ji_5, ji_6, ji_7, ji_8, ji_10, ji_12, ji_29, ji_30, ji_31, ji_40, ji_60, ji_70, ji_80, ji_81, ji_360, ji_512, ji_972, ji_1000000, ji_2147483639, jl_m1, jl_0, jl_1, vLS_K cA2.1]
    refine k_lsize (d := d + 3) cA2.1 ?_
    simp only [e15_17, e15_20, e15_21, e15_22, e15_23, e15_24, o_iload, o_lload, o_aload, o_istore, o_lstore, o_astore, o_iinc, o_ipush, o_lpush, o_null, o_ibin, o_ineg, o_lbin, o_ldv, o_lneg, o_lcmp, o_i2l, o_l2i, o_dup, o_pop, o_dupx, o_dup2, o_ic, o_iz, o_nul, o_acmp, o_tsw, o_gI, o_gR, o_pI, o_pZ, o_pR, o_iald, o_bald, o_lald, o_aald, o_iast, o_bast, o_last, o_aast, o_alen, o_newa, o_new, o_mna, o_cast, o_calls, o_callv, o_calli, o_oinit, o_getC, o_refp, o_cpi, o_cpo, o_mmax, o_mmin, o_lmin, o_iret, o_zret, o_lret, o_aret, o_vret, jd_lo, jd_la, jd_nl, jd_pop, List.length_cons, List.length_nil, List.set_cons_zero, List.set_cons_succ, List.getElem?_cons_zero, List.getElem?_cons_succ, List.replicate_succ, List.replicate_zero, List.cons_append, List.nil_append, List.append_nil, Value.category, Option.toList, va_rf, true_implies, false_implies, false_and, and_false, and_true, true_and, and_self, true_or, or_true, false_or, or_false, not_true_eq_false, not_false_eq_true, forall_const, implies_true, if_true, if_false, reduceCtorEq, reduceIte, Nat.reduceAdd, Nat.reduceMul, Nat.reduceSub, Nat.reduceDiv, Nat.reduceMod, Nat.reduceEqDiff, Nat.reduceLeDiff, Nat.reduceLT, Nat.zero_le, Nat.lt_add_one, Nat.le_refl, Nat.sub_zero, Nat.zero_lt_succ, ge_iff_le, ji_m2, ji_m1, ji_0, ji_1, ji_2, ji_3, ji_4, ji_5, ji_6, ji_7, ji_8, ji_10, ji_12, ji_29, ji_30, ji_31, ji_40, ji_60, ji_70, ji_80, ji_81, ji_360, ji_512, ji_972, ji_1000000, ji_2147483639, jl_m1, jl_0, jl_1, hnle, vLS_K cA2.1]
    refine k_lget (d := d + 1) cA2.1 ha ?_
    simp only [e15_29, e15_32, o_iload, o_lload, o_aload, o_istore, o_lstore, o_astore, o_iinc, o_ipush, o_lpush, o_null, o_ibin, o_ineg, o_lbin, o_ldv, o_lneg, o_lcmp, o_i2l, o_l2i, o_dup, o_pop, o_dupx, o_dup2, o_ic, o_iz, o_nul, o_acmp, o_tsw, o_gI, o_gR, o_pI, o_pZ, o_pR, o_iald, o_bald, o_lald, o_aald, o_iast, o_bast, o_last, o_aast, o_alen, o_newa, o_new, o_mna, o_cast, o_calls, o_callv, o_calli, o_oinit, o_getC, o_refp, o_cpi, o_cpo, o_mmax, o_mmin, o_lmin, o_iret, o_zret, o_lret, o_aret, o_vret, jd_lo, jd_la, jd_nl, jd_pop, List.length_cons, List.length_nil, List.set_cons_zero, List.set_cons_succ, List.getElem?_cons_zero, List.getElem?_cons_succ, List.replicate_succ, List.replicate_zero, List.cons_append, List.nil_append, List.append_nil, Value.category, Option.toList, va_rf, true_implies, false_implies, false_and, and_false, and_true, true_and, and_self, true_or, or_true, false_or, or_false, not_true_eq_false, not_false_eq_true, forall_const, implies_true, if_true, if_false, reduceCtorEq, reduceIte, Nat.reduceAdd, Nat.reduceMul, Nat.reduceSub, Nat.reduceDiv, Nat.reduceMod, Nat.reduceEqDiff, Nat.reduceLeDiff, Nat.reduceLT, Nat.zero_le, Nat.lt_add_one, Nat.le_refl, Nat.sub_zero, Nat.zero_lt_succ, ge_iff_le, ji_m2, ji_m1, ji_0, ji_1, ji_2, ji_3, ji_4, ji_5, ji_6, ji_7, ji_8, ji_10, ji_12, ji_29, ji_30, ji_31, ji_40, ji_60, ji_70, ji_80, ji_81, ji_360, ji_512, ji_972, ji_1000000, ji_2147483639, jl_m1, jl_0, jl_1, o2.1.1, cS2.1.1]
    refine k_addAct (d := d) hI hJ ha sa hB (fun h3 hF3 hB3 => ?_)
    simp only [e15_35, e15_38, o_iload, o_lload, o_aload, o_istore, o_lstore, o_astore, o_iinc, o_ipush, o_lpush, o_null, o_ibin, o_ineg, o_lbin, o_ldv, o_lneg, o_lcmp, o_i2l, o_l2i, o_dup, o_pop, o_dupx, o_dup2, o_ic, o_iz, o_nul, o_acmp, o_tsw, o_gI, o_gR, o_pI, o_pZ, o_pR, o_iald, o_bald, o_lald, o_aald, o_iast, o_bast, o_last, o_aast, o_alen, o_newa, o_new, o_mna, o_cast, o_calls, o_callv, o_calli, o_oinit, o_getC, o_refp, o_cpi, o_cpo, o_mmax, o_mmin, o_lmin, o_iret, o_zret, o_lret, o_aret, o_vret, jd_lo, jd_la, jd_nl, jd_pop, List.length_cons, List.length_nil, List.set_cons_zero, List.set_cons_succ, List.getElem?_cons_zero, List.getElem?_cons_succ, List.replicate_succ, List.replicate_zero, List.cons_append, List.nil_append, List.append_nil, Value.category, Option.toList, va_rf, true_implies, false_implies, false_and, and_false, and_true, true_and, and_self, true_or, or_true, false_or, or_false, not_true_eq_false, not_false_eq_true, forall_const, implies_true, if_true, if_false, reduceCtorEq, reduceIte, Nat.reduceAdd, Nat.reduceMul, Nat.reduceSub, Nat.reduceDiv, Nat.reduceMod, Nat.reduceEqDiff, Nat.reduceLeDiff, Nat.reduceLT, Nat.zero_le, Nat.lt_add_one, Nat.le_refl, Nat.sub_zero, Nat.zero_lt_succ, ge_iff_le, ji_m2, ji_m1, ji_0, ji_1, ji_2, ji_3, ji_4, ji_5, ji_6, ji_7, ji_8, ji_10, ji_12, ji_29, ji_30, ji_31, ji_40, ji_60, ji_70, ji_80, ji_81, ji_360, ji_512, ji_972, ji_1000000, ji_2147483639, jl_m1, jl_0, jl_1, jn_sc]
    exact ih (a + 1) h3 (by omega) (SF_t hF hF3) hB3
set_option maxRecDepth 100000 in
theorem k_settle (hI : IV pp s n lo na p) (hJ : JV q s n na p) (cS : cVS h tg ad v) (cI : cVI h tg ad v n s.2.1) (cA : cVA h tg ad v na s.2.2.1 s.2.2.2) (cR : ∀ a, a < na → cRA h ad n s a)
    (hQ : ∀ h2, SF ad h h2 → (∀ o, o < 30 → zA h2 (ad 18 0) o = Int32.ofInt (bal s na o)) → PZ h2 ad (bal s na) (pN (bal s na) 30) → Q none h2) :
    jd_WM g (d + 5) 15 [.ref (ad 17 0), .ref (ad 1 0), .ref (ad 4 0)] h Q := by
  refine ⟨Nat.le_of_ble_eq_true rfl, ?_⟩; show jd_w g (d + 4) 15 Q 0 [some (.ref (ad 17 0)), some (.ref (ad 1 0)), some (.ref (ad 4 0)), none] [] h 0 0
  have hn81 := IV_81 hI
  have hna := hI.2.2.1.2
  have kk18 := cS.2.2 18 (by decide) (by decide)
  simp only [e15_0, e15_1, e15_4, e15_5, o_iload, o_lload, o_aload, o_istore, o_lstore, o_astore, o_iinc, o_ipush, o_lpush, o_null, o_ibin, o_ineg, o_lbin, o_ldv, o_lneg, o_lcmp, o_i2l, o_l2i, o_dup, o_pop, o_dupx, o_dup2, o_ic, o_iz, o_nul, o_acmp, o_tsw, o_gI, o_gR, o_pI, o_pZ, o_pR, o_iald, o_bald, o_lald, o_aald, o_iast, o_bast, o_last, o_aast, o_alen, o_newa, o_new, o_mna, o_cast, o_calls, o_callv, o_calli, o_oinit, o_getC, o_refp, o_cpi, o_cpo, o_mmax, o_mmin, o_lmin, o_iret, o_zret, o_lret, o_aret, o_vret, jd_lo, jd_la, jd_nl, jd_pop, List.length_cons, List.length_nil, List.set_cons_zero, List.set_cons_succ, List.getElem?_cons_zero, List.getElem?_cons_succ, List.replicate_succ, List.replicate_zero, List.cons_append, List.nil_append, List.append_nil, Value.category, Option.toList, va_rf, true_implies, false_implies, false_and, and_false, and_true, true_and, and_self, true_or, or_true, false_or, or_false, not_true_eq_false, not_false_eq_true, forall_const, implies_true, if_true, if_false, reduceCtorEq, reduceIte, Nat.reduceAdd, Nat.reduceMul, Nat.reduceSub, Nat.reduceDiv, Nat.reduceMod, Nat.reduceEqDiff, Nat.reduceLeDiff, Nat.reduceLT, Nat.zero_le, Nat.lt_add_one, Nat.le_refl, Nat.sub_zero, Nat.zero_lt_succ, ge_iff_le, ji_m2, ji_m1, ji_0, ji_1, ji_2, ji_3, ji_4, ji_5, ji_6, ji_7, ji_8, ji_10, ji_12, ji_29, ji_30, ji_31, ji_40, ji_60, ji_70, ji_80, ji_81, ji_360, ji_512, ji_972, ji_1000000, ji_2147483639, jl_m1, jl_0, jl_1, cS.1.1, cS.2.1.1]
  refine k_fill (d := d + 3) kk18.1 kk18.2.1 (by decide) (fun h2 e1 e2 e3 e4 e5 e6 e7 e8 => ?_)
  have hF2 : SF ad h h2 := ⟨e1, e3, e4, e6, e5, fun f b _ => by rw [e2], fun b hb => e7 b (hb 18 (by decide) (by decide))⟩
  have hG := SF_AG hF2 cS
  have cS2 := SF_S hF2 cS
  have cA2 := cVA_fr cA hG (fun k _ _ => by unfold Tg; omega) (fun b k _ _ _ j _ _ => by unfold Tg; omega)
  have cI2 := cVI_fr cI hG (fun k _ _ => by unfold Tg; omega) (fun i _ k _ _ => by unfold Tg; omega)
  have cR2 : ∀ a, a < na → cRA h2 ad n s a := fun a ha => cRA_fr (cR a ha) (cA.2 a ha).1 hG (fun k _ _ => by unfold Tg; omega) (fun k _ _ => by unfold Tg; omega) (fun k _ _ => by unfold Tg; omega) (fun k _ _ => by unfold Tg; omega)
  simp only [e15_8, e15_9, o_iload, o_lload, o_aload, o_istore, o_lstore, o_astore, o_iinc, o_ipush, o_lpush, o_null, o_ibin, o_ineg, o_lbin, o_ldv, o_lneg, o_lcmp, o_i2l, o_l2i, o_dup, o_pop, o_dupx, o_dup2, o_ic, o_iz, o_nul, o_acmp, o_tsw, o_gI, o_gR, o_pI, o_pZ, o_pR, o_iald, o_bald, o_lald, o_aald, o_iast, o_bast, o_last, o_aast, o_alen, o_newa, o_new, o_mna, o_cast, o_calls, o_callv, o_calli, o_oinit, o_getC, o_refp, o_cpi, o_cpo, o_mmax, o_mmin, o_lmin, o_iret, o_zret, o_lret, o_aret, o_vret, jd_lo, jd_la, jd_nl, jd_pop, List.length_cons, List.length_nil, List.set_cons_zero, List.set_cons_succ, List.getElem?_cons_zero, List.getElem?_cons_succ, List.replicate_succ, List.replicate_zero, List.cons_append, List.nil_append, List.append_nil, Value.category, Option.toList, va_rf, true_implies, false_implies, false_and, and_false, and_true, true_and, and_self, true_or, or_true, false_or, or_false, not_true_eq_false, not_false_eq_true, forall_const, implies_true, if_true, if_false, reduceCtorEq, reduceIte, Nat.reduceAdd, Nat.reduceMul, Nat.reduceSub, Nat.reduceDiv, Nat.reduceMod, Nat.reduceEqDiff, Nat.reduceLeDiff, Nat.reduceLT, Nat.zero_le, Nat.lt_add_one, Nat.le_refl, Nat.sub_zero, Nat.zero_lt_succ, ge_iff_le, ji_m2, ji_m1, ji_0, ji_1, ji_2, ji_3, ji_4, ji_5, ji_6, ji_7, ji_8, ji_10, ji_12, ji_29, ji_30, ji_31, ji_40, ji_60, ji_70, ji_80, ji_81, ji_360, ji_512, ji_972, ji_1000000, ji_2147483639, jl_m1, jl_0, jl_1]
  refine l_set hI hJ cS2 cI2 cA2 cR2 (fun h3 hF3 hB3 => ?_) na 0 h2 (by omega) SF_r (fun o ho => by rw [e8 o ho]; rfl)
  have cS3 := SF_S hF3 cS2
  simp only [e15_41, e15_42, o_iload, o_lload, o_aload, o_istore, o_lstore, o_astore, o_iinc, o_ipush, o_lpush, o_null, o_ibin, o_ineg, o_lbin, o_ldv, o_lneg, o_lcmp, o_i2l, o_l2i, o_dup, o_pop, o_dupx, o_dup2, o_ic, o_iz, o_nul, o_acmp, o_tsw, o_gI, o_gR, o_pI, o_pZ, o_pR, o_iald, o_bald, o_lald, o_aald, o_iast, o_bast, o_last, o_aast, o_alen, o_newa, o_new, o_mna, o_cast, o_calls, o_callv, o_calli, o_oinit, o_getC, o_refp, o_cpi, o_cpo, o_mmax, o_mmin, o_lmin, o_iret, o_zret, o_lret, o_aret, o_vret, jd_lo, jd_la, jd_nl, jd_pop, List.length_cons, List.length_nil, List.set_cons_zero, List.set_cons_succ, List.getElem?_cons_zero, List.getElem?_cons_succ, List.replicate_succ, List.replicate_zero, List.cons_append, List.nil_append, List.append_nil, Value.category, Option.toList, va_rf, true_implies, false_implies, false_and, and_false, and_true, true_and, and_self, true_or, or_true, false_or, or_false, not_true_eq_false, not_false_eq_true, forall_const, implies_true, if_true, if_false, reduceCtorEq, reduceIte, Nat.reduceAdd, Nat.reduceMul, Nat.reduceSub, Nat.reduceDiv, Nat.reduceMod, Nat.reduceEqDiff, Nat.reduceLeDiff, Nat.reduceLT, Nat.zero_le, Nat.lt_add_one, Nat.le_refl, Nat.sub_zero, Nat.zero_lt_succ, ge_iff_le, ji_m2, ji_m1, ji_0, ji_1, ji_2, ji_3, ji_4, ji_5, ji_6, ji_7, ji_8, ji_10, ji_12, ji_29, ji_30, ji_31, ji_40, ji_60, ji_70, ji_80, ji_81, ji_360, ji_512, ji_972, ji_1000000, ji_2147483639, jl_m1, jl_0, jl_1, cS3.1.1]
  refine k_cpay (d := d + 2) cS3 (bal0 hI hJ na (Nat.le_refl _)) (fun o ho => by have := bal_b hI hJ ho na (Nat.le_refl _); omega) hB3 (fun h4 hF4 hB4 hY4 => ?_)
  simp only [e15_45, o_iload, o_lload, o_aload, o_istore, o_lstore, o_astore, o_iinc, o_ipush, o_lpush, o_null, o_ibin, o_ineg, o_lbin, o_ldv, o_lneg, o_lcmp, o_i2l, o_l2i, o_dup, o_pop, o_dupx, o_dup2, o_ic, o_iz, o_nul, o_acmp, o_tsw, o_gI, o_gR, o_pI, o_pZ, o_pR, o_iald, o_bald, o_lald, o_aald, o_iast, o_bast, o_last, o_aast, o_alen, o_newa, o_new, o_mna, o_cast, o_calls, o_callv, o_calli, o_oinit, o_getC, o_refp, o_cpi, o_cpo, o_mmax, o_mmin, o_lmin, o_iret, o_zret, o_lret, o_aret, o_vret, jd_lo, jd_la, jd_nl, jd_pop, List.length_cons, List.length_nil, List.set_cons_zero, List.set_cons_succ, List.getElem?_cons_zero, List.getElem?_cons_succ, List.replicate_succ, List.replicate_zero, List.cons_append, List.nil_append, List.append_nil, Value.category, Option.toList, va_rf, true_implies, false_implies, false_and, and_false, and_true, true_and, and_self, true_or, or_true, false_or, or_false, not_true_eq_false, not_false_eq_true, forall_const, implies_true, if_true, if_false, reduceCtorEq, reduceIte, Nat.reduceAdd, Nat.reduceMul, Nat.reduceSub, Nat.reduceDiv, Nat.reduceMod, Nat.reduceEqDiff, Nat.reduceLeDiff, Nat.reduceLT, Nat.zero_le, Nat.lt_add_one, Nat.le_refl, Nat.sub_zero, Nat.zero_lt_succ, ge_iff_le, ji_m2, ji_m1, ji_0, ji_1, ji_2, ji_3, ji_4, ji_5, ji_6, ji_7, ji_8, ji_10, ji_12, ji_29, ji_30, ji_31, ji_40, ji_60, ji_70, ji_80, ji_81, ji_360, ji_512, ji_972, ji_1000000, ji_2147483639, jl_m1, jl_0, jl_1]
  exact hQ h4 (SF_t hF2 (SF_t hF3 hF4)) hB4 hY4
/-- acts keep what was done in them when one is recorded -/
theorem cVA_RF {F : Nat → Nat → Nat → Int32} {sp : Nat → Nat → Int32} (c : cVA h tg ad v na F sp) (cJ : cVJ h tg aj) (ha : a < na) (hna : na ≤ 12) (x : RF ad aj a h h1) : cVA h1 tg ad v na F sp := by
  have oa := (c.2 a ha).1
  have hG := RF_AG x cJ oa
  refine ⟨vLS_fr c.1 hG (by unfold Tg; omega), fun b hb => ⟨RF_o x (c.2 b hb).1, ?_⟩⟩
  by_cases e : b = a
  · subst e
    obtain ⟨c1, c2, c3, c4⟩ := (c.2 b hb).2
    have w : ∀ k, k < 7 → k ≠ 3 → k ≠ 4 → k ≠ 6 → zA h1 (ad (7 + k) b) = zA h (ad (7 + k) b) := fun k hk h3 h4 h6 => x.2.2.2.2.2.1 _ (cAo_ne oa (k := k) (l := 3) hk (by decide) h3) (cAo_ne oa (k := k) (l := 4) hk (by decide) h4) (cAo_ne oa (k := k) (l := 6) hk (by decide) h6)
    refine ⟨fun i hi => ?_, fun o ho => ?_, ?_, ?_⟩
    · have := c1 i hi
      rw [← w 0 (by decide) (by decide) (by decide) (by decide), ← w 1 (by decide) (by decide) (by decide) (by decide), ← w 2 (by decide) (by decide) (by decide) (by decide)] at this
      exact this
    · have := c2 o ho
      rw [← w 5 (by decide) (by decide) (by decide) (by decide)] at this
      exact this
    · rw [x.2.2.2.2.1 135 _ (fun z => by omega)]; exact c3
    · rw [x.2.2.2.2.1 136 _ (fun z => by omega)]; exact c4
  · exact cAc_fr (c.2 b hb).1 (c.2 b hb).2 hG (by unfold Tg; omega) (by unfold Tg; omega) (by unfold Tg; omega) (by unfold Tg; omega) (by unfold Tg; omega)
theorem cVA_JF {F : Nat → Nat → Nat → Int32} {sp : Nat → Nat → Int32} (c : cVA h tg ad v na F sp) (cJ : cVJ h tg aj) (x : JF aj h h1) : cVA h1 tg ad v na F sp := cVA_fr c (JF_AG x cJ) (by unfold Tg; omega) (fun a k _ _ _ => by unfold Tg; omega)
theorem RF_PE (x : RF ad aj a h h1) (c : cVJ h tg aj) (o : cAo h tg ad v a) (ha : a < 12) : AG (PE v) h h1 tg tg := AG_w (RF_AG x c o) (fun u hu => by
  unfold PE Tg at hu
  unfold Tg
  omega)
theorem RF_PA (x : RF ad aj a h h1) (c : cVJ h tg aj) (o : cAo h tg ad v a) (ha : a < 12) : AG (PA v) h h1 tg tg := AG_w (RF_AG x c o) (fun u hu => by
  unfold PA Tg at hu
  unfold Tg
  omega)
theorem JF_PA (x : JF aj h h1) (c : cVJ h tg aj) : AG (PA v) h h1 tg tg := AG_w (JF_AG x c) (fun u hu => hu.1)
theorem PA_PE {t2 : Nat → Nat} (x : AG (PA v) h h1 tg t2) : AG (PE v) h h1 tg t2 := AG_w x (fun u hu => ⟨hu.1, hu.2.2.1⟩)
theorem JF_PE (x : JF aj h h1) (c : cVJ h tg aj) : AG (PE v) h h1 tg tg := AG_w (JF_AG x c) (fun u hu => hu.1)
set_option maxRecDepth 100000 in
/-- the acts, the latest first -/
theorem l_ae (hI : IV pp s n lo na p) (hJ : JV q s n na p) {V : Nat} (kV : zK h V = 7) (tV : tg V = Tg v 0 0) (r449 : zR h 449 V = some (ad 4 0)) (r454 : zR h 454 V = some (aj 0)) (cJ : cVJ h tg aj) (cA : cVA h tg ad v na s.2.2.1 s.2.2.2)
    (hex : ∀ h2 x, AG (PA v) h h2 tg tg → cVJ h2 tg aj → cVA h2 tg ad v na s.2.2.1 s.2.2.2 → (∀ i, i < n → zA h2 (aj 1) i = nI (hs s (-1) na i)) → (∀ a, a < na → cRA h2 ad n s a) → (∀ i f, i < 81 → zK h (ad 3 i) = 5 → zI h2 f (ad 3 i) = zI h f (ad 3 i)) → jd_w g (d + 3) 41 Q 81 [some (.ref V), some (.int x)] [] h2 0 0) :
    ∀ (b : Nat) (h1 : jd_H), b ≤ na → AG (PA v) h h1 tg tg → cVJ h1 tg aj → zI h1 196 (aj 0) = nI n → cVA h1 tg ad v na s.2.2.1 s.2.2.2 → (∀ i, i < n → zA h1 (aj 1) i = nI (hs s (-1) (na - b) i)) → (∀ a, b ≤ a → a < na → cRA h1 ad n s a) → (∀ i f, i < 81 → zK h (ad 3 i) = 5 → zI h1 f (ad 3 i) = zI h f (ad 3 i)) → jd_w g (d + 3) 41 Q 31 [some (.ref V), some (.int (nI b - 1))] [] h1 0 0 := by
  have hn81 := IV_81 hI
  have hna := hI.2.2.1.2
  intro b
  induction b with
  | zero =>
    intro h1 hb hG cJ1 h196 cA1 hH hR h3
    have hlt : nI 0 - 1 < 0 := by decide
    rw [e41_31]
    simp only [e41_32, o_iload, o_lload, o_aload, o_istore, o_lstore, o_astore, o_iinc, o_ipush, o_lpush, o_null, o_ibin, o_ineg, o_lbin, o_ldv, o_lneg, o_lcmp, o_i2l, o_l2i, o_dup, o_pop, o_dupx, o_dup2, o_ic, o_iz, o_nul, o_acmp, o_tsw, o_gI, o_gR, o_pI, o_pZ, o_pR, o_iald, o_bald, o_lald, o_aald, o_iast, o_bast, o_last, o_aast, o_alen, o_newa, o_new, o_mna, o_cast, o_calls, o_callv, o_calli, o_oinit, o_getC, o_refp, o_cpi, o_cpo, o_mmax, o_mmin, o_lmin, o_iret, o_zret, o_lret, o_aret, o_vret, jd_lo, jd_la, jd_nl, jd_pop, List.length_cons, List.length_nil, List.set_cons_zero, List.set_cons_succ, List.getElem?_cons_zero, List.getElem?_cons_succ, List.replicate_succ, List.replicate_zero, List.cons_append, List.nil_append, List.append_nil, Value.category, Option.toList, va_rf, true_implies, false_implies, false_and, and_false, and_true, true_and, and_self, true_or, or_true, false_or, or_false, not_true_eq_false, not_false_eq_true, forall_const, implies_true, if_true, if_false, reduceCtorEq, reduceIte, Nat.reduceAdd, Nat.reduceMul, Nat.reduceSub, Nat.reduceDiv, Nat.reduceMod, Nat.reduceEqDiff, Nat.reduceLeDiff, Nat.reduceLT, Nat.zero_le, Nat.lt_add_one, Nat.le_refl, Nat.sub_zero, Nat.zero_lt_succ, ge_iff_le, ji_m2, ji_m1, ji_0, ji_1, ji_2, ji_3, ji_4, ji_5, ji_6, ji_7, ji_8, ji_10, ji_12, ji_29, ji_30, ji_31, ji_40, ji_60, ji_70, ji_80, ji_81, ji_360, ji_512, ji_972, ji_1000000, ji_2147483639, jl_m1, jl_0, jl_1, hlt]
    exact hex h1 _ hG cJ1 cA1 hH (fun a ha => hR a (Nat.zero_le _) ha) h3
  | succ b ih =>
    intro h1 hb hG cJ1 h196 cA1 hH hR h3
    have hbn : b < na := by omega
    have hnlt : ¬ nI b < 0 := nI_pos (by omega)
    have pV : PA v (tg V) := by rw [tV]; unfold PA Tg; omega
    have kV1 : zK h1 V = 7 := AG_K hG kV (by decide)
    have q449 : zR h1 449 V = some (ad 4 0) := (AG_R hG (by rw [kV]; decide) pV 449).trans r449
    have q454 : zR h1 454 V = some (aj 0) := (AG_R hG (by rw [kV]; decide) pV 454).trans r454
    have eA : hA s (-1) b = hs s (-1) (na - (b + 1)) := by
      unfold hA
      rw [IV_ca hI]
      congr 1
      omega
    have hao : ¬ nI b = -1 := jm1 (by omega)
    have ob := (cA1.2 b hbn).1
    have cAJb : cAJ h1 tg ad aj v n b s (hA s (-1) b) := ⟨cJ1, h196, by rw [eA]; exact hH, ob, (cA1.2 b hbn).2⟩
    rw [nI_pred, e41_31]
    simp only [e41_32, e41_35, e41_36, e41_39, e41_40, e41_43, e41_44, o_iload, o_lload, o_aload, o_istore, o_lstore, o_astore, o_iinc, o_ipush, o_lpush, o_null, o_ibin, o_ineg, o_lbin, o_ldv, o_lneg, o_lcmp, o_i2l, o_l2i, o_dup, o_pop, o_dupx, o_dup2, o_ic, o_iz, o_nul, o_acmp, o_tsw, o_gI, o_gR, o_pI, o_pZ, o_pR, o_iald, o_bald, o_lald, o_aald, o_iast, o_bast, o_last, o_aast, o_alen, o_newa, o_new, o_mna, o_cast, o_calls, o_callv, o_calli, o_oinit, o_getC, o_refp, o_cpi, o_cpo, o_mmax, o_mmin, o_lmin, o_iret, o_zret, o_lret, o_aret, o_vret, jd_lo, jd_la, jd_nl, jd_pop, List.length_cons, List.length_nil, List.set_cons_zero, List.set_cons_succ, List.getElem?_cons_zero, List.getElem?_cons_succ, List.replicate_succ, List.replicate_zero, List.cons_append, List.nil_append, List.append_nil, Value.category, Option.toList, va_rf, true_implies, false_implies, false_and, and_false, and_true, true_and, and_self, true_or, or_true, false_or, or_false, not_true_eq_false, not_false_eq_true, forall_const, implies_true, if_true, if_false, reduceCtorEq, reduceIte, Nat.reduceAdd, Nat.reduceMul, Nat.reduceSub, Nat.reduceDiv, Nat.reduceMod, Nat.reduceEqDiff, Nat.reduceLeDiff, Nat.reduceLT, Nat.zero_le, Nat.lt_add_one, Nat.le_refl, Nat.sub_zero, Nat.zero_lt_succ, ge_iff_le, ji_m2, ji_m1, ji_0, ji_1, ji_2, ji_3, ji_4, ji_5, ji_6, ji_7, ji_8, ji_10, ji_12, ji_29, ji_30, ji_31, ji_40, ji_60, ji_70, ji_80, ji_81, ji_360, ji_512, ji_972, ji_1000000, ji_2147483639, jl_m1, jl_0, jl_1, hnlt, kV1, q449, q454, vLS_K cA1.1]
    refine k_lget (d := d) cA1.1 hbn ?_
    simp only [e41_49, e41_52, o_iload, o_lload, o_aload, o_istore, o_lstore, o_astore, o_iinc, o_ipush, o_lpush, o_null, o_ibin, o_ineg, o_lbin, o_ldv, o_lneg, o_lcmp, o_i2l, o_l2i, o_dup, o_pop, o_dupx, o_dup2, o_ic, o_iz, o_nul, o_acmp, o_tsw, o_gI, o_gR, o_pI, o_pZ, o_pR, o_iald, o_bald, o_lald, o_aald, o_iast, o_bast, o_last, o_aast, o_alen, o_newa, o_new, o_mna, o_cast, o_calls, o_callv, o_calli, o_oinit, o_getC, o_refp, o_cpi, o_cpo, o_mmax, o_mmin, o_lmin, o_iret, o_zret, o_lret, o_aret, o_vret, jd_lo, jd_la, jd_nl, jd_pop, List.length_cons, List.length_nil, List.set_cons_zero, List.set_cons_succ, List.getElem?_cons_zero, List.getElem?_cons_succ, List.replicate_succ, List.replicate_zero, List.cons_append, List.nil_append, List.append_nil, Value.category, Option.toList, va_rf, true_implies, false_implies, false_and, and_false, and_true, true_and, and_self, true_or, or_true, false_or, or_false, not_true_eq_false, not_false_eq_true, forall_const, implies_true, if_true, if_false, reduceCtorEq, reduceIte, Nat.reduceAdd, Nat.reduceMul, Nat.reduceSub, Nat.reduceDiv, Nat.reduceMod, Nat.reduceEqDiff, Nat.reduceLeDiff, Nat.reduceLT, Nat.zero_le, Nat.lt_add_one, Nat.le_refl, Nat.sub_zero, Nat.zero_lt_succ, ge_iff_le, ji_m2, ji_m1, ji_0, ji_1, ji_2, ji_3, ji_4, ji_5, ji_6, ji_7, ji_8, ji_10, ji_12, ji_29, ji_30, ji_31, ji_40, ji_60, ji_70, ji_80, ji_81, ji_360, ji_512, ji_972, ji_1000000, ji_2147483639, jl_m1, jl_0, jl_1, ob.1.1, cJ1.1.1]
    refine k_cadj (d := d) hI hJ hbn hao cAJb (fun i hi => hA_b hI hJ hi hbn) (fun h2 hF2 h2p h2x h2s h2a hA2 => ?_)
    have cJ2 := JF_J hF2 cJ1
    have cA2 := cVA_JF cA1 cJ1 hF2
    have hG2 : AG (PA v) h h2 tg tg := AG_t hG (JF_PA hF2 cJ1)
    have kV2 : zK h2 V = 7 := AG_K hG2 kV (by decide)
    have w449 : zR h2 449 V = some (ad 4 0) := (AG_R hG2 (by rw [kV]; decide) pV 449).trans r449
    have w454 : zR h2 454 V = some (aj 0) := (AG_R hG2 (by rw [kV]; decide) pV 454).trans r454
    have ob2 := (cA2.2 b hbn).1
    simp only [e41_55, e41_56, e41_59, e41_60, e41_63, e41_64, o_iload, o_lload, o_aload, o_istore, o_lstore, o_astore, o_iinc, o_ipush, o_lpush, o_null, o_ibin, o_ineg, o_lbin, o_ldv, o_lneg, o_lcmp, o_i2l, o_l2i, o_dup, o_pop, o_dupx, o_dup2, o_ic, o_iz, o_nul, o_acmp, o_tsw, o_gI, o_gR, o_pI, o_pZ, o_pR, o_iald, o_bald, o_lald, o_aald, o_iast, o_bast, o_last, o_aast, o_alen, o_newa, o_new, o_mna, o_cast, o_calls, o_callv, o_calli, o_oinit, o_getC, o_refp, o_cpi, o_cpo, o_mmax, o_mmin, o_lmin, o_iret, o_zret, o_lret, o_aret, o_vret, jd_lo, jd_la, jd_nl, jd_pop, List.length_cons, List.length_nil, List.set_cons_zero, List.set_cons_succ, List.getElem?_cons_zero, List.getElem?_cons_succ, List.replicate_succ, List.replicate_zero, List.cons_append, List.nil_append, List.append_nil, Value.category, Option.toList, va_rf, true_implies, false_implies, false_and, and_false, and_true, true_and, and_self, true_or, or_true, false_or, or_false, not_true_eq_false, not_false_eq_true, forall_const, implies_true, if_true, if_false, reduceCtorEq, reduceIte, Nat.reduceAdd, Nat.reduceMul, Nat.reduceSub, Nat.reduceDiv, Nat.reduceMod, Nat.reduceEqDiff, Nat.reduceLeDiff, Nat.reduceLT, Nat.zero_le, Nat.lt_add_one, Nat.le_refl, Nat.sub_zero, Nat.zero_lt_succ, ge_iff_le, ji_m2, ji_m1, ji_0, ji_1, ji_2, ji_3, ji_4, ji_5, ji_6, ji_7, ji_8, ji_10, ji_12, ji_29, ji_30, ji_31, ji_40, ji_60, ji_70, ji_80, ji_81, ji_360, ji_512, ji_972, ji_1000000, ji_2147483639, jl_m1, jl_0, jl_1, kV2, w449, w454, vLS_K cA2.1]
    refine k_lget (d := d) cA2.1 hbn ?_
    simp only [e41_69, e41_72, o_iload, o_lload, o_aload, o_istore, o_lstore, o_astore, o_iinc, o_ipush, o_lpush, o_null, o_ibin, o_ineg, o_lbin, o_ldv, o_lneg, o_lcmp, o_i2l, o_l2i, o_dup, o_pop, o_dupx, o_dup2, o_ic, o_iz, o_nul, o_acmp, o_tsw, o_gI, o_gR, o_pI, o_pZ, o_pR, o_iald, o_bald, o_lald, o_aald, o_iast, o_bast, o_last, o_aast, o_alen, o_newa, o_new, o_mna, o_cast, o_calls, o_callv, o_calli, o_oinit, o_getC, o_refp, o_cpi, o_cpo, o_mmax, o_mmin, o_lmin, o_iret, o_zret, o_lret, o_aret, o_vret, jd_lo, jd_la, jd_nl, jd_pop, List.length_cons, List.length_nil, List.set_cons_zero, List.set_cons_succ, List.getElem?_cons_zero, List.getElem?_cons_succ, List.replicate_succ, List.replicate_zero, List.cons_append, List.nil_append, List.append_nil, Value.category, Option.toList, va_rf, true_implies, false_implies, false_and, and_false, and_true, true_and, and_self, true_or, or_true, false_or, or_false, not_true_eq_false, not_false_eq_true, forall_const, implies_true, if_true, if_false, reduceCtorEq, reduceIte, Nat.reduceAdd, Nat.reduceMul, Nat.reduceSub, Nat.reduceDiv, Nat.reduceMod, Nat.reduceEqDiff, Nat.reduceLeDiff, Nat.reduceLT, Nat.zero_le, Nat.lt_add_one, Nat.le_refl, Nat.sub_zero, Nat.zero_lt_succ, ge_iff_le, ji_m2, ji_m1, ji_0, ji_1, ji_2, ji_3, ji_4, ji_5, ji_6, ji_7, ji_8, ji_10, ji_12, ji_29, ji_30, ji_31, ji_40, ji_60, ji_70, ji_80, ji_81, ji_360, ji_512, ji_972, ji_1000000, ji_2147483639, jl_m1, jl_0, jl_1, ob2.1.1, cJ2.1.1]
    refine k_crec (d := d) (W := aSp s (-1) b) cJ2 ob2 hn81 h2p h2x ?_ (fun i hi => ⟨?_, aSp_le hI hJ hbn hi⟩) (fun h3' hF3 h3p h3g h3x h3s h3a => ?_)
    · have h1 := aEx_le (s := s) (hA s (-1) b) b (-1)
      have h2 : sm (aSp s (-1) b) 30 ≤ 30 * 1000000 := sm_b 30 (fun o ho => aSp_le hI hJ hbn ho)
      omega
    · rw [(cA2.2 b hbn).2.2.1 i hi]
      unfold aSp
      rw [if_neg hao]
      exact (aSp_b hI hJ hbn hi).2
    have em : nI b + (-1) = nI b - 1 := (Int32.sub_eq_add_neg _ _).symm
    simp only [e41_75, e41_78, o_iload, o_lload, o_aload, o_istore, o_lstore, o_astore, o_iinc, o_ipush, o_lpush, o_null, o_ibin, o_ineg, o_lbin, o_ldv, o_lneg, o_lcmp, o_i2l, o_l2i, o_dup, o_pop, o_dupx, o_dup2, o_ic, o_iz, o_nul, o_acmp, o_tsw, o_gI, o_gR, o_pI, o_pZ, o_pR, o_iald, o_bald, o_lald, o_aald, o_iast, o_bast, o_last, o_aast, o_alen, o_newa, o_new, o_mna, o_cast, o_calls, o_callv, o_calli, o_oinit, o_getC, o_refp, o_cpi, o_cpo, o_mmax, o_mmin, o_lmin, o_iret, o_zret, o_lret, o_aret, o_vret, jd_lo, jd_la, jd_nl, jd_pop, List.length_cons, List.length_nil, List.set_cons_zero, List.set_cons_succ, List.getElem?_cons_zero, List.getElem?_cons_succ, List.replicate_succ, List.replicate_zero, List.cons_append, List.nil_append, List.append_nil, Value.category, Option.toList, va_rf, true_implies, false_implies, false_and, and_false, and_true, true_and, and_self, true_or, or_true, false_or, or_false, not_true_eq_false, not_false_eq_true, forall_const, implies_true, if_true, if_false, reduceCtorEq, reduceIte, Nat.reduceAdd, Nat.reduceMul, Nat.reduceSub, Nat.reduceDiv, Nat.reduceMod, Nat.reduceEqDiff, Nat.reduceLeDiff, Nat.reduceLT, Nat.zero_le, Nat.lt_add_one, Nat.le_refl, Nat.sub_zero, Nat.zero_lt_succ, ge_iff_le, ji_m2, ji_m1, ji_0, ji_1, ji_2, ji_3, ji_4, ji_5, ji_6, ji_7, ji_8, ji_10, ji_12, ji_29, ji_30, ji_31, ji_40, ji_60, ji_70, ji_80, ji_81, ji_360, ji_512, ji_972, ji_1000000, ji_2147483639, jl_m1, jl_0, jl_1, em]
    refine ih h3' (by omega) (AG_t hG2 (RF_PA hF3 cJ2 ob2 (by omega))) (RF_J hF3 cJ2) ?_ (cVA_RF cA2 cJ2 hbn hna hF3) (fun i hi => ?_) (fun a h1 h2 => ?_) (fun i f hi k5 => ?_)
    · rw [hF3.2.2.2.2.1 196 _ (fun z => by omega)]; exact h2p
    · have nj : ∀ k, k < 7 → ¬ aj 1 = ad (7 + k) b := fun k hk z => cAo_aj ob2 cJ2 hk (j := 1) (by decide) z.symm
      rw [hF3.2.2.2.2.2.1 _ (nj 3 (by decide)) (nj 4 (by decide)) (nj 6 (by decide)), (hA2 i hi).1, eA, show na - b = (na - (b + 1)) + 1 by omega]
      show _ = nI (aStep s (-1) (hs s (-1) (na - (b + 1))) (ca s - 1 - (na - (b + 1))) i)
      rw [IV_ca hI, show na - 1 - (na - (b + 1)) = b by omega]
    · by_cases e : a = b
      · subst e
        refine ⟨fun i hi => ?_, h3g, h3x, ?_, ?_⟩
        · rw [(h3p i hi).1, (h3p i hi).2]
          exact ⟨(hA2 i hi).2.1, (hA2 i hi).2.2⟩
        · rw [h3s]; exact h2s
        · rw [h3a]; exact h2a
      · have r1 := hR a (by omega) h2
        have r2 := cRA_fr r1 (cA1.2 a h2).1 (JF_AG hF2 cJ1) (by unfold Tg; omega) (by unfold Tg; omega) (by unfold Tg; omega) (by unfold Tg; omega)
        exact cRA_fr r2 (cA2.2 a h2).1 (RF_AG hF3 cJ2 ob2) (by unfold Tg; omega) (by unfold Tg; omega) (by unfold Tg; omega) (by unfold Tg; omega)
    · have k51 : zK h1 (ad 3 i) = 5 := AG_K hG k5 (by decide)
      have k52 : zK h2 (ad 3 i) = 5 := AG_K hG2 k5 (by decide)
      rw [hF3.2.2.2.2.1 f _ (fun z => by rw [z.1, ob2.1.1] at k52; exact absurd k52 (by decide)), hF2.2.2.2.2.1 f _ (fun z => by rw [z.1, cJ1.1.1] at k51; exact absurd k51 (by decide))]
      exact h3 i f hi k5
end
