/-! the class: what was adjusted is written into the act -/
def RF (ad : Nat → Nat → Nat) (aj : Nat → Nat) (a : Nat) (h h' : jd_H) : Prop := zK h' = zK h ∧ zR h' = zR h ∧ zL h' = zL h ∧ zO h' = zO h ∧ (∀ f b, ¬ (b = ad 6 a ∧ 137 ≤ f ∧ f ≤ 139) → zI h' f b = zI h f b) ∧ (∀ b, b ≠ ad 10 a → b ≠ ad 11 a → b ≠ ad 13 a → zA h' b = zA h b) ∧ ∀ b, b ≠ aj 4 → zJ h' b = zJ h b
section
variable {g d : Nat} {h h1 : jd_H} {Q : jd_Q} {tg aj : Nat → Nat} {ad : Nat → Nat → Nat} {v n a S : Nat} {W : Nat → Nat}
theorem cAo_aj {k j : Nat} (o : cAo h tg ad v a) (c : cVJ h tg aj) (hk : k < 7) (hj : j ≤ 4) : ¬ ad (7 + k) a = aj j := fun z => by
  have t : tg (aj j) = 200 + j := by
    by_cases e : j = 0
    · subst e; exact c.1.2
    · exact (c.2.2.2 j (by omega) hj).2
  have := (o.2 k hk).2.1
  rw [z, t] at this
  unfold Tg at this
  omega
set_option maxRecDepth 100000 in
theorem k_crec (c : cVJ h tg aj) (o : cAo h tg ad v a) (hn : n ≤ 81) (h196 : zI h 196 (aj 0) = nI n) (h197 : zI h 197 (aj 0) = nI S) (hS : S ≤ 81000000) (hW : ∀ i, i < 30 → zA h (ad 12 a) i = nI (W i) ∧ W i ≤ 1000000)
    (hQ : ∀ h', RF ad aj a h h' → (∀ i, i < n → zA h' (ad 10 a) i = zA h (aj 2) i ∧ zA h' (ad 11 a) i = zA h (aj 3) i) → (∀ i, i < 30 → zA h' (ad 13 a) i = nI (dv 30 S W i)) → zI h' 137 (ad 6 a) = nI S → zI h' 138 (ad 6 a) = zI h 198 (aj 0) → zI h' 139 (ad 6 a) = zI h 199 (aj 0) → Q none h') :
    jd_WM g (d + 3) 6 [.ref (aj 0), .ref (ad 6 a)] h Q := by
  refine ⟨Nat.le_of_ble_eq_true rfl, ?_⟩; show jd_w g (d + 2) 6 Q 0 [some (.ref (aj 0)), some (.ref (ad 6 a))] [] h 0 0
  have r10 : zR h 131 (ad 6 a) = some (ad 10 a) := cAo_R o (k := 3) (by decide)
  have r11 : zR h 132 (ad 6 a) = some (ad 11 a) := cAo_R o (k := 4) (by decide)
  have r12 : zR h 133 (ad 6 a) = some (ad 12 a) := cAo_R o (k := 5) (by decide)
  have r13 : zR h 134 (ad 6 a) = some (ad 13 a) := cAo_R o (k := 6) (by decide)
  have k10 : zK h (ad 10 a) = 10 := (o.2 3 (by decide)).2.2.1
  have k11 : zK h (ad 11 a) = 10 := (o.2 4 (by decide)).2.2.1
  have k12 : zK h (ad 12 a) = 10 := (o.2 5 (by decide)).2.2.1
  have k13 : zK h (ad 13 a) = 10 := (o.2 6 (by decide)).2.2.1
  have l10 : zL h (ad 10 a) = 81 := (o.2 3 (by decide)).2.2.2
  have l11 : zL h (ad 11 a) = 81 := (o.2 4 (by decide)).2.2.2
  have l12 : zL h (ad 12 a) = 30 := (o.2 5 (by decide)).2.2.2
  have l13 : zL h (ad 13 a) = 30 := (o.2 6 (by decide)).2.2.2
  have L2 := (c.2.2.2 2 (by decide) (by decide)).1
  have L3 := (c.2.2.2 3 (by decide) (by decide)).1
  have L4 := (c.2.2.2 4 (by decide) (by decide)).1
  have ncl : (nI n).toNatClampNeg = n := jn_cl (show n < 82 by omega) (by decide)
  have nl : ¬ nI n < 0 := nI_pos (by omega)
  have n00 : ¬ (0 : Int32) < 0 := by decide
  have nd : ¬ ad 6 a = aj 0 := fun z => by
    have := o.1.1
    rw [z, c.1.1] at this
    exact absurd this (by decide)
  simp only [e6_0, e6_1, e6_4, e6_5, e6_6, e6_9, e6_10, e6_11, e6_14, e6_17, e6_18, e6_21, e6_22, e6_23, e6_26, e6_27, e6_28, e6_31, e6_34, e6_35, e6_36, e6_39, e6_42, e6_43, e6_44, e6_47, e6_50, e6_51, e6_52, e6_55, o_iload, o_lload, o_aload, o_istore, o_lstore, o_astore, o_iinc, o_ipush, o_lpush, o_null, o_ibin, o_ineg, o_lbin, o_ldv, o_lneg, o_lcmp, o_i2l, o_l2i, o_dup, o_pop, o_dupx, o_dup2, o_ic, o_iz, o_nul, o_acmp, o_tsw, o_gI, o_gR, o_pI, o_pZ, o_pR, o_iald, o_bald, o_lald, o_aald, o_iast, o_bast, o_last, o_aast, o_alen, o_newa, o_new, o_mna, o_cast, o_calls, o_callv, o_calli, o_oinit, o_getC, o_refp, o_cpi, o_cpo, o_mmax, o_mmin, o_lmin, o_iret, o_zret, o_lret, o_aret, o_vret, jd_lo, jd_la, jd_nl, jd_pop, List.length_cons, List.length_nil, List.set_cons_zero, List.set_cons_succ, List.getElem?_cons_zero, List.getElem?_cons_succ, List.replicate_succ, List.replicate_zero, List.cons_append, List.nil_append, List.append_nil, Value.category, Option.toList, va_rf, true_implies, false_implies, false_and, and_false, and_true, true_and, and_self, true_or, or_true, false_or, or_false, not_true_eq_false, not_false_eq_true, forall_const, implies_true, if_true, if_false, reduceCtorEq, reduceIte, Nat.reduceAdd, Nat.reduceMul, Nat.reduceSub, Nat.reduceDiv, Nat.reduceMod, Nat.reduceEqDiff, Nat.reduceLeDiff, Nat.reduceLT, Nat.zero_le, Nat.lt_add_one, Nat.le_refl, Nat.sub_zero, Nat.zero_lt_succ, ge_iff_le, ji_m2, ji_m1, ji_0, ji_1, ji_2, ji_3, ji_4, ji_5, ji_6, ji_7, ji_8, ji_10, ji_12, ji_29, ji_30, ji_31, ji_40, ji_60, ji_70, ji_80, ji_81, ji_360, ji_512, ji_972, ji_1000000, ji_2147483639, jl_m1, jl_0, jl_1, rw_KI, rw_II, rw_RI, rw_LI, rw_AI, rw_JI, rw_OI, rw_KR, rw_IR, rw_RR, rw_LR, rw_AR, rw_JR, rw_OR, rw_KA, rw_IA, rw_RA, rw_LA, rw_AA, rw_JA, rw_OA, rw_KJ, rw_IJ, rw_RJ, rw_LJ, rw_AJ, rw_JJ, rw_OJ, rw_KO, rw_IO, rw_RO, rw_LO, rw_AO, rw_JO, rw_OO, rw_KAr, rw_IAr, rw_RAr, rw_LAr, rw_AAr, rw_JAr, rw_OAr, rw_KOr, rw_IOr, rw_ROr, rw_LOr, rw_AOr, rw_JOr, rw_OOr, rw_KN, rw_IN, rw_RN, rw_LN, rw_AN, rw_JN, rw_ON, rw_KY, rw_IY, rw_RY, rw_LY, rw_AY, rw_JY, rw_OY, c.1.1, c.2.1.2.1, c.2.1.2.2.1, c.2.2.1.2.1, c.2.2.1.2.2.1, o.1.1, r10, r11, k10, k11, l10, l11, L2, L3, h196, ncl, nl, n00, j0cl, Nat.zero_add, hn]
  generalize h2e : wAr (wAr h (ad 10 a) (va_cpy (zA h (aj 2)) (zA h (ad 10 a)) 0 0 n)) (ad 11 a) (va_cpy (zA (wAr h (ad 10 a) (va_cpy (zA h (aj 2)) (zA h (ad 10 a)) 0 0 n)) (aj 3)) (zA (wAr h (ad 10 a) (va_cpy (zA h (aj 2)) (zA h (ad 10 a)) 0 0 n)) (ad 11 a)) 0 0 n) = h2
  have e2 : zK h2 = zK h ∧ zI h2 = zI h ∧ zR h2 = zR h ∧ zL h2 = zL h ∧ zO h2 = zO h ∧ zJ h2 = zJ h := by rw [← h2e]; exact ⟨rfl, rfl, rfl, rfl, rfl, rfl⟩
  have n1011 : ¬ ad 10 a = ad 11 a := cAo_ne o (k := 3) (l := 4) (by decide) (by decide) (by decide)
  have n310 : ¬ aj 3 = ad 10 a := fun z => cAo_aj o c (k := 3) (j := 3) (by decide) (by decide) z.symm
  have a2 : ∀ b, b ≠ ad 10 a → b ≠ ad 11 a → zA h2 b = zA h b := fun b p q => by
    rw [← h2e]
    funext j
    rw [rw_AAr, if_neg q, rw_AAr, if_neg p]
  have a10 : ∀ i, i < n → zA h2 (ad 10 a) i = zA h (aj 2) i := fun i hi => by
    rw [← h2e, rw_AAr, if_neg n1011, rw_AAr, if_pos rfl, pk_cpy_in (by omega) (by omega), Nat.zero_add, Nat.sub_zero]
  have a11 : ∀ i, i < n → zA h2 (ad 11 a) i = zA h (aj 3) i := fun i hi => by
    rw [← h2e, rw_AAr, if_pos rfl, pk_cpy_in (by omega) (by omega), Nat.zero_add, Nat.sub_zero, rw_AAr, if_neg n310]
  have i2 : ∀ f b, zI h2 f b = zI h f b := fun f b => by rw [e2.2.1]
  simp only [e6_58, e6_59, e6_60, e6_63, e6_64, e6_67, e6_69, e6_70, e6_73, o_iload, o_lload, o_aload, o_istore, o_lstore, o_astore, o_iinc, o_ipush, o_lpush, o_null, o_ibin, o_ineg, o_lbin, o_ldv, o_lneg, o_lcmp, o_i2l, o_l2i, o_dup, o_pop, o_dupx, o_dup2, o_ic, o_iz, o_nul, o_acmp, o_tsw, o_gI, o_gR, o_pI, o_pZ, o_pR, o_iald, o_bald, o_lald, o_aald, o_iast, o_bast, o_last, o_aast, o_alen, o_newa, o_new, o_mna, o_cast, o_calls, o_callv, o_calli, o_oinit, o_getC, o_refp, o_cpi, o_cpo, o_mmax, o_mmin, o_lmin, o_iret, o_zret, o_lret, o_aret, o_vret, jd_lo, jd_la, jd_nl, jd_pop, List.length_cons, List.length_nil, List.set_cons_zero, List.set_cons_succ, List.getElem?_cons_zero, List.getElem?_cons_succ, List.replicate_succ, List.replicate_zero, List.cons_append, List.nil_append, List.append_nil, Value.category, Option.toList, va_rf, true_implies, false_implies, false_and, and_false, and_true, true_and, and_self, true_or, or_true, false_or, or_false, not_true_eq_false, not_false_eq_true, forall_const, implies_true, if_true, if_false, reduceCtorEq, reduceIte, Nat.reduceAdd, Nat.reduceMul, Nat.reduceSub, Nat.reduceDiv, Nat.reduceMod, Nat.reduceEqDiff, Nat.reduceLeDiff, Nat.reduceLT, Nat.zero_le, Nat.lt_add_one, Nat.le_refl, Nat.sub_zero, Nat.zero_lt_succ, ge_iff_le, ji_m2, ji_m1, ji_0, ji_1, ji_2, ji_3, ji_4, ji_5, ji_6, ji_7, ji_8, ji_10, ji_12, ji_29, ji_30, ji_31, ji_40, ji_60, ji_70, ji_80, ji_81, ji_360, ji_512, ji_972, ji_1000000, ji_2147483639, jl_m1, jl_0, jl_1, rw_KI, rw_II, rw_RI, rw_LI, rw_AI, rw_JI, rw_OI, rw_KR, rw_IR, rw_RR, rw_LR, rw_AR, rw_JR, rw_OR, rw_KA, rw_IA, rw_RA, rw_LA, rw_AA, rw_JA, rw_OA, rw_KJ, rw_IJ, rw_RJ, rw_LJ, rw_AJ, rw_JJ, rw_OJ, rw_KO, rw_IO, rw_RO, rw_LO, rw_AO, rw_JO, rw_OO, rw_KAr, rw_IAr, rw_RAr, rw_LAr, rw_AAr, rw_JAr, rw_OAr, rw_KOr, rw_IOr, rw_ROr, rw_LOr, rw_AOr, rw_JOr, rw_OOr, rw_KN, rw_IN, rw_RN, rw_LN, rw_AN, rw_JN, rw_ON, rw_KY, rw_IY, rw_RY, rw_LY, rw_AY, rw_JY, rw_OY, e2.1, e2.2.2.1, i2, c.1.1, o.1.1, r12, r13, h197]
  generalize h3e : wI (wI (wI h2 137 (ad 6 a) (nI S)) 138 (ad 6 a) (zI h 198 (aj 0))) 139 (ad 6 a) (zI h 199 (aj 0)) = h3
  have e3 : zK h3 = zK h ∧ zR h3 = zR h ∧ zL h3 = zL h ∧ zO h3 = zO h ∧ zJ h3 = zJ h ∧ zA h3 = zA h2 := by rw [← h3e]; exact ⟨e2.1, e2.2.2.1, e2.2.2.2.1, e2.2.2.2.2.1, e2.2.2.2.2.2, rfl⟩
  have n1210 : ¬ ad 12 a = ad 10 a := cAo_ne o (k := 5) (l := 3) (by decide) (by decide) (by decide)
  have n1211 : ¬ ad 12 a = ad 11 a := cAo_ne o (k := 5) (l := 4) (by decide) (by decide) (by decide)
  have n1013 : ¬ ad 10 a = ad 13 a := cAo_ne o (k := 3) (l := 6) (by decide) (by decide) (by decide)
  have n1113 : ¬ ad 11 a = ad 13 a := cAo_ne o (k := 4) (l := 6) (by decide) (by decide) (by decide)
  have n1310 : ¬ ad 13 a = ad 10 a := fun z => n1013 z.symm
  refine k_cdiv (d := d) (c := aj 4) (N := 30) (W := W) (by rw [e3.1]; exact c.1.1) (by rw [e3.2.1]; exact c.2.1.2.2.2) (by rw [e3.1]; exact k12) (by rw [e3.1]; exact k13) (by rw [e3.1]; exact c.2.2.1.2.2.2) (by rw [e3.2.2.1, l12]; exact Nat.le_refl _) (by rw [e3.2.2.1, l13]; exact Nat.le_refl _) (by rw [e3.2.2.1, L4]; decide) (by decide) (by decide) (by rw [e3.2.2.1, l12]; decide) (by rw [e3.2.2.1, l13]; decide) (by rw [e3.2.2.1, L4]; decide) (cAo_ne o (k := 5) (l := 6) (by decide) (by decide) (by decide)) (fun i hi => by rw [e3.2.2.2.2.2, a2 _ n1210 n1211]; exact hW i hi) hS (fun h4 hT4 h4t h4o => ?_)
  have i4 : ∀ f b, zI h4 f b = zI h3 f b := fun f b => by rw [hT4.2.1]
  simp only [e6_76, o_iload, o_lload, o_aload, o_istore, o_lstore, o_astore, o_iinc, o_ipush, o_lpush, o_null, o_ibin, o_ineg, o_lbin, o_ldv, o_lneg, o_lcmp, o_i2l, o_l2i, o_dup, o_pop, o_dupx, o_dup2, o_ic, o_iz, o_nul, o_acmp, o_tsw, o_gI, o_gR, o_pI, o_pZ, o_pR, o_iald, o_bald, o_lald, o_aald, o_iast, o_bast, o_last, o_aast, o_alen, o_newa, o_new, o_mna, o_cast, o_calls, o_callv, o_calli, o_oinit, o_getC, o_refp, o_cpi, o_cpo, o_mmax, o_mmin, o_lmin, o_iret, o_zret, o_lret, o_aret, o_vret, jd_lo, jd_la, jd_nl, jd_pop, List.length_cons, List.length_nil, List.set_cons_zero, List.set_cons_succ, List.getElem?_cons_zero, List.getElem?_cons_succ, List.replicate_succ, List.replicate_zero, List.cons_append, List.nil_append, List.append_nil, Value.category, Option.toList, va_rf, true_implies, false_implies, false_and, and_false, and_true, true_and, and_self, true_or, or_true, false_or, or_false, not_true_eq_false, not_false_eq_true, forall_const, implies_true, if_true, if_false, reduceCtorEq, reduceIte, Nat.reduceAdd, Nat.reduceMul, Nat.reduceSub, Nat.reduceDiv, Nat.reduceMod, Nat.reduceEqDiff, Nat.reduceLeDiff, Nat.reduceLT, Nat.zero_le, Nat.lt_add_one, Nat.le_refl, Nat.sub_zero, Nat.zero_lt_succ, ge_iff_le, ji_m2, ji_m1, ji_0, ji_1, ji_2, ji_3, ji_4, ji_5, ji_6, ji_7, ji_8, ji_10, ji_12, ji_29, ji_30, ji_31, ji_40, ji_60, ji_70, ji_80, ji_81, ji_360, ji_512, ji_972, ji_1000000, ji_2147483639, jl_m1, jl_0, jl_1]
  refine hQ h4 ⟨hT4.1.trans e3.1, hT4.2.2.1.trans e3.2.1, hT4.2.2.2.1.trans e3.2.2.1, hT4.2.2.2.2.1.trans e3.2.2.2.1, fun f b hf => ?_, fun b b1 b2 b3 => ?_, fun b hb => ?_⟩ (fun i hi => ⟨?_, ?_⟩) h4t ?_ ?_ ?_
  · rw [i4, ← h3e, rw_II, if_neg (fun z => hf ⟨z.2, by omega, by omega⟩), rw_II, if_neg (fun z => hf ⟨z.2, by omega, by omega⟩), rw_II, if_neg (fun z => hf ⟨z.2, by omega, by omega⟩), i2]
  · rw [hT4.2.2.2.2.2.1 b b3, e3.2.2.2.2.2]; exact a2 b b1 b2
  · rw [hT4.2.2.2.2.2.2 b hb, e3.2.2.2.2.1]
  · rw [hT4.2.2.2.2.2.1 _ n1013, e3.2.2.2.2.2]; exact a10 i hi
  · rw [hT4.2.2.2.2.2.1 _ n1113, e3.2.2.2.2.2]; exact a11 i hi
  · rw [i4, ← h3e, wI_ne (by decide), wI_ne (by decide), wI_s]
  · rw [i4, ← h3e, wI_ne (by decide), wI_s]
  · rw [i4, ← h3e, wI_s]
theorem RF_AG (x : RF ad aj a h h1) (c : cVJ h tg aj) (o : cAo h tg ad v a) : AG (fun u => u ≠ Tg v 6 a ∧ u ≠ Tg v 10 a ∧ u ≠ Tg v 11 a ∧ u ≠ Tg v 13 a ∧ u ≠ 204) h h1 tg tg := fun b hb => by
  refine ⟨by rw [x.1], by rw [x.2.2.1], rfl, fun hp => ⟨fun f => x.2.2.2.2.1 f b (fun z => ?_), fun f => by rw [x.2.1], x.2.2.2.2.2.1 b (fun z => ?_) (fun z => ?_) (fun z => ?_), x.2.2.2.2.2.2 b (fun z => ?_), by rw [x.2.2.2.1]⟩⟩
  · exact hp.1 (by rw [z.1]; exact o.1.2)
  · exact hp.2.1 (by rw [z]; exact (o.2 3 (by decide)).2.1)
  · exact hp.2.2.1 (by rw [z]; exact (o.2 4 (by decide)).2.1)
  · exact hp.2.2.2.1 (by rw [z]; exact (o.2 6 (by decide)).2.1)
  · exact hp.2.2.2.2 (by rw [z]; exact (c.2.2.2 4 (by decide) (by decide)).2)
theorem RF_J (x : RF ad aj a h h1) (c : cVJ h tg aj) : cVJ h1 tg aj := by
  unfold cVJ at c ⊢
  rw [x.1, x.2.1, x.2.2.1]
  exact c
theorem RF_o {b : Nat} (x : RF ad aj a h h1) (o : cAo h tg ad v b) : cAo h1 tg ad v b := by
  unfold cAo at o ⊢
  rw [x.1, x.2.1, x.2.2.1]
  exact o
end
