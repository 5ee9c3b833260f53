/-! the class: dividing -/
def DT (t c : Nat) (h h' : jd_H) : Prop := zK h' = zK h ∧ zI h' = zI h ∧ zR h' = zR h ∧ zL h' = zL h ∧ zO h' = zO h ∧ (∀ a, a ≠ t → zA h' a = zA h a) ∧ ∀ a, a ≠ c → zJ h' a = zJ h a
section
variable {t c : Nat} {h h1 h2 : jd_H}
theorem DT_r : DT t c h h := ⟨rfl, rfl, rfl, rfl, rfl, fun _ _ => rfl, fun _ _ => rfl⟩
theorem DT_t (a : DT t c h h1) (b : DT t c h1 h2) : DT t c h h2 := ⟨b.1.trans a.1, b.2.1.trans a.2.1, b.2.2.1.trans a.2.2.1, b.2.2.2.1.trans a.2.2.2.1, b.2.2.2.2.1.trans a.2.2.2.2.1, fun x p => (b.2.2.2.2.2.1 x p).trans (a.2.2.2.2.2.1 x p), fun x p => (b.2.2.2.2.2.2 x p).trans (a.2.2.2.2.2.2 x p)⟩
theorem DT_wt {i : Nat} {x : Int32} (a : DT t c h h1) : DT t c h (wA h1 t i x) := DT_t a ⟨rfl, rfl, rfl, rfl, rfl, fun y p => wA_na p, fun _ _ => rfl⟩
theorem DT_wc {i : Nat} {x : Int64} (a : DT t c h h1) : DT t c h (wJ h1 c i x) := DT_t a ⟨rfl, rfl, rfl, rfl, rfl, fun _ _ => rfl, fun y p => by funext j; rw [rw_JJ, if_neg (fun z => p z.1)]⟩
end
section
variable {g d J b t c N S A R : Nat} {W q : Nat → Nat} {cc C : Nat → Int} {h : jd_H} {Q : jd_Q}
set_option maxRecDepth 100000 in
theorem l_pom (kc : zK h c = 11) (lc : N ≤ zL h c) (bc : zL h c < 2147483648) (hC : ∀ i, i < N → zJ h c i = Int64.ofInt (C i) ∧ -1 ≤ C i ∧ C i < 2 ^ 62) (hQ : Q (some (.int (nI (pm C (N - 1))))) h) :
    ∀ (k j : Nat), j + k + 1 = N → jd_w g d 8 Q 4 [some (.ref c), some (.int (nI N)), some (.int (nI (pm C j))), some (.int (nI (j + 1)))] [] h 0 0 := by
  intro k
  induction k with
  | zero =>
    intro j hj
    have e1 : j + 1 = N := by omega
    have e2 : N - 1 = j := by omega
    rw [e2] at hQ
    simp only [e8_4, e8_5, e8_6, e8_27, e8_28, o_iload, o_lload, o_aload, o_istore, o_lstore, o_astore, o_iinc, o_ipush, o_lpush, o_null, o_ibin, o_ineg, o_lbin, o_ldv, o_lneg, o_lcmp, o_i2l, o_l2i, o_dup, o_pop, o_dupx, o_dup2, o_ic, o_iz, o_nul, o_acmp, o_tsw, o_gI, o_gR, o_pI, o_pZ, o_pR, o_iald, o_bald, o_lald, o_aald, o_iast, o_bast, o_last, o_aast, o_alen, o_newa, o_new, o_mna, o_cast, o_calls, o_callv, o_calli, o_oinit, o_getC, o_refp, o_cpi, o_cpo, o_mmax, o_mmin, o_lmin, o_iret, o_zret, o_lret, o_aret, o_vret, jd_lo, jd_la, jd_nl, jd_pop, List.length_cons, List.length_nil, List.set_cons_zero, List.set_cons_succ, List.getElem?_cons_zero, List.getElem?_cons_succ, List.replicate_succ, List.replicate_zero, List.cons_append, List.nil_append, List.append_nil, Value.category, Option.toList, va_rf, true_implies, false_implies, false_and, and_false, and_true, true_and, and_self, true_or, or_true, false_or, or_false, not_true_eq_false, not_false_eq_true, forall_const, implies_true, if_true, if_false, reduceCtorEq, reduceIte, Nat.reduceAdd, Nat.reduceMul, Nat.reduceSub, Nat.reduceDiv, Nat.reduceMod, Nat.reduceEqDiff, Nat.reduceLeDiff, Nat.reduceLT, Nat.zero_le, Nat.lt_add_one, Nat.le_refl, Nat.sub_zero, Nat.zero_lt_succ, ge_iff_le, ji_m2, ji_m1, ji_0, ji_1, ji_2, ji_3, ji_4, ji_5, ji_6, ji_7, ji_8, ji_10, ji_12, ji_29, ji_30, ji_31, ji_40, ji_60, ji_70, ji_80, ji_81, ji_360, ji_512, ji_972, ji_1000000, ji_2147483639, jl_m1, jl_0, jl_1, e1]
    exact ⟨fun _ => hQ, fun z => absurd (Int32.le_refl _) z⟩
  | succ k ih =>
    intro j hj
    have hp := pm_le C j
    have ij : j + 1 < zL h c := by omega
    have ip : pm C j < zL h c := by omega
    have hnle : ¬ nI N ≤ nI (j + 1) := nI_ge (by omega) (by omega)
    have c1 := hC (j + 1) (by omega)
    have c2 := hC (pm C j) (by omega)
    rw [e8_4]
    simp only [e8_5, e8_6, e8_9, e8_10, e8_11, e8_12, e8_13, e8_14, e8_15, e8_16, e8_19, e8_20, e8_21, e8_24, o_iload, o_lload, o_aload, o_istore, o_lstore, o_astore, o_iinc, o_ipush, o_lpush, o_null, o_ibin, o_ineg, o_lbin, o_ldv, o_lneg, o_lcmp, o_i2l, o_l2i, o_dup, o_pop, o_dupx, o_dup2, o_ic, o_iz, o_nul, o_acmp, o_tsw, o_gI, o_gR, o_pI, o_pZ, o_pR, o_iald, o_bald, o_lald, o_aald, o_iast, o_bast, o_last, o_aast, o_alen, o_newa, o_new, o_mna, o_cast, o_calls, o_callv, o_calli, o_oinit, o_getC, o_refp, o_cpi, o_cpo, o_mmax, o_mmin, o_lmin, o_iret, o_zret, o_lret, o_aret, o_vret, jd_lo, jd_la, jd_nl, jd_pop, List.length_cons, List.length_nil, List.set_cons_zero, List.set_cons_succ, List.getElem?_cons_zero, List.getElem?_cons_succ, List.replicate_succ, List.replicate_zero, List.cons_append, List.nil_append, List.append_nil, Value.category, Option.toList, va_rf, true_implies, false_implies, false_and, and_false, and_true, true_and, and_self, true_or, or_true, false_or, or_false, not_true_eq_false, not_false_eq_true, forall_const, implies_true, if_true, if_false, reduceCtorEq, reduceIte, Nat.reduceAdd, Nat.reduceMul, Nat.reduceSub, Nat.reduceDiv, Nat.reduceMod, Nat.reduceEqDiff, Nat.reduceLeDiff, Nat.reduceLT, Nat.zero_le, Nat.lt_add_one, Nat.le_refl, Nat.sub_zero, Nat.zero_lt_succ, ge_iff_le, ji_m2, ji_m1, ji_0, ji_1, ji_2, ji_3, ji_4, ji_5, ji_6, ji_7, ji_8, ji_10, ji_12, ji_29, ji_30, ji_31, ji_40, ji_60, ji_70, ji_80, ji_81, ji_360, ji_512, ji_972, ji_1000000, ji_2147483639, jl_m1, jl_0, jl_1, kc, hnle, jn_in ij bc, jn_in ip bc, jn_cl ij bc, jn_cl ip bc, c1.1, c2.1, lg_cmp_le, jl_le c1.2 c2.2, jn_sc]
    have hi := ih (j + 1) (by omega)
    refine ⟨fun z => ?_, fun z => ?_⟩
    · have e : pm C (j + 1) = pm C j := if_neg (by omega)
      rw [e] at hi; exact hi
    · have e : pm C (j + 1) = j + 1 := if_pos (by omega)
      rw [e] at hi; exact hi
set_option maxRecDepth 100000 in
theorem k_pom (kc : zK h c = 11) (lc : N ≤ zL h c) (bc : zL h c < 2147483648) (hN : 1 ≤ N) (hC : ∀ i, i < N → zJ h c i = Int64.ofInt (C i) ∧ -1 ≤ C i ∧ C i < 2 ^ 62) (hQ : Q (some (.int (nI (pm C (N - 1))))) h) : jd_WM g (d + 1) 8 [.ref c, .int (nI N)] h Q := by
  refine ⟨Nat.le_of_ble_eq_true rfl, ?_⟩; show jd_w g d 8 Q 0 [some (.ref c), some (.int (nI N)), none, none] [] h 0 0
  simp only [e8_0, e8_1, e8_2, e8_3, o_iload, o_lload, o_aload, o_istore, o_lstore, o_astore, o_iinc, o_ipush, o_lpush, o_null, o_ibin, o_ineg, o_lbin, o_ldv, o_lneg, o_lcmp, o_i2l, o_l2i, o_dup, o_pop, o_dupx, o_dup2, o_ic, o_iz, o_nul, o_acmp, o_tsw, o_gI, o_gR, o_pI, o_pZ, o_pR, o_iald, o_bald, o_lald, o_aald, o_iast, o_bast, o_last, o_aast, o_alen, o_newa, o_new, o_mna, o_cast, o_calls, o_callv, o_calli, o_oinit, o_getC, o_refp, o_cpi, o_cpo, o_mmax, o_mmin, o_lmin, o_iret, o_zret, o_lret, o_aret, o_vret, jd_lo, jd_la, jd_nl, jd_pop, List.length_cons, List.length_nil, List.set_cons_zero, List.set_cons_succ, List.getElem?_cons_zero, List.getElem?_cons_succ, List.replicate_succ, List.replicate_zero, List.cons_append, List.nil_append, List.append_nil, Value.category, Option.toList, va_rf, true_implies, false_implies, false_and, and_false, and_true, true_and, and_self, true_or, or_true, false_or, or_false, not_true_eq_false, not_false_eq_true, forall_const, implies_true, if_true, if_false, reduceCtorEq, reduceIte, Nat.reduceAdd, Nat.reduceMul, Nat.reduceSub, Nat.reduceDiv, Nat.reduceMod, Nat.reduceEqDiff, Nat.reduceLeDiff, Nat.reduceLT, Nat.zero_le, Nat.lt_add_one, Nat.le_refl, Nat.sub_zero, Nat.zero_lt_succ, ge_iff_le, ji_m2, ji_m1, ji_0, ji_1, ji_2, ji_3, ji_4, ji_5, ji_6, ji_7, ji_8, ji_10, ji_12, ji_29, ji_30, ji_31, ji_40, ji_60, ji_70, ji_80, ji_81, ji_360, ji_512, ji_972, ji_1000000, ji_2147483639, jl_m1, jl_0, jl_1]
  exact l_pom kc lc bc hC hQ (N - 1) 0 (by omega)
set_option maxRecDepth 100000 in
theorem l_cd1 {x y z : Option Value} (kb : zK h b = 10) (kt : zK h t = 10) (lb : N ≤ zL h b) (lt : N ≤ zL h t) (hN : N ≤ 81) (bb : zL h b ≤ 81) (bt : zL h t ≤ 81) (nbt : ¬ b = t) (hW : ∀ i, i < N → zA h b i = nI (W i) ∧ W i ≤ 1000000)
    (hex : ∀ h1, DT t c h h1 → (∀ i, i < N → zA h1 t i = 0) → (∀ i, N ≤ i → zA h1 t i = zA h t i) → jd_w g d 7 Q 34 [some (.ref J), some (.int (nI S)), some (.ref b), some (.int (nI N)), some (.ref t), some (.long (lN (sm W N))), none, some (.int (nI N)), x, y, z] [] h1 0 0) :
    ∀ (r i0 : Nat) (h1 : jd_H), i0 + r = N → DT t c h h1 → (∀ i, i < i0 → zA h1 t i = 0) → (∀ i, i0 ≤ i → zA h1 t i = zA h t i) → jd_w g d 7 Q 6 [some (.ref J), some (.int (nI S)), some (.ref b), some (.int (nI N)), some (.ref t), some (.long (lN (sm W i0))), none, some (.int (nI i0)), x, y, z] [] h1 0 0 := by
  intro r
  induction r with
  | zero =>
    intro i0 h1 hi hT h0 h1o
    have hin : i0 = N := by omega
    subst hin
    simp only [e7_6, e7_8, e7_9, o_iload, o_lload, o_aload, o_istore, o_lstore, o_astore, o_iinc, o_ipush, o_lpush, o_null, o_ibin, o_ineg, o_lbin, o_ldv, o_lneg, o_lcmp, o_i2l, o_l2i, o_dup, o_pop, o_dupx, o_dup2, o_ic, o_iz, o_nul, o_acmp, o_tsw, o_gI, o_gR, o_pI, o_pZ, o_pR, o_iald, o_bald, o_lald, o_aald, o_iast, o_bast, o_last, o_aast, o_alen, o_newa, o_new, o_mna, o_cast, o_calls, o_callv, o_calli, o_oinit, o_getC, o_refp, o_cpi, o_cpo, o_mmax, o_mmin, o_lmin, o_iret, o_zret, o_lret, o_aret, o_vret, jd_lo, jd_la, jd_nl, jd_pop, List.length_cons, List.length_nil, List.set_cons_zero, List.set_cons_succ, List.getElem?_cons_zero, List.getElem?_cons_succ, List.replicate_succ, List.replicate_zero, List.cons_append, List.nil_append, List.append_nil, Value.category, Option.toList, va_rf, true_implies, false_implies, false_and, and_false, and_true, true_and, and_self, true_or, or_true, false_or, or_false, not_true_eq_false, not_false_eq_true, forall_const, implies_true, if_true, if_false, reduceCtorEq, reduceIte, Nat.reduceAdd, Nat.reduceMul, Nat.reduceSub, Nat.reduceDiv, Nat.reduceMod, Nat.reduceEqDiff, Nat.reduceLeDiff, Nat.reduceLT, Nat.zero_le, Nat.lt_add_one, Nat.le_refl, Nat.sub_zero, Nat.zero_lt_succ, ge_iff_le, ji_m2, ji_m1, ji_0, ji_1, ji_2, ji_3, ji_4, ji_5, ji_6, ji_7, ji_8, ji_10, ji_12, ji_29, ji_30, ji_31, ji_40, ji_60, ji_70, ji_80, ji_81, ji_360, ji_512, ji_972, ji_1000000, ji_2147483639, jl_m1, jl_0, jl_1]
    exact ⟨fun _ => hex h1 hT h0 h1o, fun w => absurd (Int32.le_refl _) w⟩
  | succ r ih =>
    intro i0 h1 hi hT h0 h1o
    have kb1 : zK h1 b = 10 := by rw [hT.1]; exact kb
    have kt1 : zK h1 t = 10 := by rw [hT.1]; exact kt
    have ib : i0 < zL h1 b := by rw [hT.2.2.2.1]; omega
    have it : i0 < zL h1 t := by rw [hT.2.2.2.1]; omega
    have bb1 : zL h1 b < 2147483648 := by rw [hT.2.2.2.1]; omega
    have bt1 : zL h1 t < 2147483648 := by rw [hT.2.2.2.1]; omega
    have hw := hW i0 (by omega)
    have e1 : zA h1 b i0 = nI (W i0) := by rw [hT.2.2.2.2.2.1 b nbt]; exact hw.1
    have hnle : ¬ nI N ≤ nI i0 := nI_ge (by omega) (by omega)
    have ea : lN (sm W i0) + lN (W i0) = lN (sm W (i0 + 1)) := lN_add _ _
    rw [e7_6]
    simp only [e7_8, e7_9, e7_12, e7_14, e7_15, e7_17, e7_18, e7_19, e7_20, e7_22, e7_24, e7_26, e7_27, e7_28, e7_31, o_iload, o_lload, o_aload, o_istore, o_lstore, o_astore, o_iinc, o_ipush, o_lpush, o_null, o_ibin, o_ineg, o_lbin, o_ldv, o_lneg, o_lcmp, o_i2l, o_l2i, o_dup, o_pop, o_dupx, o_dup2, o_ic, o_iz, o_nul, o_acmp, o_tsw, o_gI, o_gR, o_pI, o_pZ, o_pR, o_iald, o_bald, o_lald, o_aald, o_iast, o_bast, o_last, o_aast, o_alen, o_newa, o_new, o_mna, o_cast, o_calls, o_callv, o_calli, o_oinit, o_getC, o_refp, o_cpi, o_cpo, o_mmax, o_mmin, o_lmin, o_iret, o_zret, o_lret, o_aret, o_vret, jd_lo, jd_la, jd_nl, jd_pop, List.length_cons, List.length_nil, List.set_cons_zero, List.set_cons_succ, List.getElem?_cons_zero, List.getElem?_cons_succ, List.replicate_succ, List.replicate_zero, List.cons_append, List.nil_append, List.append_nil, Value.category, Option.toList, va_rf, true_implies, false_implies, false_and, and_false, and_true, true_and, and_self, true_or, or_true, false_or, or_false, not_true_eq_false, not_false_eq_true, forall_const, implies_true, if_true, if_false, reduceCtorEq, reduceIte, Nat.reduceAdd, Nat.reduceMul, Nat.reduceSub, Nat.reduceDiv, Nat.reduceMod, Nat.reduceEqDiff, Nat.reduceLeDiff, Nat.reduceLT, Nat.zero_le, Nat.lt_add_one, Nat.le_refl, Nat.sub_zero, Nat.zero_lt_succ, ge_iff_le, ji_m2, ji_m1, ji_0, ji_1, ji_2, ji_3, ji_4, ji_5, ji_6, ji_7, ji_8, ji_10, ji_12, ji_29, ji_30, ji_31, ji_40, ji_60, ji_70, ji_80, ji_81, ji_360, ji_512, ji_972, ji_1000000, ji_2147483639, jl_m1, jl_0, jl_1, rw_KI, rw_II, rw_RI, rw_LI, rw_AI, rw_JI, rw_OI, rw_KR, rw_IR, rw_RR, rw_LR, rw_AR, rw_JR, rw_OR, rw_KA, rw_IA, rw_RA, rw_LA, rw_AA, rw_JA, rw_OA, rw_KJ, rw_IJ, rw_RJ, rw_LJ, rw_AJ, rw_JJ, rw_OJ, rw_KO, rw_IO, rw_RO, rw_LO, rw_AO, rw_JO, rw_OO, rw_KAr, rw_IAr, rw_RAr, rw_LAr, rw_AAr, rw_JAr, rw_OAr, rw_KOr, rw_IOr, rw_ROr, rw_LOr, rw_AOr, rw_JOr, rw_OOr, rw_KN, rw_IN, rw_RN, rw_LN, rw_AN, rw_JN, rw_ON, rw_KY, rw_IY, rw_RY, rw_LY, rw_AY, rw_JY, rw_OY, hnle, kb1, kt1, jn_in ib bb1, jn_cl ib bb1, jn_in it bt1, jn_cl it bt1, e1, nI_l (show W i0 < 2 ^ 31 by omega), ea, jn_sc]
    refine ih (i0 + 1) _ (by omega) (DT_wt hT) (fun i hi => ?_) (fun i hi => ?_)
    · rw [rw_AA]
      by_cases e : i = i0
      · rw [if_pos ⟨rfl, e⟩]
      · rw [if_neg (fun w => e w.2)]; exact h0 i (by omega)
    · rw [rw_AA, if_neg (fun w => by omega)]; exact h1o i (by omega)
set_option maxRecDepth 100000 in
theorem l_cd2 (kJ : zK h J = 3) (rc : zR h 195 J = some c) (kb : zK h b = 10) (kt : zK h t = 10) (kc : zK h c = 11) (lb : N ≤ zL h b) (lt : N ≤ zL h t) (lc : N ≤ zL h c) (hN : N ≤ 81) (bb : zL h b ≤ 81) (bt : zL h t ≤ 81) (bc : zL h c ≤ 81) (nbt : ¬ b = t) (hW : ∀ i, i < N → zA h b i = nI (W i) ∧ W i ≤ 1000000) (hS : S ≤ 81000000) (hA : 0 < A ∧ A < 2 ^ 31) (hs : ∀ i, i ≤ N → sm (fun i => S * W i / A) i ≤ S)
    (hex : ∀ h1 y z, DT t c h h1 → (∀ i, i < N → zA h1 t i = nI (S * W i / A)) → (∀ i, N ≤ i → zA h1 t i = zA h t i) → (∀ i, i < N → zJ h1 c i = lN (S * W i % A)) → jd_w g d 7 Q 103 [some (.ref J), some (.int (nI S)), some (.ref b), some (.int (nI N)), some (.ref t), some (.long (lN A)), none, some (.int (nI (S - sm (fun i => S * W i / A) N))), some (.int (nI N)), y, z] [] h1 0 0) :
    ∀ (r i0 : Nat) (h1 : jd_H) (y z : Option Value), i0 + r = N → DT t c h h1 → (∀ i, i < i0 → zA h1 t i = nI (S * W i / A)) → (∀ i, N ≤ i → zA h1 t i = zA h t i) → (∀ i, i < i0 → zJ h1 c i = lN (S * W i % A)) → jd_w g d 7 Q 48 [some (.ref J), some (.int (nI S)), some (.ref b), some (.int (nI N)), some (.ref t), some (.long (lN A)), none, some (.int (nI (S - sm (fun i => S * W i / A) i0))), some (.int (nI i0)), y, z] [] h1 0 0 := by
  intro r
  induction r with
  | zero =>
    intro i0 h1 y z hi hT h1t h1o h1c
    have hin : i0 = N := by omega
    subst hin
    simp only [e7_48, e7_50, e7_51, o_iload, o_lload, o_aload, o_istore, o_lstore, o_astore, o_iinc, o_ipush, o_lpush, o_null, o_ibin, o_ineg, o_lbin, o_ldv, o_lneg, o_lcmp, o_i2l, o_l2i, o_dup, o_pop, o_dupx, o_dup2, o_ic, o_iz, o_nul, o_acmp, o_tsw, o_gI, o_gR, o_pI, o_pZ, o_pR, o_iald, o_bald, o_lald, o_aald, o_iast, o_bast, o_last, o_aast, o_alen, o_newa, o_new, o_mna, o_cast, o_calls, o_callv, o_calli, o_oinit, o_getC, o_refp, o_cpi, o_cpo, o_mmax, o_mmin, o_lmin, o_iret, o_zret, o_lret, o_aret, o_vret, jd_lo, jd_la, jd_nl, jd_pop, List.length_cons, List.length_nil, List.set_cons_zero, List.set_cons_succ, List.getElem?_cons_zero, List.getElem?_cons_succ, List.replicate_succ, List.replicate_zero, List.cons_append, List.nil_append, List.append_nil, Value.category, Option.toList, va_rf, true_implies, false_implies, false_and, and_false, and_true, true_and, and_self, true_or, or_true, false_or, or_false, not_true_eq_false, not_false_eq_true, forall_const, implies_true, if_true, if_false, reduceCtorEq, reduceIte, Nat.reduceAdd, Nat.reduceMul, Nat.reduceSub, Nat.reduceDiv, Nat.reduceMod, Nat.reduceEqDiff, Nat.reduceLeDiff, Nat.reduceLT, Nat.zero_le, Nat.lt_add_one, Nat.le_refl, Nat.sub_zero, Nat.zero_lt_succ, ge_iff_le, ji_m2, ji_m1, ji_0, ji_1, ji_2, ji_3, ji_4, ji_5, ji_6, ji_7, ji_8, ji_10, ji_12, ji_29, ji_30, ji_31, ji_40, ji_60, ji_70, ji_80, ji_81, ji_360, ji_512, ji_972, ji_1000000, ji_2147483639, jl_m1, jl_0, jl_1]
    exact ⟨fun _ => hex h1 y z hT h1t h1o h1c, fun w => absurd (Int32.le_refl _) w⟩
  | succ r ih =>
    intro i0 h1 y z hi hT h1t h1o h1c
    have kJ1 : zK h1 J = 3 := by rw [hT.1]; exact kJ
    have rc1 : zR h1 195 J = some c := by rw [hT.2.2.1]; exact rc
    have kb1 : zK h1 b = 10 := by rw [hT.1]; exact kb
    have kt1 : zK h1 t = 10 := by rw [hT.1]; exact kt
    have kc1 : zK h1 c = 11 := by rw [hT.1]; exact kc
    have ib : i0 < zL h1 b := by rw [hT.2.2.2.1]; omega
    have it : i0 < zL h1 t := by rw [hT.2.2.2.1]; omega
    have ic : i0 < zL h1 c := by rw [hT.2.2.2.1]; omega
    have bb1 : zL h1 b < 2147483648 := by rw [hT.2.2.2.1]; omega
    have bt1 : zL h1 t < 2147483648 := by rw [hT.2.2.2.1]; omega
    have bc1 : zL h1 c < 2147483648 := by rw [hT.2.2.2.1]; omega
    have hw := hW i0 (by omega)
    have e1 : zA h1 b i0 = nI (W i0) := by rw [hT.2.2.2.2.2.1 b nbt]; exact hw.1
    have hnle : ¬ nI N ≤ nI i0 := nI_ge (by omega) (by omega)
    have hsw : S * W i0 ≤ 81000000 * 1000000 := Nat.mul_le_mul hS hw.2
    have eA : ¬ lN A = 0 := by rw [lN_eq0 (by omega)]; omega
    have ed : lN (S * W i0) / lN A = lN (S * W i0 / A) := pk_lDiv (by omega) (by omega) (by omega)
    have hs1 : sm (fun i => S * W i / A) i0 + S * W i0 / A ≤ S := hs (i0 + 1) (by omega)
    have esub : nI (S - sm (fun i => S * W i / A) i0) - nI (S * W i0 / A) = nI (S - sm (fun i => S * W i / A) (i0 + 1)) := by
      rw [pk_sub (by omega)]
      congr 1
      show _ = S - (sm (fun i => S * W i / A) i0 + S * W i0 / A)
      omega
    rw [e7_48]
    simp only [e7_50, e7_51, e7_54, e7_55, e7_56, e7_57, e7_59, e7_60, e7_61, e7_62, e7_64, e7_66, e7_68, e7_70, e7_72, e7_73, e7_74, e7_75, e7_76, e7_79, e7_81, e7_83, e7_85, e7_86, e7_87, e7_89, e7_91, e7_93, e7_94, e7_95, e7_97, e7_100, o_iload, o_lload, o_aload, o_istore, o_lstore, o_astore, o_iinc, o_ipush, o_lpush, o_null, o_ibin, o_ineg, o_lbin, o_ldv, o_lneg, o_lcmp, o_i2l, o_l2i, o_dup, o_pop, o_dupx, o_dup2, o_ic, o_iz, o_nul, o_acmp, o_tsw, o_gI, o_gR, o_pI, o_pZ, o_pR, o_iald, o_bald, o_lald, o_aald, o_iast, o_bast, o_last, o_aast, o_alen, o_newa, o_new, o_mna, o_cast, o_calls, o_callv, o_calli, o_oinit, o_getC, o_refp, o_cpi, o_cpo, o_mmax, o_mmin, o_lmin, o_iret, o_zret, o_lret, o_aret, o_vret, jd_lo, jd_la, jd_nl, jd_pop, List.length_cons, List.length_nil, List.set_cons_zero, List.set_cons_succ, List.getElem?_cons_zero, List.getElem?_cons_succ, List.replicate_succ, List.replicate_zero, List.cons_append, List.nil_append, List.append_nil, Value.category, Option.toList, va_rf, true_implies, false_implies, false_and, and_false, and_true, true_and, and_self, true_or, or_true, false_or, or_false, not_true_eq_false, not_false_eq_true, forall_const, implies_true, if_true, if_false, reduceCtorEq, reduceIte, Nat.reduceAdd, Nat.reduceMul, Nat.reduceSub, Nat.reduceDiv, Nat.reduceMod, Nat.reduceEqDiff, Nat.reduceLeDiff, Nat.reduceLT, Nat.zero_le, Nat.lt_add_one, Nat.le_refl, Nat.sub_zero, Nat.zero_lt_succ, ge_iff_le, ji_m2, ji_m1, ji_0, ji_1, ji_2, ji_3, ji_4, ji_5, ji_6, ji_7, ji_8, ji_10, ji_12, ji_29, ji_30, ji_31, ji_40, ji_60, ji_70, ji_80, ji_81, ji_360, ji_512, ji_972, ji_1000000, ji_2147483639, jl_m1, jl_0, jl_1, rw_KI, rw_II, rw_RI, rw_LI, rw_AI, rw_JI, rw_OI, rw_KR, rw_IR, rw_RR, rw_LR, rw_AR, rw_JR, rw_OR, rw_KA, rw_IA, rw_RA, rw_LA, rw_AA, rw_JA, rw_OA, rw_KJ, rw_IJ, rw_RJ, rw_LJ, rw_AJ, rw_JJ, rw_OJ, rw_KO, rw_IO, rw_RO, rw_LO, rw_AO, rw_JO, rw_OO, rw_KAr, rw_IAr, rw_RAr, rw_LAr, rw_AAr, rw_JAr, rw_OAr, rw_KOr, rw_IOr, rw_ROr, rw_LOr, rw_AOr, rw_JOr, rw_OOr, rw_KN, rw_IN, rw_RN, rw_LN, rw_AN, rw_JN, rw_ON, rw_KY, rw_IY, rw_RY, rw_LY, rw_AY, rw_JY, rw_OY, hnle, kJ1, rc1, kb1, kt1, kc1, jn_in ib bb1, jn_cl ib bb1, jn_in it bt1, jn_cl it bt1, jn_in ic bc1, jn_cl ic bc1, e1, nI_l (show W i0 < 2 ^ 31 by omega), nI_l (show S < 2 ^ 31 by omega), lN_mul, eA, ed, jrem, lN_i, esub, jn_sc]
    refine ih (i0 + 1) _ _ _ (by omega) (DT_wc (DT_wt hT)) (fun i hi => ?_) (fun i hi => ?_) (fun i hi => ?_)
    · show zA (wA h1 t i0 _) t i = _
      rw [rw_AA]
      by_cases e : i = i0
      · subst e; rw [if_pos ⟨rfl, rfl⟩]
      · rw [if_neg (fun w => e w.2)]; exact h1t i (by omega)
    · show zA (wA h1 t i0 _) t i = _
      rw [rw_AA, if_neg (fun w => by omega)]; exact h1o i hi
    · rw [rw_JJ]
      by_cases e : i = i0
      · subst e; rw [if_pos ⟨rfl, rfl⟩]
      · rw [if_neg (fun w => e w.2)]; exact h1c i (by omega)
set_option maxRecDepth 100000 in
theorem l_cd3 (kJ : zK h J = 3) (rc : zR h 195 J = some c) (kt : zK h t = 10) (kc : zK h c = 11) (lt : N ≤ zL h t) (lc : N ≤ zL h c) (h1N : 1 ≤ N) (hN : N ≤ 81) (bt : zL h t ≤ 81) (bc : zL h c ≤ 81) (hR : R ≤ N) (hC : ∀ r, r ≤ R → ∀ i, i < N → -1 ≤ (dvI N q cc r).2 i ∧ (dvI N q cc r).2 i < 2 ^ 62)
    (hQ : ∀ h1, DT t c h h1 → (∀ i, i < N → zA h1 t i = nI ((dvI N q cc R).1 i)) → (∀ i, N ≤ i → zA h1 t i = zA h t i) → Q none h1) :
    ∀ (k r : Nat) (h1 : jd_H) (y z : Option Value), r + k = R → DT t c h h1 → (∀ i, i < N → zA h1 t i = nI ((dvI N q cc r).1 i)) → (∀ i, N ≤ i → zA h1 t i = zA h t i) → (∀ i, i < N → zJ h1 c i = Int64.ofInt ((dvI N q cc r).2 i)) → jd_w g (d + 1) 7 Q 106 [some (.ref J), some (.int (nI S)), some (.ref b), some (.int (nI N)), some (.ref t), some (.long (lN A)), none, some (.int (nI R)), some (.int (nI r)), y, z] [] h1 0 0 := by
  intro k
  induction k with
  | zero =>
    intro r h1 y z hr hT h1t h1o h1c
    have e2 : r = R := by omega
    subst e2
    simp only [e7_106, e7_108, e7_110, e7_154, o_iload, o_lload, o_aload, o_istore, o_lstore, o_astore, o_iinc, o_ipush, o_lpush, o_null, o_ibin, o_ineg, o_lbin, o_ldv, o_lneg, o_lcmp, o_i2l, o_l2i, o_dup, o_pop, o_dupx, o_dup2, o_ic, o_iz, o_nul, o_acmp, o_tsw, o_gI, o_gR, o_pI, o_pZ, o_pR, o_iald, o_bald, o_lald, o_aald, o_iast, o_bast, o_last, o_aast, o_alen, o_newa, o_new, o_mna, o_cast, o_calls, o_callv, o_calli, o_oinit, o_getC, o_refp, o_cpi, o_cpo, o_mmax, o_mmin, o_lmin, o_iret, o_zret, o_lret, o_aret, o_vret, jd_lo, jd_la, jd_nl, jd_pop, List.length_cons, List.length_nil, List.set_cons_zero, List.set_cons_succ, List.getElem?_cons_zero, List.getElem?_cons_succ, List.replicate_succ, List.replicate_zero, List.cons_append, List.nil_append, List.append_nil, Value.category, Option.toList, va_rf, true_implies, false_implies, false_and, and_false, and_true, true_and, and_self, true_or, or_true, false_or, or_false, not_true_eq_false, not_false_eq_true, forall_const, implies_true, if_true, if_false, reduceCtorEq, reduceIte, Nat.reduceAdd, Nat.reduceMul, Nat.reduceSub, Nat.reduceDiv, Nat.reduceMod, Nat.reduceEqDiff, Nat.reduceLeDiff, Nat.reduceLT, Nat.zero_le, Nat.lt_add_one, Nat.le_refl, Nat.sub_zero, Nat.zero_lt_succ, ge_iff_le, ji_m2, ji_m1, ji_0, ji_1, ji_2, ji_3, ji_4, ji_5, ji_6, ji_7, ji_8, ji_10, ji_12, ji_29, ji_30, ji_31, ji_40, ji_60, ji_70, ji_80, ji_81, ji_360, ji_512, ji_972, ji_1000000, ji_2147483639, jl_m1, jl_0, jl_1]
    exact ⟨fun _ => hQ h1 hT h1t h1o, fun w => absurd (Int32.le_refl _) w⟩
  | succ k ih =>
    intro r h1 y z hr hT h1t h1o h1c
    have kJ1 : zK h1 J = 3 := by rw [hT.1]; exact kJ
    have rc1 : zR h1 195 J = some c := by rw [hT.2.2.1]; exact rc
    have kt1 : zK h1 t = 10 := by rw [hT.1]; exact kt
    have kc1 : zK h1 c = 11 := by rw [hT.1]; exact kc
    have bt1 : zL h1 t < 2147483648 := by rw [hT.2.2.2.1]; omega
    have bc1 : zL h1 c < 2147483648 := by rw [hT.2.2.2.1]; omega
    have hp := pm_le (dvI N q cc r).2 (N - 1)
    have it : pm (dvI N q cc r).2 (N - 1) < zL h1 t := by rw [hT.2.2.2.1]; omega
    have ic : pm (dvI N q cc r).2 (N - 1) < zL h1 c := by rw [hT.2.2.2.1]; omega
    have n1 : ¬ nI R ≤ nI r := nI_ge (by omega) (by omega)
    have n2 : ¬ nI N ≤ nI r := nI_ge (by omega) (by omega)
    rw [e7_106]
    simp only [e7_108, e7_110, e7_113, e7_115, e7_116, e7_119, e7_120, e7_123, e7_124, o_iload, o_lload, o_aload, o_istore, o_lstore, o_astore, o_iinc, o_ipush, o_lpush, o_null, o_ibin, o_ineg, o_lbin, o_ldv, o_lneg, o_lcmp, o_i2l, o_l2i, o_dup, o_pop, o_dupx, o_dup2, o_ic, o_iz, o_nul, o_acmp, o_tsw, o_gI, o_gR, o_pI, o_pZ, o_pR, o_iald, o_bald, o_lald, o_aald, o_iast, o_bast, o_last, o_aast, o_alen, o_newa, o_new, o_mna, o_cast, o_calls, o_callv, o_calli, o_oinit, o_getC, o_refp, o_cpi, o_cpo, o_mmax, o_mmin, o_lmin, o_iret, o_zret, o_lret, o_aret, o_vret, jd_lo, jd_la, jd_nl, jd_pop, List.length_cons, List.length_nil, List.set_cons_zero, List.set_cons_succ, List.getElem?_cons_zero, List.getElem?_cons_succ, List.replicate_succ, List.replicate_zero, List.cons_append, List.nil_append, List.append_nil, Value.category, Option.toList, va_rf, true_implies, false_implies, false_and, and_false, and_true, true_and, and_self, true_or, or_true, false_or, or_false, not_true_eq_false, not_false_eq_true, forall_const, implies_true, if_true, if_false, reduceCtorEq, reduceIte, Nat.reduceAdd, Nat.reduceMul, Nat.reduceSub, Nat.reduceDiv, Nat.reduceMod, Nat.reduceEqDiff, Nat.reduceLeDiff, Nat.reduceLT, Nat.zero_le, Nat.lt_add_one, Nat.le_refl, Nat.sub_zero, Nat.zero_lt_succ, ge_iff_le, ji_m2, ji_m1, ji_0, ji_1, ji_2, ji_3, ji_4, ji_5, ji_6, ji_7, ji_8, ji_10, ji_12, ji_29, ji_30, ji_31, ji_40, ji_60, ji_70, ji_80, ji_81, ji_360, ji_512, ji_972, ji_1000000, ji_2147483639, jl_m1, jl_0, jl_1, n1, n2, kJ1, rc1]
    refine k_pom (d := d) (C := (dvI N q cc r).2) kc1 (by rw [hT.2.2.2.1]; exact lc) bc1 h1N (fun i hi => ⟨h1c i hi, hC r (by omega) i hi⟩) ?_
    have e1 := h1t (pm (dvI N q cc r).2 (N - 1)) (by omega)
    simp only [e7_127, e7_129, e7_131, e7_133, e7_134, e7_135, e7_136, e7_137, e7_138, e7_139, e7_142, e7_144, e7_147, e7_148, e7_151, o_iload, o_lload, o_aload, o_istore, o_lstore, o_astore, o_iinc, o_ipush, o_lpush, o_null, o_ibin, o_ineg, o_lbin, o_ldv, o_lneg, o_lcmp, o_i2l, o_l2i, o_dup, o_pop, o_dupx, o_dup2, o_ic, o_iz, o_nul, o_acmp, o_tsw, o_gI, o_gR, o_pI, o_pZ, o_pR, o_iald, o_bald, o_lald, o_aald, o_iast, o_bast, o_last, o_aast, o_alen, o_newa, o_new, o_mna, o_cast, o_calls, o_callv, o_calli, o_oinit, o_getC, o_refp, o_cpi, o_cpo, o_mmax, o_mmin, o_lmin, o_iret, o_zret, o_lret, o_aret, o_vret, jd_lo, jd_la, jd_nl, jd_pop, List.length_cons, List.length_nil, List.set_cons_zero, List.set_cons_succ, List.getElem?_cons_zero, List.getElem?_cons_succ, List.replicate_succ, List.replicate_zero, List.cons_append, List.nil_append, List.append_nil, Value.category, Option.toList, va_rf, true_implies, false_implies, false_and, and_false, and_true, true_and, and_self, true_or, or_true, false_or, or_false, not_true_eq_false, not_false_eq_true, forall_const, implies_true, if_true, if_false, reduceCtorEq, reduceIte, Nat.reduceAdd, Nat.reduceMul, Nat.reduceSub, Nat.reduceDiv, Nat.reduceMod, Nat.reduceEqDiff, Nat.reduceLeDiff, Nat.reduceLT, Nat.zero_le, Nat.lt_add_one, Nat.le_refl, Nat.sub_zero, Nat.zero_lt_succ, ge_iff_le, ji_m2, ji_m1, ji_0, ji_1, ji_2, ji_3, ji_4, ji_5, ji_6, ji_7, ji_8, ji_10, ji_12, ji_29, ji_30, ji_31, ji_40, ji_60, ji_70, ji_80, ji_81, ji_360, ji_512, ji_972, ji_1000000, ji_2147483639, jl_m1, jl_0, jl_1, rw_KI, rw_II, rw_RI, rw_LI, rw_AI, rw_JI, rw_OI, rw_KR, rw_IR, rw_RR, rw_LR, rw_AR, rw_JR, rw_OR, rw_KA, rw_IA, rw_RA, rw_LA, rw_AA, rw_JA, rw_OA, rw_KJ, rw_IJ, rw_RJ, rw_LJ, rw_AJ, rw_JJ, rw_OJ, rw_KO, rw_IO, rw_RO, rw_LO, rw_AO, rw_JO, rw_OO, rw_KAr, rw_IAr, rw_RAr, rw_LAr, rw_AAr, rw_JAr, rw_OAr, rw_KOr, rw_IOr, rw_ROr, rw_LOr, rw_AOr, rw_JOr, rw_OOr, rw_KN, rw_IN, rw_RN, rw_LN, rw_AN, rw_JN, rw_ON, rw_KY, rw_IY, rw_RY, rw_LY, rw_AY, rw_JY, rw_OY, kJ1, rc1, kt1, kc1, jn_in it bt1, jn_in ic bc1, jn_cl it bt1, jn_cl ic bc1, e1, jn_sc]
    refine ih (r + 1) _ _ _ (by omega) (DT_wc (DT_wt hT)) (fun i hi => ?_) (fun i hi => ?_) (fun i hi => ?_)
    · show zA (wA h1 t _ _) t i = nI (u1 _ _ _ i)
      rw [rw_AA]
      unfold u1
      by_cases e : i = pm (dvI N q cc r).2 (N - 1)
      · rw [if_pos e, if_pos ⟨rfl, e⟩]
      · rw [if_neg e, if_neg (fun w => e w.2)]; exact h1t i hi
    · show zA (wA h1 t _ _) t i = _
      rw [rw_AA, if_neg (fun w => by omega)]; exact h1o i hi
    · show _ = Int64.ofInt (u1 _ _ _ i)
      rw [rw_JJ]
      unfold u1
      by_cases e : i = pm (dvI N q cc r).2 (N - 1)
      · rw [if_pos e, if_pos ⟨rfl, e⟩]; rfl
      · rw [if_neg e, if_neg (fun w => e w.2)]; exact h1c i hi
set_option maxRecDepth 100000 in
theorem k_cdiv (kJ : zK h J = 3) (rc : zR h 195 J = some c) (kb : zK h b = 10) (kt : zK h t = 10) (kc : zK h c = 11) (lb : N ≤ zL h b) (lt : N ≤ zL h t) (lc : N ≤ zL h c) (h1N : 1 ≤ N) (hN : N ≤ 81) (bb : zL h b ≤ 81) (bt : zL h t ≤ 81) (bc : zL h c ≤ 81) (nbt : ¬ b = t) (hW : ∀ i, i < N → zA h b i = nI (W i) ∧ W i ≤ 1000000) (hS : S ≤ 81000000)
    (hQ : ∀ h1, DT t c h h1 → (∀ i, i < N → zA h1 t i = nI (dv N S W i)) → (∀ i, N ≤ i → zA h1 t i = zA h t i) → Q none h1) :
    jd_WM g (d + 2) 7 [.ref J, .int (nI S), .ref b, .int (nI N), .ref t] h Q := by
  refine ⟨Nat.le_of_ble_eq_true rfl, ?_⟩; show jd_w g (d + 1) 7 Q 0 [some (.ref J), some (.int (nI S)), some (.ref b), some (.int (nI N)), some (.ref t), none, none, none, none, none, none] [] h 0 0
  have hA : sm W N ≤ 81 * 1000000 := Nat.le_trans (sm_b N (fun i hi => (hW i hi).2)) (Nat.mul_le_mul_right _ hN)
  simp only [e7_0, e7_1, e7_3, e7_4, o_iload, o_lload, o_aload, o_istore, o_lstore, o_astore, o_iinc, o_ipush, o_lpush, o_null, o_ibin, o_ineg, o_lbin, o_ldv, o_lneg, o_lcmp, o_i2l, o_l2i, o_dup, o_pop, o_dupx, o_dup2, o_ic, o_iz, o_nul, o_acmp, o_tsw, o_gI, o_gR, o_pI, o_pZ, o_pR, o_iald, o_bald, o_lald, o_aald, o_iast, o_bast, o_last, o_aast, o_alen, o_newa, o_new, o_mna, o_cast, o_calls, o_callv, o_calli, o_oinit, o_getC, o_refp, o_cpi, o_cpo, o_mmax, o_mmin, o_lmin, o_iret, o_zret, o_lret, o_aret, o_vret, jd_lo, jd_la, jd_nl, jd_pop, List.length_cons, List.length_nil, List.set_cons_zero, List.set_cons_succ, List.getElem?_cons_zero, List.getElem?_cons_succ, List.replicate_succ, List.replicate_zero, List.cons_append, List.nil_append, List.append_nil, Value.category, Option.toList, va_rf, true_implies, false_implies, false_and, and_false, and_true, true_and, and_self, true_or, or_true, false_or, or_false, not_true_eq_false, not_false_eq_true, forall_const, implies_true, if_true, if_false, reduceCtorEq, reduceIte, Nat.reduceAdd, Nat.reduceMul, Nat.reduceSub, Nat.reduceDiv, Nat.reduceMod, Nat.reduceEqDiff, Nat.reduceLeDiff, Nat.reduceLT, Nat.zero_le, Nat.lt_add_one, Nat.le_refl, Nat.sub_zero, Nat.zero_lt_succ, ge_iff_le, ji_m2, ji_m1, ji_0, ji_1, ji_2, ji_3, ji_4, ji_5, ji_6, ji_7, ji_8, ji_10, ji_12, ji_29, ji_30, ji_31, ji_40, ji_60, ji_70, ji_80, ji_81, ji_360, ji_512, ji_972, ji_1000000, ji_2147483639, jl_m1, jl_0, jl_1]
  refine l_cd1 (c := c) (W := W) kb kt lb lt hN bb bt nbt hW (fun h1 hT h10 h1o => ?_) N 0 h (by omega) DT_r (fun i hi => by omega) (fun _ _ => rfl)
  by_cases hA0 : sm W N = 0
  · have fin : Q none h1 := hQ h1 hT (fun i hi => by rw [h10 i hi, dv_none hA0]; rfl) h1o
    have z0 : ¬ (0 : Int64) < lN (sm W N) := by rw [hA0]; decide
    simp only [e7_34, e7_36, e7_37, e7_38, e7_41, o_iload, o_lload, o_aload, o_istore, o_lstore, o_astore, o_iinc, o_ipush, o_lpush, o_null, o_ibin, o_ineg, o_lbin, o_ldv, o_lneg, o_lcmp, o_i2l, o_l2i, o_dup, o_pop, o_dupx, o_dup2, o_ic, o_iz, o_nul, o_acmp, o_tsw, o_gI, o_gR, o_pI, o_pZ, o_pR, o_iald, o_bald, o_lald, o_aald, o_iast, o_bast, o_last, o_aast, o_alen, o_newa, o_new, o_mna, o_cast, o_calls, o_callv, o_calli, o_oinit, o_getC, o_refp, o_cpi, o_cpo, o_mmax, o_mmin, o_lmin, o_iret, o_zret, o_lret, o_aret, o_vret, jd_lo, jd_la, jd_nl, jd_pop, List.length_cons, List.length_nil, List.set_cons_zero, List.set_cons_succ, List.getElem?_cons_zero, List.getElem?_cons_succ, List.replicate_succ, List.replicate_zero, List.cons_append, List.nil_append, List.append_nil, Value.category, Option.toList, va_rf, true_implies, false_implies, false_and, and_false, and_true, true_and, and_self, true_or, or_true, false_or, or_false, not_true_eq_false, not_false_eq_true, forall_const, implies_true, if_true, if_false, reduceCtorEq, reduceIte, Nat.reduceAdd, Nat.reduceMul, Nat.reduceSub, Nat.reduceDiv, Nat.reduceMod, Nat.reduceEqDiff, Nat.reduceLeDiff, Nat.reduceLT, Nat.zero_le, Nat.lt_add_one, Nat.le_refl, Nat.sub_zero, Nat.zero_lt_succ, ge_iff_le, ji_m2, ji_m1, ji_0, ji_1, ji_2, ji_3, ji_4, ji_5, ji_6, ji_7, ji_8, ji_10, ji_12, ji_29, ji_30, ji_31, ji_40, ji_60, ji_70, ji_80, ji_81, ji_360, ji_512, ji_972, ji_1000000, ji_2147483639, jl_m1, jl_0, jl_1, lg_cmp_gt, z0]
    exact fin
  · have z0 : (0 : Int64) < lN (sm W N) := (pk_lLT (a := 0) (by decide) (by omega)).mpr (by omega)
    have hs : ∀ i, i ≤ N → sm (fun i => S * W i / sm W N) i ≤ S := fun i hi => by
      have h1 := (dv_rest (S := S) (W := W) (N := N) hA0).2
      have h2 : ∀ m, sm (fun i => S * W i / sm W N) i ≤ sm (fun i => S * W i / sm W N) (i + m) := fun m => by
        induction m with
        | zero => exact Nat.le_refl _
        | succ m ih => exact Nat.le_trans ih (Nat.le_add_right _ _)
      have h3 := h2 (N - i)
      rw [show i + (N - i) = N by omega] at h3
      omega
    simp only [e7_34, e7_36, e7_37, e7_38, e7_41, e7_42, e7_43, e7_45, e7_46, o_iload, o_lload, o_aload, o_istore, o_lstore, o_astore, o_iinc, o_ipush, o_lpush, o_null, o_ibin, o_ineg, o_lbin, o_ldv, o_lneg, o_lcmp, o_i2l, o_l2i, o_dup, o_pop, o_dupx, o_dup2, o_ic, o_iz, o_nul, o_acmp, o_tsw, o_gI, o_gR, o_pI, o_pZ, o_pR, o_iald, o_bald, o_lald, o_aald, o_iast, o_bast, o_last, o_aast, o_alen, o_newa, o_new, o_mna, o_cast, o_calls, o_callv, o_calli, o_oinit, o_getC, o_refp, o_cpi, o_cpo, o_mmax, o_mmin, o_lmin, o_iret, o_zret, o_lret, o_aret, o_vret, jd_lo, jd_la, jd_nl, jd_pop, List.length_cons, List.length_nil, List.set_cons_zero, List.set_cons_succ, List.getElem?_cons_zero, List.getElem?_cons_succ, List.replicate_succ, List.replicate_zero, List.cons_append, List.nil_append, List.append_nil, Value.category, Option.toList, va_rf, true_implies, false_implies, false_and, and_false, and_true, true_and, and_self, true_or, or_true, false_or, or_false, not_true_eq_false, not_false_eq_true, forall_const, implies_true, if_true, if_false, reduceCtorEq, reduceIte, Nat.reduceAdd, Nat.reduceMul, Nat.reduceSub, Nat.reduceDiv, Nat.reduceMod, Nat.reduceEqDiff, Nat.reduceLeDiff, Nat.reduceLT, Nat.zero_le, Nat.lt_add_one, Nat.le_refl, Nat.sub_zero, Nat.zero_lt_succ, ge_iff_le, ji_m2, ji_m1, ji_0, ji_1, ji_2, ji_3, ji_4, ji_5, ji_6, ji_7, ji_8, ji_10, ji_12, ji_29, ji_30, ji_31, ji_40, ji_60, ji_70, ji_80, ji_81, ji_360, ji_512, ji_972, ji_1000000, ji_2147483639, jl_m1, jl_0, jl_1, lg_cmp_gt, z0]
    have hL := hT.2.2.2.1
    refine l_cd2 (c := c) (W := W) (by rw [hT.1]; exact kJ) (by rw [hT.2.2.1]; exact rc) (by rw [hT.1]; exact kb) (by rw [hT.1]; exact kt) (by rw [hT.1]; exact kc) (by rw [hL]; exact lb) (by rw [hL]; exact lt) (by rw [hL]; exact lc) hN (by rw [hL]; exact bb) (by rw [hL]; exact bt) (by rw [hL]; exact bc) nbt (fun i hi => by rw [hT.2.2.2.2.2.1 b nbt]; exact hW i hi) hS ⟨by omega, by omega⟩ hs (fun h2 y z hT2 h2t h2o h2c => ?_) N 0 h1 _ _ (by omega) DT_r (fun i hi => by omega) (fun _ _ => rfl) (fun i hi => by omega)
    have hT' := DT_t hT hT2
    have hL' := hT'.2.2.2.1
    simp only [e7_103, e7_104, o_iload, o_lload, o_aload, o_istore, o_lstore, o_astore, o_iinc, o_ipush, o_lpush, o_null, o_ibin, o_ineg, o_lbin, o_ldv, o_lneg, o_lcmp, o_i2l, o_l2i, o_dup, o_pop, o_dupx, o_dup2, o_ic, o_iz, o_nul, o_acmp, o_tsw, o_gI, o_gR, o_pI, o_pZ, o_pR, o_iald, o_bald, o_lald, o_aald, o_iast, o_bast, o_last, o_aast, o_alen, o_newa, o_new, o_mna, o_cast, o_calls, o_callv, o_calli, o_oinit, o_getC, o_refp, o_cpi, o_cpo, o_mmax, o_mmin, o_lmin, o_iret, o_zret, o_lret, o_aret, o_vret, jd_lo, jd_la, jd_nl, jd_pop, List.length_cons, List.length_nil, List.set_cons_zero, List.set_cons_succ, List.getElem?_cons_zero, List.getElem?_cons_succ, List.replicate_succ, List.replicate_zero, List.cons_append, List.nil_append, List.append_nil, Value.category, Option.toList, va_rf, true_implies, false_implies, false_and, and_false, and_true, true_and, and_self, true_or, or_true, false_or, or_false, not_true_eq_false, not_false_eq_true, forall_const, implies_true, if_true, if_false, reduceCtorEq, reduceIte, Nat.reduceAdd, Nat.reduceMul, Nat.reduceSub, Nat.reduceDiv, Nat.reduceMod, Nat.reduceEqDiff, Nat.reduceLeDiff, Nat.reduceLT, Nat.zero_le, Nat.lt_add_one, Nat.le_refl, Nat.sub_zero, Nat.zero_lt_succ, ge_iff_le, ji_m2, ji_m1, ji_0, ji_1, ji_2, ji_3, ji_4, ji_5, ji_6, ji_7, ji_8, ji_10, ji_12, ji_29, ji_30, ji_31, ji_40, ji_60, ji_70, ji_80, ji_81, ji_360, ji_512, ji_972, ji_1000000, ji_2147483639, jl_m1, jl_0, jl_1]
    refine l_cd3 (q := fun i => S * W i / sm W N) (cc := fun i => ((S * W i % sm W N : Nat) : Int)) (by rw [hT'.1]; exact kJ) (by rw [hT'.2.2.1]; exact rc) (by rw [hT'.1]; exact kt) (by rw [hT'.1]; exact kc) (by rw [hL']; exact lt) (by rw [hL']; exact lc) h1N hN (by rw [hL']; exact bt) (by rw [hL']; exact bc) (dv_few hA0) (fun r hr i hi => ?_) (fun h3 hT3 h3t h3o => ?_) _ 0 h2 _ _ (Nat.zero_add _) DT_r h2t (fun _ _ => rfl) (fun i hi => ?_)
    · obtain ⟨u, hu⟩ := dv_inv (S := S) (W := W) hA0 r hr
      have hlt : S * W i % sm W N < sm W N := Nat.mod_lt _ (by omega)
      rcases hu.2.1 i with ⟨-, z⟩ | ⟨-, z, -⟩
      · rw [z]; omega
      · rw [z]; omega
    · refine hQ h3 (DT_t hT' hT3) (fun i hi => ?_) (fun i hi => (h3o i hi).trans ((h2o i hi).trans (h1o i hi)))
      rw [h3t i hi]
      unfold dv
      rw [if_neg hA0]
    · rw [h2c i hi]
      exact (lN_ofInt _).symm
end
