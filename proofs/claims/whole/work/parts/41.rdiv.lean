/-! divide of the reference -/
def JT (t c : Nat) (h h' : jd_H) : Prop := zK h' = zK h ∧ zI h' = zI h ∧ zR h' = zR h ∧ zL h' = zL h ∧ zA h' = zA h ∧ zO h' = zO h ∧ ∀ a, a ≠ t → a ≠ c → zJ h' a = zJ h a
theorem lN0 : lN 0 = 0 := rfl
theorem lN_le0 {x : Nat} (hx : x < 2 ^ 62) : (lN x ≤ 0) = (x = 0) := by
  rw [← lN0]
  exact propext ((pk_lLE (by omega) (by omega)).trans (by omega))
theorem lN_eq0 {x : Nat} (hx : x < 2 ^ 62) : (lN x = 0) = (x = 0) := by
  rw [← lN0]
  exact propext (pk_lEQ (by omega) (by omega))
theorem jrem (x y : Nat) : lN x - lN (x / y * y) = lN (x % y) := by
  rw [lN_sub (Nat.div_mul_le_self x y)]
  congr 1
  have := Nat.div_add_mod x y
  rw [Nat.mul_comm] at this
  omega
theorem jl_le {x y : Int} (hx : -1 ≤ x ∧ x < 2 ^ 62) (hy : -1 ≤ y ∧ y < 2 ^ 62) : (Int64.ofInt x ≤ Int64.ofInt y) = (x ≤ y) := by
  refine propext ?_
  rw [Int64.le_iff_toInt_le, Int64.toInt_ofInt_of_le (by omega) (by omega), Int64.toInt_ofInt_of_le (by omega) (by omega)]
theorem lN_ofInt (x : Nat) : Int64.ofInt (x : Int) = lN x := Int64.ofInt_eq_ofNat
section
variable {t c : Nat} {h h1 h2 : jd_H}
theorem JT_r : JT t c h h := ⟨rfl, rfl, rfl, rfl, rfl, rfl, fun _ _ _ => rfl⟩
theorem JT_t (a : JT t c h h1) (b : JT t c h1 h2) : JT t c h h2 := ⟨b.1.trans a.1, b.2.1.trans a.2.1, b.2.2.1.trans a.2.2.1, b.2.2.2.1.trans a.2.2.2.1, b.2.2.2.2.1.trans a.2.2.2.2.1, b.2.2.2.2.2.1.trans a.2.2.2.2.2.1, fun x p q => (b.2.2.2.2.2.2 x p q).trans (a.2.2.2.2.2.2 x p q)⟩
theorem JT_wt {i : Nat} {x : Int64} (a : JT t c h h1) : JT t c h (wJ h1 t i x) := JT_t a ⟨rfl, rfl, rfl, rfl, rfl, rfl, fun y p q => by funext j; rw [rw_JJ, if_neg (fun z => p z.1)]⟩
theorem JT_wc {i : Nat} {x : Int64} (a : JT t c h h1) : JT t c h (wJ h1 c i x) := JT_t a ⟨rfl, rfl, rfl, rfl, rfl, rfl, fun y p q => by funext j; rw [rw_JJ, if_neg (fun z => q z.1)]⟩
end
section
variable {g d b t c fr N S A R : Nat} {W q : Nat → Nat} {cc : Nat → Int} {h : jd_H} {Q : jd_Q}
set_option maxRecDepth 100000 in
theorem l_rdiv1 (kb : zK h b = 11) (kt : zK h t = 11) (kc : zK h c = 11) (lb : fr + N ≤ zL h b) (lt : fr + N ≤ zL h t) (lc : N ≤ zL h c) (bb : zL h b < 2147483648) (bt : zL h t < 2147483648) (bc : zL h c < 2147483648) (nbt : ¬ b = t) (nbc : ¬ b = c) (ntc : ¬ t = c)
    (hW : ∀ i, i < N → zJ h b (fr + i) = lN (W i)) (hS : ∀ i, i < N → S * W i < 2 ^ 62) (hA : A < 2 ^ 62) (hs : ∀ i, i ≤ N → sm (fun i => S * W i / A) i ≤ S)
    (hex : ∀ h1, JT t c h h1 → (∀ i, i < N → zJ h1 t (fr + i) = lN (S * W i / A)) → (∀ x, x < fr ∨ fr + N ≤ x → zJ h1 t x = zJ h t x) → (¬ A = 0 → ∀ i, i < N → zJ h1 c i = lN (S * W i % A)) → jd_w g d 102 Q 89 [some (.long (lN S)), none, some (.long (lN A)), none, some (.ref b), some (.int (nI fr)), some (.int (nI N)), some (.ref t), some (.ref c), some (.long (lN (S - sm (fun i => S * W i / A) N))), none, some (.int (nI N)), none] [] h1 0 0) :
    ∀ (r i0 : Nat) (h1 : jd_H), i0 + r = N → JT t c h h1 → (∀ i, i < i0 → zJ h1 t (fr + i) = lN (S * W i / A)) → (∀ x, x < fr ∨ fr + N ≤ x → zJ h1 t x = zJ h t x) → (¬ A = 0 → ∀ i, i < i0 → zJ h1 c i = lN (S * W i % A)) → jd_w g d 102 Q 6 [some (.long (lN S)), none, some (.long (lN A)), none, some (.ref b), some (.int (nI fr)), some (.int (nI N)), some (.ref t), some (.ref c), some (.long (lN (S - sm (fun i => S * W i / A) i0))), none, some (.int (nI i0)), none] [] h1 0 0 := by
  intro r
  induction r with
  | zero =>
    intro i0 h1 hi hT h1t h1o h1c
    have hin : i0 = N := by omega
    subst hin
    simp only [e102_6, e102_8, e102_10, o_iload, o_lload, o_aload, o_istore, o_lstore, o_astore, o_iinc, o_ipush, o_lpush, o_null, o_ibin, o_ineg, o_lbin, o_ldv, o_lneg, o_lcmp, o_i2l, o_l2i, o_dup, o_pop, o_dupx, o_dup2, o_ic, o_iz, o_nul, o_acmp, o_tsw, o_gI, o_gR, o_pI, o_pZ, o_pR, o_iald, o_bald, o_lald, o_aald, o_iast, o_bast, o_last, o_aast, o_alen, o_newa, o_new, o_mna, o_cast, o_calls, o_callv, o_calli, o_oinit, o_getC, o_refp, o_cpi, o_cpo, o_mmax, o_mmin, o_lmin, o_iret, o_zret, o_lret, o_aret, o_vret, jd_lo, jd_la, jd_nl, jd_pop, List.length_cons, List.length_nil, List.set_cons_zero, List.set_cons_succ, List.getElem?_cons_zero, List.getElem?_cons_succ, List.replicate_succ, List.replicate_zero, List.cons_append, List.nil_append, List.append_nil, Value.category, Option.toList, va_rf, true_implies, false_implies, false_and, and_false, and_true, true_and, and_self, true_or, or_true, false_or, or_false, not_true_eq_false, not_false_eq_true, forall_const, implies_true, if_true, if_false, reduceCtorEq, reduceIte, Nat.reduceAdd, Nat.reduceMul, Nat.reduceSub, Nat.reduceDiv, Nat.reduceMod, Nat.reduceEqDiff, Nat.reduceLeDiff, Nat.reduceLT, Nat.zero_le, Nat.lt_add_one, Nat.le_refl, Nat.sub_zero, Nat.zero_lt_succ, ge_iff_le, ji_m2, ji_m1, ji_0, ji_1, ji_2, ji_3, ji_4, ji_5, ji_6, ji_7, ji_8, ji_10, ji_12, ji_29, ji_30, ji_31, ji_40, ji_60, ji_70, ji_80, ji_81, ji_360, ji_512, ji_972, ji_1000000, ji_2147483639, jl_m1, jl_0, jl_1]
    exact ⟨fun _ => hex h1 hT h1t h1o h1c, fun z => absurd (Int32.le_refl _) z⟩
  | succ r ih =>
    intro i0 h1 hi hT h1t h1o h1c
    have hL := hT.2.2.2.1
    have hK := hT.1
    have kb1 : zK h1 b = 11 := by rw [hK]; exact kb
    have kt1 : zK h1 t = 11 := by rw [hK]; exact kt
    have kc1 : zK h1 c = 11 := by rw [hK]; exact kc
    have ib : fr + i0 < zL h1 b := by rw [hL]; omega
    have it : fr + i0 < zL h1 t := by rw [hL]; omega
    have ic : i0 < zL h1 c := by rw [hL]; omega
    have bb1 : zL h1 b < 2147483648 := by rw [hL]; exact bb
    have bt1 : zL h1 t < 2147483648 := by rw [hL]; exact bt
    have bc1 : zL h1 c < 2147483648 := by rw [hL]; exact bc
    have hw : zJ h1 b (fr + i0) = lN (W i0) := by rw [hT.2.2.2.2.2.2 b nbt nbc]; exact hW i0 (by omega)
    have hnle : ¬ nI N ≤ nI i0 := nI_ge (by omega) (by omega)
    have hsw := hS i0 (by omega)
    have hs1 : sm (fun i => S * W i / A) i0 + S * W i0 / A ≤ S := hs (i0 + 1) (by omega)
    have esub : lN (S - sm (fun i => S * W i / A) i0) - lN (S * W i0 / A) = lN (S - sm (fun i => S * W i / A) (i0 + 1)) := by
      rw [lN_sub (by omega)]
      congr 1
      show _ = S - (sm (fun i => S * W i / A) i0 + S * W i0 / A)
      omega
    rw [e102_6]
    by_cases hA0 : A = 0
    · have q0 : S * W i0 / A = 0 := by rw [hA0, Nat.div_zero]
      have eA : lN A = 0 := by rw [hA0]; rfl
      rw [q0, lN0] at esub
      simp only [e102_8, e102_10, e102_13, e102_15, e102_17, e102_19, e102_20, e102_21, e102_22, e102_23, e102_26, e102_27, e102_30, e102_31, e102_33, e102_35, e102_37, e102_38, e102_39, e102_40, e102_41, e102_42, e102_43, e102_45, e102_47, e102_48, e102_49, e102_50, e102_53, e102_54, e102_57, e102_58, e102_60, e102_62, e102_64, e102_65, e102_66, e102_67, e102_68, e102_69, e102_70, e102_72, e102_74, e102_76, e102_78, e102_79, e102_80, e102_81, e102_83, e102_86, o_iload, o_lload, o_aload, o_istore, o_lstore, o_astore, o_iinc, o_ipush, o_lpush, o_null, o_ibin, o_ineg, o_lbin, o_ldv, o_lneg, o_lcmp, o_i2l, o_l2i, o_dup, o_pop, o_dupx, o_dup2, o_ic, o_iz, o_nul, o_acmp, o_tsw, o_gI, o_gR, o_pI, o_pZ, o_pR, o_iald, o_bald, o_lald, o_aald, o_iast, o_bast, o_last, o_aast, o_alen, o_newa, o_new, o_mna, o_cast, o_calls, o_callv, o_calli, o_oinit, o_getC, o_refp, o_cpi, o_cpo, o_mmax, o_mmin, o_lmin, o_iret, o_zret, o_lret, o_aret, o_vret, jd_lo, jd_la, jd_nl, jd_pop, List.length_cons, List.length_nil, List.set_cons_zero, List.set_cons_succ, List.getElem?_cons_zero, List.getElem?_cons_succ, List.replicate_succ, List.replicate_zero, List.cons_append, List.nil_append, List.append_nil, Value.category, Option.toList, va_rf, true_implies, false_implies, false_and, and_false, and_true, true_and, and_self, true_or, or_true, false_or, or_false, not_true_eq_false, not_false_eq_true, forall_const, implies_true, if_true, if_false, reduceCtorEq, reduceIte, Nat.reduceAdd, Nat.reduceMul, Nat.reduceSub, Nat.reduceDiv, Nat.reduceMod, Nat.reduceEqDiff, Nat.reduceLeDiff, Nat.reduceLT, Nat.zero_le, Nat.lt_add_one, Nat.le_refl, Nat.sub_zero, Nat.zero_lt_succ, ge_iff_le, ji_m2, ji_m1, ji_0, ji_1, ji_2, ji_3, ji_4, ji_5, ji_6, ji_7, ji_8, ji_10, ji_12, ji_29, ji_30, ji_31, ji_40, ji_60, ji_70, ji_80, ji_81, ji_360, ji_512, ji_972, ji_1000000, ji_2147483639, jl_m1, jl_0, jl_1, rw_KI, rw_II, rw_RI, rw_LI, rw_AI, rw_JI, rw_OI, rw_KR, rw_IR, rw_RR, rw_LR, rw_AR, rw_JR, rw_OR, rw_KA, rw_IA, rw_RA, rw_LA, rw_AA, rw_JA, rw_OA, rw_KJ, rw_IJ, rw_RJ, rw_LJ, rw_AJ, rw_JJ, rw_OJ, rw_KO, rw_IO, rw_RO, rw_LO, rw_AO, rw_JO, rw_OO, rw_KAr, rw_IAr, rw_RAr, rw_LAr, rw_AAr, rw_JAr, rw_OAr, rw_KOr, rw_IOr, rw_ROr, rw_LOr, rw_AOr, rw_JOr, rw_OOr, rw_KN, rw_IN, rw_RN, rw_LN, rw_AN, rw_JN, rw_ON, rw_KY, rw_IY, rw_RY, rw_LY, rw_AY, rw_JY, rw_OY, hnle, nI_add, lg_cmp_eq, eA, kb1, kt1, kc1, jn_in ib bb1, jn_in it bt1, jn_in ic bc1, jn_cl ib bb1, jn_cl it bt1, jn_cl ic bc1, hw, ntc, esub, jn_sc]
      rw [← eA]
      refine ih (i0 + 1) _ (by omega) (JT_wc (JT_wt hT)) (fun i hi => ?_) (fun x hx => ?_) (fun z => absurd hA0 z)
      · simp only [rw_KI, rw_II, rw_RI, rw_LI, rw_AI, rw_JI, rw_OI, rw_KR, rw_IR, rw_RR, rw_LR, rw_AR, rw_JR, rw_OR, rw_KA, rw_IA, rw_RA, rw_LA, rw_AA, rw_JA, rw_OA, rw_KJ, rw_IJ, rw_RJ, rw_LJ, rw_AJ, rw_JJ, rw_OJ, rw_KO, rw_IO, rw_RO, rw_LO, rw_AO, rw_JO, rw_OO, rw_KAr, rw_IAr, rw_RAr, rw_LAr, rw_AAr, rw_JAr, rw_OAr, rw_KOr, rw_IOr, rw_ROr, rw_LOr, rw_AOr, rw_JOr, rw_OOr, rw_KN, rw_IN, rw_RN, rw_LN, rw_AN, rw_JN, rw_ON, rw_KY, rw_IY, rw_RY, rw_LY, rw_AY, rw_JY, rw_OY, ntc, false_and, if_false]
        by_cases e : i = i0
        · subst e; rw [if_pos ⟨trivial, rfl⟩, q0, hA0]
        · rw [if_neg (fun z => by omega)]; exact h1t i (by omega)
      · simp only [rw_KI, rw_II, rw_RI, rw_LI, rw_AI, rw_JI, rw_OI, rw_KR, rw_IR, rw_RR, rw_LR, rw_AR, rw_JR, rw_OR, rw_KA, rw_IA, rw_RA, rw_LA, rw_AA, rw_JA, rw_OA, rw_KJ, rw_IJ, rw_RJ, rw_LJ, rw_AJ, rw_JJ, rw_OJ, rw_KO, rw_IO, rw_RO, rw_LO, rw_AO, rw_JO, rw_OO, rw_KAr, rw_IAr, rw_RAr, rw_LAr, rw_AAr, rw_JAr, rw_OAr, rw_KOr, rw_IOr, rw_ROr, rw_LOr, rw_AOr, rw_JOr, rw_OOr, rw_KN, rw_IN, rw_RN, rw_LN, rw_AN, rw_JN, rw_ON, rw_KY, rw_IY, rw_RY, rw_LY, rw_AY, rw_JY, rw_OY, ntc, false_and, if_false]
        rw [if_neg (fun z => by omega)]; exact h1o x hx
    · have eA : ¬ lN A = 0 := by rw [lN_eq0 hA]; exact hA0
      have ed : lN (S * W i0) / lN A = lN (S * W i0 / A) := pk_lDiv (by omega) (by omega) (by omega)
      simp only [e102_8, e102_10, e102_13, e102_15, e102_17, e102_19, e102_20, e102_21, e102_22, e102_23, e102_26, e102_27, e102_30, e102_31, e102_33, e102_35, e102_37, e102_38, e102_39, e102_40, e102_41, e102_42, e102_43, e102_45, e102_47, e102_48, e102_49, e102_50, e102_53, e102_54, e102_57, e102_58, e102_60, e102_62, e102_64, e102_65, e102_66, e102_67, e102_68, e102_69, e102_70, e102_72, e102_74, e102_76, e102_78, e102_79, e102_80, e102_81, e102_83, e102_86, o_iload, o_lload, o_aload, o_istore, o_lstore, o_astore, o_iinc, o_ipush, o_lpush, o_null, o_ibin, o_ineg, o_lbin, o_ldv, o_lneg, o_lcmp, o_i2l, o_l2i, o_dup, o_pop, o_dupx, o_dup2, o_ic, o_iz, o_nul, o_acmp, o_tsw, o_gI, o_gR, o_pI, o_pZ, o_pR, o_iald, o_bald, o_lald, o_aald, o_iast, o_bast, o_last, o_aast, o_alen, o_newa, o_new, o_mna, o_cast, o_calls, o_callv, o_calli, o_oinit, o_getC, o_refp, o_cpi, o_cpo, o_mmax, o_mmin, o_lmin, o_iret, o_zret, o_lret, o_aret, o_vret, jd_lo, jd_la, jd_nl, jd_pop, List.length_cons, List.length_nil, List.set_cons_zero, List.set_cons_succ, List.getElem?_cons_zero, List.getElem?_cons_succ, List.replicate_succ, List.replicate_zero, List.cons_append, List.nil_append, List.append_nil, Value.category, Option.toList, va_rf, true_implies, false_implies, false_and, and_false, and_true, true_and, and_self, true_or, or_true, false_or, or_false, not_true_eq_false, not_false_eq_true, forall_const, implies_true, if_true, if_false, reduceCtorEq, reduceIte, Nat.reduceAdd, Nat.reduceMul, Nat.reduceSub, Nat.reduceDiv, Nat.reduceMod, Nat.reduceEqDiff, Nat.reduceLeDiff, Nat.reduceLT, Nat.zero_le, Nat.lt_add_one, Nat.le_refl, Nat.sub_zero, Nat.zero_lt_succ, ge_iff_le, ji_m2, ji_m1, ji_0, ji_1, ji_2, ji_3, ji_4, ji_5, ji_6, ji_7, ji_8, ji_10, ji_12, ji_29, ji_30, ji_31, ji_40, ji_60, ji_70, ji_80, ji_81, ji_360, ji_512, ji_972, ji_1000000, ji_2147483639, jl_m1, jl_0, jl_1, rw_KI, rw_II, rw_RI, rw_LI, rw_AI, rw_JI, rw_OI, rw_KR, rw_IR, rw_RR, rw_LR, rw_AR, rw_JR, rw_OR, rw_KA, rw_IA, rw_RA, rw_LA, rw_AA, rw_JA, rw_OA, rw_KJ, rw_IJ, rw_RJ, rw_LJ, rw_AJ, rw_JJ, rw_OJ, rw_KO, rw_IO, rw_RO, rw_LO, rw_AO, rw_JO, rw_OO, rw_KAr, rw_IAr, rw_RAr, rw_LAr, rw_AAr, rw_JAr, rw_OAr, rw_KOr, rw_IOr, rw_ROr, rw_LOr, rw_AOr, rw_JOr, rw_OOr, rw_KN, rw_IN, rw_RN, rw_LN, rw_AN, rw_JN, rw_ON, rw_KY, rw_IY, rw_RY, rw_LY, rw_AY, rw_JY, rw_OY, hnle, nI_add, lg_cmp_eq, eA, kb1, kt1, kc1, jn_in ib bb1, jn_in it bt1, jn_in ic bc1, jn_cl ib bb1, jn_cl it bt1, jn_cl ic bc1, hw, nbt, ntc, lN_mul, ed, jrem, esub, jn_sc]
      refine ih (i0 + 1) _ (by omega) (JT_wc (JT_wt hT)) (fun i hi => ?_) (fun x hx => ?_) (fun z i hi => ?_)
      · simp only [rw_KI, rw_II, rw_RI, rw_LI, rw_AI, rw_JI, rw_OI, rw_KR, rw_IR, rw_RR, rw_LR, rw_AR, rw_JR, rw_OR, rw_KA, rw_IA, rw_RA, rw_LA, rw_AA, rw_JA, rw_OA, rw_KJ, rw_IJ, rw_RJ, rw_LJ, rw_AJ, rw_JJ, rw_OJ, rw_KO, rw_IO, rw_RO, rw_LO, rw_AO, rw_JO, rw_OO, rw_KAr, rw_IAr, rw_RAr, rw_LAr, rw_AAr, rw_JAr, rw_OAr, rw_KOr, rw_IOr, rw_ROr, rw_LOr, rw_AOr, rw_JOr, rw_OOr, rw_KN, rw_IN, rw_RN, rw_LN, rw_AN, rw_JN, rw_ON, rw_KY, rw_IY, rw_RY, rw_LY, rw_AY, rw_JY, rw_OY, ntc, false_and, if_false]
        by_cases e : i = i0
        · subst e; rw [if_pos ⟨trivial, rfl⟩]
        · rw [if_neg (fun z => by omega)]; exact h1t i (by omega)
      · simp only [rw_KI, rw_II, rw_RI, rw_LI, rw_AI, rw_JI, rw_OI, rw_KR, rw_IR, rw_RR, rw_LR, rw_AR, rw_JR, rw_OR, rw_KA, rw_IA, rw_RA, rw_LA, rw_AA, rw_JA, rw_OA, rw_KJ, rw_IJ, rw_RJ, rw_LJ, rw_AJ, rw_JJ, rw_OJ, rw_KO, rw_IO, rw_RO, rw_LO, rw_AO, rw_JO, rw_OO, rw_KAr, rw_IAr, rw_RAr, rw_LAr, rw_AAr, rw_JAr, rw_OAr, rw_KOr, rw_IOr, rw_ROr, rw_LOr, rw_AOr, rw_JOr, rw_OOr, rw_KN, rw_IN, rw_RN, rw_LN, rw_AN, rw_JN, rw_ON, rw_KY, rw_IY, rw_RY, rw_LY, rw_AY, rw_JY, rw_OY, ntc, false_and, if_false]
        rw [if_neg (fun z => by omega)]; exact h1o x hx
      · have nct : ¬ c = t := fun z => ntc z.symm
        simp only [rw_KI, rw_II, rw_RI, rw_LI, rw_AI, rw_JI, rw_OI, rw_KR, rw_IR, rw_RR, rw_LR, rw_AR, rw_JR, rw_OR, rw_KA, rw_IA, rw_RA, rw_LA, rw_AA, rw_JA, rw_OA, rw_KJ, rw_IJ, rw_RJ, rw_LJ, rw_AJ, rw_JJ, rw_OJ, rw_KO, rw_IO, rw_RO, rw_LO, rw_AO, rw_JO, rw_OO, rw_KAr, rw_IAr, rw_RAr, rw_LAr, rw_AAr, rw_JAr, rw_OAr, rw_KOr, rw_IOr, rw_ROr, rw_LOr, rw_AOr, rw_JOr, rw_OOr, rw_KN, rw_IN, rw_RN, rw_LN, rw_AN, rw_JN, rw_ON, rw_KY, rw_IY, rw_RY, rw_LY, rw_AY, rw_JY, rw_OY, nct, false_and, if_false]
        by_cases e : i = i0
        · subst e; rw [if_pos ⟨trivial, rfl⟩]
        · rw [if_neg (fun z => e z.2)]; exact h1c z i (by omega)
set_option maxRecDepth 100000 in
/-- where most was cut off -/
theorem l_rdiv3 {lf : Int64} {C : Nat → Int} (kc : zK h c = 11) (lc : N ≤ zL h c) (bc : zL h c < 2147483648) (hC : ∀ i, i < N → zJ h c i = Int64.ofInt (C i) ∧ -1 ≤ C i ∧ C i < 2 ^ 62)
    (hex : jd_w g d 102 Q 139 [some (.long (lN S)), none, some (.long (lN A)), none, some (.ref b), some (.int (nI fr)), some (.int (nI N)), some (.ref t), some (.ref c), some (.long lf), none, some (.int (nI (pm C (N - 1)))), some (.int (nI N))] [] h 0 0) :
    ∀ (k j : Nat), j + k + 1 = N → jd_w g d 102 Q 108 [some (.long (lN S)), none, some (.long (lN A)), none, some (.ref b), some (.int (nI fr)), some (.int (nI N)), some (.ref t), some (.ref c), some (.long lf), none, some (.int (nI (pm C j))), some (.int (nI (j + 1)))] [] h 0 0 := by
  intro k
  induction k with
  | zero =>
    intro j hj
    have e1 : j + 1 = N := by omega
    have e2 : N - 1 = j := by omega
    rw [e2] at hex
    rw [e102_108]
    simp only [e102_110, e102_112, o_iload, o_lload, o_aload, o_istore, o_lstore, o_astore, o_iinc, o_ipush, o_lpush, o_null, o_ibin, o_ineg, o_lbin, o_ldv, o_lneg, o_lcmp, o_i2l, o_l2i, o_dup, o_pop, o_dupx, o_dup2, o_ic, o_iz, o_nul, o_acmp, o_tsw, o_gI, o_gR, o_pI, o_pZ, o_pR, o_iald, o_bald, o_lald, o_aald, o_iast, o_bast, o_last, o_aast, o_alen, o_newa, o_new, o_mna, o_cast, o_calls, o_callv, o_calli, o_oinit, o_getC, o_refp, o_cpi, o_cpo, o_mmax, o_mmin, o_lmin, o_iret, o_zret, o_lret, o_aret, o_vret, jd_lo, jd_la, jd_nl, jd_pop, List.length_cons, List.length_nil, List.set_cons_zero, List.set_cons_succ, List.getElem?_cons_zero, List.getElem?_cons_succ, List.replicate_succ, List.replicate_zero, List.cons_append, List.nil_append, List.append_nil, Value.category, Option.toList, va_rf, true_implies, false_implies, false_and, and_false, and_true, true_and, and_self, true_or, or_true, false_or, or_false, not_true_eq_false, not_false_eq_true, forall_const, implies_true, if_true, if_false, reduceCtorEq, reduceIte, Nat.reduceAdd, Nat.reduceMul, Nat.reduceSub, Nat.reduceDiv, Nat.reduceMod, Nat.reduceEqDiff, Nat.reduceLeDiff, Nat.reduceLT, Nat.zero_le, Nat.lt_add_one, Nat.le_refl, Nat.sub_zero, Nat.zero_lt_succ, ge_iff_le, ji_m2, ji_m1, ji_0, ji_1, ji_2, ji_3, ji_4, ji_5, ji_6, ji_7, ji_8, ji_10, ji_12, ji_29, ji_30, ji_31, ji_40, ji_60, ji_70, ji_80, ji_81, ji_360, ji_512, ji_972, ji_1000000, ji_2147483639, jl_m1, jl_0, jl_1, e1]
    exact ⟨fun _ => hex, fun z => absurd (Int32.le_refl _) z⟩
  | succ k ih =>
    intro j hj
    have hp := pm_le C j
    have ij : j + 1 < zL h c := by omega
    have ip : pm C j < zL h c := by omega
    have hnle : ¬ nI N ≤ nI (j + 1) := nI_ge (by omega) (by omega)
    have c1 := hC (j + 1) (by omega)
    have c2 := hC (pm C j) (by omega)
    rw [e102_108]
    simp only [e102_110, e102_112, e102_115, e102_117, e102_119, e102_120, e102_122, e102_124, e102_125, e102_126, e102_129, e102_131, e102_133, e102_136, o_iload, o_lload, o_aload, o_istore, o_lstore, o_astore, o_iinc, o_ipush, o_lpush, o_null, o_ibin, o_ineg, o_lbin, o_ldv, o_lneg, o_lcmp, o_i2l, o_l2i, o_dup, o_pop, o_dupx, o_dup2, o_ic, o_iz, o_nul, o_acmp, o_tsw, o_gI, o_gR, o_pI, o_pZ, o_pR, o_iald, o_bald, o_lald, o_aald, o_iast, o_bast, o_last, o_aast, o_alen, o_newa, o_new, o_mna, o_cast, o_calls, o_callv, o_calli, o_oinit, o_getC, o_refp, o_cpi, o_cpo, o_mmax, o_mmin, o_lmin, o_iret, o_zret, o_lret, o_aret, o_vret, jd_lo, jd_la, jd_nl, jd_pop, List.length_cons, List.length_nil, List.set_cons_zero, List.set_cons_succ, List.getElem?_cons_zero, List.getElem?_cons_succ, List.replicate_succ, List.replicate_zero, List.cons_append, List.nil_append, List.append_nil, Value.category, Option.toList, va_rf, true_implies, false_implies, false_and, and_false, and_true, true_and, and_self, true_or, or_true, false_or, or_false, not_true_eq_false, not_false_eq_true, forall_const, implies_true, if_true, if_false, reduceCtorEq, reduceIte, Nat.reduceAdd, Nat.reduceMul, Nat.reduceSub, Nat.reduceDiv, Nat.reduceMod, Nat.reduceEqDiff, Nat.reduceLeDiff, Nat.reduceLT, Nat.zero_le, Nat.lt_add_one, Nat.le_refl, Nat.sub_zero, Nat.zero_lt_succ, ge_iff_le, ji_m2, ji_m1, ji_0, ji_1, ji_2, ji_3, ji_4, ji_5, ji_6, ji_7, ji_8, ji_10, ji_12, ji_29, ji_30, ji_31, ji_40, ji_60, ji_70, ji_80, ji_81, ji_360, ji_512, ji_972, ji_1000000, ji_2147483639, jl_m1, jl_0, jl_1, kc, hnle, jn_in ij bc, jn_in ip bc, jn_cl ij bc, jn_cl ip bc, c1.1, c2.1, lg_cmp_le, jl_le c1.2 c2.2, jn_sc]
    have hi := ih (j + 1) (by omega)
    refine ⟨fun z => ?_, fun z => ?_⟩
    · have e : pm C (j + 1) = pm C j := if_neg (by omega)
      rw [e] at hi; exact hi
    · have e : pm C (j + 1) = j + 1 := if_pos (by omega)
      rw [e] at hi; exact hi
set_option maxRecDepth 100000 in
theorem l_rdiv2 (kt : zK h t = 11) (kc : zK h c = 11) (lt : fr + N ≤ zL h t) (lc : N ≤ zL h c) (bt : zL h t < 2147483648) (bc : zL h c < 2147483648) (ntc : ¬ t = c) (hN : 1 ≤ N) (hA : 0 < A ∧ A < 2 ^ 62) (hR : R < 2 ^ 62) (hC : ∀ r, r ≤ R → ∀ i, i < N → -1 ≤ (dvI N q cc r).2 i ∧ (dvI N q cc r).2 i < 2 ^ 62)
    (hQ : ∀ h1, JT t c h h1 → (∀ i, i < N → zJ h1 t (fr + i) = lN ((dvI N q cc R).1 i)) → (∀ x, x < fr ∨ fr + N ≤ x → zJ h1 t x = zJ h t x) → Q none h1) :
    ∀ (k r : Nat) (h1 : jd_H) (y1 y2 : Option Value), r + k = R → JT t c h h1 → (∀ i, i < N → zJ h1 t (fr + i) = lN ((dvI N q cc r).1 i)) → (∀ x, x < fr ∨ fr + N ≤ x → zJ h1 t x = zJ h t x) → (∀ i, i < N → zJ h1 c i = Int64.ofInt ((dvI N q cc r).2 i)) → jd_w g d 102 Q 89 [some (.long (lN S)), none, some (.long (lN A)), none, some (.ref b), some (.int (nI fr)), some (.int (nI N)), some (.ref t), some (.ref c), some (.long (lN (R - r))), none, y1, y2] [] h1 0 0 := by
  intro k
  induction k with
  | zero =>
    intro r h1 y1 y2 hr hT h1t h1o h1c
    have e : R - r = 0 := by omega
    have e2 : r = R := by omega
    subst e2
    simp only [e102_89, e102_91, e102_92, e102_93, e102_168, o_iload, o_lload, o_aload, o_istore, o_lstore, o_astore, o_iinc, o_ipush, o_lpush, o_null, o_ibin, o_ineg, o_lbin, o_ldv, o_lneg, o_lcmp, o_i2l, o_l2i, o_dup, o_pop, o_dupx, o_dup2, o_ic, o_iz, o_nul, o_acmp, o_tsw, o_gI, o_gR, o_pI, o_pZ, o_pR, o_iald, o_bald, o_lald, o_aald, o_iast, o_bast, o_last, o_aast, o_alen, o_newa, o_new, o_mna, o_cast, o_calls, o_callv, o_calli, o_oinit, o_getC, o_refp, o_cpi, o_cpo, o_mmax, o_mmin, o_lmin, o_iret, o_zret, o_lret, o_aret, o_vret, jd_lo, jd_la, jd_nl, jd_pop, List.length_cons, List.length_nil, List.set_cons_zero, List.set_cons_succ, List.getElem?_cons_zero, List.getElem?_cons_succ, List.replicate_succ, List.replicate_zero, List.cons_append, List.nil_append, List.append_nil, Value.category, Option.toList, va_rf, true_implies, false_implies, false_and, and_false, and_true, true_and, and_self, true_or, or_true, false_or, or_false, not_true_eq_false, not_false_eq_true, forall_const, implies_true, if_true, if_false, reduceCtorEq, reduceIte, Nat.reduceAdd, Nat.reduceMul, Nat.reduceSub, Nat.reduceDiv, Nat.reduceMod, Nat.reduceEqDiff, Nat.reduceLeDiff, Nat.reduceLT, Nat.zero_le, Nat.lt_add_one, Nat.le_refl, Nat.sub_zero, Nat.zero_lt_succ, ge_iff_le, ji_m2, ji_m1, ji_0, ji_1, ji_2, ji_3, ji_4, ji_5, ji_6, ji_7, ji_8, ji_10, ji_12, ji_29, ji_30, ji_31, ji_40, ji_60, ji_70, ji_80, ji_81, ji_360, ji_512, ji_972, ji_1000000, ji_2147483639, jl_m1, jl_0, jl_1, lg_cmp_le, e, lN0, Int64.le_refl]
    exact hQ h1 hT h1t h1o
  | succ k ih =>
    intro r h1 y1 y2 hr hT h1t h1o h1c
    have hL := hT.2.2.2.1
    have hK := hT.1
    have kt1 : zK h1 t = 11 := by rw [hK]; exact kt
    have kc1 : zK h1 c = 11 := by rw [hK]; exact kc
    have bt1 : zL h1 t < 2147483648 := by rw [hL]; exact bt
    have bc1 : zL h1 c < 2147483648 := by rw [hL]; exact bc
    have l1 : ¬ lN (R - r) ≤ 0 := by rw [lN_le0 (by omega)]; omega
    have l2 : ¬ lN A ≤ 0 := by rw [lN_le0 hA.2]; omega
    have hp := pm_le (dvI N q cc r).2 (N - 1)
    have it : fr + pm (dvI N q cc r).2 (N - 1) < zL h1 t := by rw [hL]; omega
    have ic : pm (dvI N q cc r).2 (N - 1) < zL h1 c := by rw [hL]; omega
    have nct : ¬ c = t := fun z => ntc z.symm
    rw [e102_89]
    simp only [e102_91, e102_92, e102_93, e102_96, e102_97, e102_98, e102_99, e102_102, e102_103, e102_105, e102_106, o_iload, o_lload, o_aload, o_istore, o_lstore, o_astore, o_iinc, o_ipush, o_lpush, o_null, o_ibin, o_ineg, o_lbin, o_ldv, o_lneg, o_lcmp, o_i2l, o_l2i, o_dup, o_pop, o_dupx, o_dup2, o_ic, o_iz, o_nul, o_acmp, o_tsw, o_gI, o_gR, o_pI, o_pZ, o_pR, o_iald, o_bald, o_lald, o_aald, o_iast, o_bast, o_last, o_aast, o_alen, o_newa, o_new, o_mna, o_cast, o_calls, o_callv, o_calli, o_oinit, o_getC, o_refp, o_cpi, o_cpo, o_mmax, o_mmin, o_lmin, o_iret, o_zret, o_lret, o_aret, o_vret, jd_lo, jd_la, jd_nl, jd_pop, List.length_cons, List.length_nil, List.set_cons_zero, List.set_cons_succ, List.getElem?_cons_zero, List.getElem?_cons_succ, List.replicate_succ, List.replicate_zero, List.cons_append, List.nil_append, List.append_nil, Value.category, Option.toList, va_rf, true_implies, false_implies, false_and, and_false, and_true, true_and, and_self, true_or, or_true, false_or, or_false, not_true_eq_false, not_false_eq_true, forall_const, implies_true, if_true, if_false, reduceCtorEq, reduceIte, Nat.reduceAdd, Nat.reduceMul, Nat.reduceSub, Nat.reduceDiv, Nat.reduceMod, Nat.reduceEqDiff, Nat.reduceLeDiff, Nat.reduceLT, Nat.zero_le, Nat.lt_add_one, Nat.le_refl, Nat.sub_zero, Nat.zero_lt_succ, ge_iff_le, ji_m2, ji_m1, ji_0, ji_1, ji_2, ji_3, ji_4, ji_5, ji_6, ji_7, ji_8, ji_10, ji_12, ji_29, ji_30, ji_31, ji_40, ji_60, ji_70, ji_80, ji_81, ji_360, ji_512, ji_972, ji_1000000, ji_2147483639, jl_m1, jl_0, jl_1, lg_cmp_le, l1, l2]
    refine l_rdiv3 (C := (dvI N q cc r).2) kc1 (by rw [hL]; exact lc) bc1 (fun i hi => ⟨h1c i hi, hC r (by omega) i hi⟩) ?_ (N - 1) 0 (by omega)
    have e1 := h1t (pm (dvI N q cc r).2 (N - 1)) (by omega)
    have esub : lN (R - r) - 1 = lN (R - (r + 1)) := by
      rw [show (1 : Int64) = lN 1 from rfl, lN_sub (by omega)]
      congr 1
    simp only [e102_139, e102_141, e102_143, e102_145, e102_146, e102_147, e102_148, e102_149, e102_150, e102_151, e102_153, e102_155, e102_158, e102_159, e102_161, e102_162, e102_163, e102_165, o_iload, o_lload, o_aload, o_istore, o_lstore, o_astore, o_iinc, o_ipush, o_lpush, o_null, o_ibin, o_ineg, o_lbin, o_ldv, o_lneg, o_lcmp, o_i2l, o_l2i, o_dup, o_pop, o_dupx, o_dup2, o_ic, o_iz, o_nul, o_acmp, o_tsw, o_gI, o_gR, o_pI, o_pZ, o_pR, o_iald, o_bald, o_lald, o_aald, o_iast, o_bast, o_last, o_aast, o_alen, o_newa, o_new, o_mna, o_cast, o_calls, o_callv, o_calli, o_oinit, o_getC, o_refp, o_cpi, o_cpo, o_mmax, o_mmin, o_lmin, o_iret, o_zret, o_lret, o_aret, o_vret, jd_lo, jd_la, jd_nl, jd_pop, List.length_cons, List.length_nil, List.set_cons_zero, List.set_cons_succ, List.getElem?_cons_zero, List.getElem?_cons_succ, List.replicate_succ, List.replicate_zero, List.cons_append, List.nil_append, List.append_nil, Value.category, Option.toList, va_rf, true_implies, false_implies, false_and, and_false, and_true, true_and, and_self, true_or, or_true, false_or, or_false, not_true_eq_false, not_false_eq_true, forall_const, implies_true, if_true, if_false, reduceCtorEq, reduceIte, Nat.reduceAdd, Nat.reduceMul, Nat.reduceSub, Nat.reduceDiv, Nat.reduceMod, Nat.reduceEqDiff, Nat.reduceLeDiff, Nat.reduceLT, Nat.zero_le, Nat.lt_add_one, Nat.le_refl, Nat.sub_zero, Nat.zero_lt_succ, ge_iff_le, ji_m2, ji_m1, ji_0, ji_1, ji_2, ji_3, ji_4, ji_5, ji_6, ji_7, ji_8, ji_10, ji_12, ji_29, ji_30, ji_31, ji_40, ji_60, ji_70, ji_80, ji_81, ji_360, ji_512, ji_972, ji_1000000, ji_2147483639, jl_m1, jl_0, jl_1, rw_KI, rw_II, rw_RI, rw_LI, rw_AI, rw_JI, rw_OI, rw_KR, rw_IR, rw_RR, rw_LR, rw_AR, rw_JR, rw_OR, rw_KA, rw_IA, rw_RA, rw_LA, rw_AA, rw_JA, rw_OA, rw_KJ, rw_IJ, rw_RJ, rw_LJ, rw_AJ, rw_JJ, rw_OJ, rw_KO, rw_IO, rw_RO, rw_LO, rw_AO, rw_JO, rw_OO, rw_KAr, rw_IAr, rw_RAr, rw_LAr, rw_AAr, rw_JAr, rw_OAr, rw_KOr, rw_IOr, rw_ROr, rw_LOr, rw_AOr, rw_JOr, rw_OOr, rw_KN, rw_IN, rw_RN, rw_LN, rw_AN, rw_JN, rw_ON, rw_KY, rw_IY, rw_RY, rw_LY, rw_AY, rw_JY, rw_OY, kt1, kc1, nI_add, jn_in it bt1, jn_in ic bc1, jn_cl it bt1, jn_cl ic bc1, e1, lN_1, esub]
    refine ih (r + 1) _ _ _ (by omega) (JT_wc (JT_wt hT)) (fun i hi => ?_) (fun x hx => ?_) (fun i hi => ?_)
    · simp only [rw_KI, rw_II, rw_RI, rw_LI, rw_AI, rw_JI, rw_OI, rw_KR, rw_IR, rw_RR, rw_LR, rw_AR, rw_JR, rw_OR, rw_KA, rw_IA, rw_RA, rw_LA, rw_AA, rw_JA, rw_OA, rw_KJ, rw_IJ, rw_RJ, rw_LJ, rw_AJ, rw_JJ, rw_OJ, rw_KO, rw_IO, rw_RO, rw_LO, rw_AO, rw_JO, rw_OO, rw_KAr, rw_IAr, rw_RAr, rw_LAr, rw_AAr, rw_JAr, rw_OAr, rw_KOr, rw_IOr, rw_ROr, rw_LOr, rw_AOr, rw_JOr, rw_OOr, rw_KN, rw_IN, rw_RN, rw_LN, rw_AN, rw_JN, rw_ON, rw_KY, rw_IY, rw_RY, rw_LY, rw_AY, rw_JY, rw_OY, ntc, false_and, if_false]
      show _ = lN (u1 _ _ _ i)
      unfold u1
      by_cases e : i = pm (dvI N q cc r).2 (N - 1)
      · rw [if_pos e, if_pos ⟨trivial, by omega⟩]
      · rw [if_neg e, if_neg (fun z => by omega)]; exact h1t i hi
    · simp only [rw_KI, rw_II, rw_RI, rw_LI, rw_AI, rw_JI, rw_OI, rw_KR, rw_IR, rw_RR, rw_LR, rw_AR, rw_JR, rw_OR, rw_KA, rw_IA, rw_RA, rw_LA, rw_AA, rw_JA, rw_OA, rw_KJ, rw_IJ, rw_RJ, rw_LJ, rw_AJ, rw_JJ, rw_OJ, rw_KO, rw_IO, rw_RO, rw_LO, rw_AO, rw_JO, rw_OO, rw_KAr, rw_IAr, rw_RAr, rw_LAr, rw_AAr, rw_JAr, rw_OAr, rw_KOr, rw_IOr, rw_ROr, rw_LOr, rw_AOr, rw_JOr, rw_OOr, rw_KN, rw_IN, rw_RN, rw_LN, rw_AN, rw_JN, rw_ON, rw_KY, rw_IY, rw_RY, rw_LY, rw_AY, rw_JY, rw_OY, ntc, false_and, if_false]
      rw [if_neg (fun z => by omega)]; exact h1o x hx
    · simp only [rw_KI, rw_II, rw_RI, rw_LI, rw_AI, rw_JI, rw_OI, rw_KR, rw_IR, rw_RR, rw_LR, rw_AR, rw_JR, rw_OR, rw_KA, rw_IA, rw_RA, rw_LA, rw_AA, rw_JA, rw_OA, rw_KJ, rw_IJ, rw_RJ, rw_LJ, rw_AJ, rw_JJ, rw_OJ, rw_KO, rw_IO, rw_RO, rw_LO, rw_AO, rw_JO, rw_OO, rw_KAr, rw_IAr, rw_RAr, rw_LAr, rw_AAr, rw_JAr, rw_OAr, rw_KOr, rw_IOr, rw_ROr, rw_LOr, rw_AOr, rw_JOr, rw_OOr, rw_KN, rw_IN, rw_RN, rw_LN, rw_AN, rw_JN, rw_ON, rw_KY, rw_IY, rw_RY, rw_LY, rw_AY, rw_JY, rw_OY, nct, false_and, if_false]
      show _ = Int64.ofInt (u1 _ _ _ i)
      unfold u1
      by_cases e : i = pm (dvI N q cc r).2 (N - 1)
      · rw [if_pos e, if_pos ⟨trivial, e⟩]; rfl
      · rw [if_neg e, if_neg (fun z => e z.2)]; exact h1c i hi
set_option maxRecDepth 100000 in
theorem k_rdiv (kb : zK h b = 11) (kt : zK h t = 11) (kc : zK h c = 11) (lb : fr + N ≤ zL h b) (lt : fr + N ≤ zL h t) (lc : N ≤ zL h c) (bb : zL h b < 2147483648) (bt : zL h t < 2147483648) (bc : zL h c < 2147483648) (nbt : ¬ b = t) (nbc : ¬ b = c) (ntc : ¬ t = c) (hN : 1 ≤ N)
    (hW : ∀ i, i < N → zJ h b (fr + i) = lN (W i)) (hS : ∀ i, i < N → S * W i < 2 ^ 62) (hA : sm W N < 2 ^ 62) (hS2 : S < 2 ^ 62)
    (hQ : ∀ h1, JT t c h h1 → (∀ i, i < N → zJ h1 t (fr + i) = lN (dv N S W i)) → (∀ x, x < fr ∨ fr + N ≤ x → zJ h1 t x = zJ h t x) → Q none h1) :
    jd_WM g (d + 1) 102 [.long (lN S), .long (lN (sm W N)), .ref b, .int (nI fr), .int (nI N), .ref t, .ref c] h Q := by
  refine ⟨Nat.le_of_ble_eq_true rfl, ?_⟩
  generalize hAe : sm W N = A at hA
  show jd_w g d 102 Q 0 [some (.long (lN S)), none, some (.long (lN A)), none, some (.ref b), some (.int (nI fr)), some (.int (nI N)), some (.ref t), some (.ref c), none, none, none, none] [] h 0 0
  have hs : ∀ i, i ≤ N → sm (fun i => S * W i / A) i ≤ S := fun i hi => by
    by_cases hA0 : A = 0
    · rw [sm_0 (fun j _ => by show S * W j / A = 0; rw [hA0, Nat.div_zero])]; exact Nat.zero_le _
    · have h1 := (dv_rest (S := S) (W := W) (N := N) (by rw [hAe]; exact hA0)).2
      rw [hAe] at h1
      have h2 : ∀ m, sm (fun i => S * W i / A) i ≤ sm (fun i => S * W i / A) (i + m) := fun m => by
        induction m with
        | zero => exact Nat.le_refl _
        | succ m ih => exact Nat.le_trans ih (Nat.le_add_right _ _)
      have h3 := h2 (N - i)
      rw [show i + (N - i) = N by omega] at h3
      omega
  simp only [e102_0, e102_1, e102_3, e102_4, o_iload, o_lload, o_aload, o_istore, o_lstore, o_astore, o_iinc, o_ipush, o_lpush, o_null, o_ibin, o_ineg, o_lbin, o_ldv, o_lneg, o_lcmp, o_i2l, o_l2i, o_dup, o_pop, o_dupx, o_dup2, o_ic, o_iz, o_nul, o_acmp, o_tsw, o_gI, o_gR, o_pI, o_pZ, o_pR, o_iald, o_bald, o_lald, o_aald, o_iast, o_bast, o_last, o_aast, o_alen, o_newa, o_new, o_mna, o_cast, o_calls, o_callv, o_calli, o_oinit, o_getC, o_refp, o_cpi, o_cpo, o_mmax, o_mmin, o_lmin, o_iret, o_zret, o_lret, o_aret, o_vret, jd_lo, jd_la, jd_nl, jd_pop, List.length_cons, List.length_nil, List.set_cons_zero, List.set_cons_succ, List.getElem?_cons_zero, List.getElem?_cons_succ, List.replicate_succ, List.replicate_zero, List.cons_append, List.nil_append, List.append_nil, Value.category, Option.toList, va_rf, true_implies, false_implies, false_and, and_false, and_true, true_and, and_self, true_or, or_true, false_or, or_false, not_true_eq_false, not_false_eq_true, forall_const, implies_true, if_true, if_false, reduceCtorEq, reduceIte, Nat.reduceAdd, Nat.reduceMul, Nat.reduceSub, Nat.reduceDiv, Nat.reduceMod, Nat.reduceEqDiff, Nat.reduceLeDiff, Nat.reduceLT, Nat.zero_le, Nat.lt_add_one, Nat.le_refl, Nat.sub_zero, Nat.zero_lt_succ, ge_iff_le, ji_m2, ji_m1, ji_0, ji_1, ji_2, ji_3, ji_4, ji_5, ji_6, ji_7, ji_8, ji_10, ji_12, ji_29, ji_30, ji_31, ji_40, ji_60, ji_70, ji_80, ji_81, ji_360, ji_512, ji_972, ji_1000000, ji_2147483639, jl_m1, jl_0, jl_1]
  have := l_rdiv1 (g := g) (d := d) (Q := Q) kb kt kc lb lt lc bb bt bc nbt nbc ntc hW hS hA hs (fun h1 hT h1t h1o h1c => ?_) N 0 h (by omega) JT_r (fun i hi => by omega) (fun _ _ => rfl) (fun _ i hi => by omega)
  · exact this
  · by_cases hA0 : A = 0
    · have eA : lN A = 0 := by rw [hA0]; rfl
      have hdv : dv N S W = fun _ => 0 := dv_none (by rw [hAe]; exact hA0)
      have fin : Q none h1 := hQ h1 hT (fun i hi => by rw [h1t i hi, hdv, hA0, Nat.div_zero]) h1o
      simp only [e102_89, e102_91, e102_92, e102_93, e102_96, e102_97, e102_98, e102_99, e102_168, o_iload, o_lload, o_aload, o_istore, o_lstore, o_astore, o_iinc, o_ipush, o_lpush, o_null, o_ibin, o_ineg, o_lbin, o_ldv, o_lneg, o_lcmp, o_i2l, o_l2i, o_dup, o_pop, o_dupx, o_dup2, o_ic, o_iz, o_nul, o_acmp, o_tsw, o_gI, o_gR, o_pI, o_pZ, o_pR, o_iald, o_bald, o_lald, o_aald, o_iast, o_bast, o_last, o_aast, o_alen, o_newa, o_new, o_mna, o_cast, o_calls, o_callv, o_calli, o_oinit, o_getC, o_refp, o_cpi, o_cpo, o_mmax, o_mmin, o_lmin, o_iret, o_zret, o_lret, o_aret, o_vret, jd_lo, jd_la, jd_nl, jd_pop, List.length_cons, List.length_nil, List.set_cons_zero, List.set_cons_succ, List.getElem?_cons_zero, List.getElem?_cons_succ, List.replicate_succ, List.replicate_zero, List.cons_append, List.nil_append, List.append_nil, Value.category, Option.toList, va_rf, true_implies, false_implies, false_and, and_false, and_true, true_and, and_self, true_or, or_true, false_or, or_false, not_true_eq_false, not_false_eq_true, forall_const, implies_true, if_true, if_false, reduceCtorEq, reduceIte, Nat.reduceAdd, Nat.reduceMul, Nat.reduceSub, Nat.reduceDiv, Nat.reduceMod, Nat.reduceEqDiff, Nat.reduceLeDiff, Nat.reduceLT, Nat.zero_le, Nat.lt_add_one, Nat.le_refl, Nat.sub_zero, Nat.zero_lt_succ, ge_iff_le, ji_m2, ji_m1, ji_0, ji_1, ji_2, ji_3, ji_4, ji_5, ji_6, ji_7, ji_8, ji_10, ji_12, ji_29, ji_30, ji_31, ji_40, ji_60, ji_70, ji_80, ji_81, ji_360, ji_512, ji_972, ji_1000000, ji_2147483639, jl_m1, jl_0, jl_1, lg_cmp_le, eA, Int64.le_refl]
      exact ⟨fun _ => fin, fun _ => fin⟩
    · have hAA : sm W N ≠ 0 := by rw [hAe]; exact hA0
      refine l_rdiv2 (R := S - sm (fun i => S * W i / A) N) (q := fun i => S * W i / A) (cc := fun i => ((S * W i % A : Nat) : Int)) (by rw [hT.1]; exact kt) (by rw [hT.1]; exact kc) (by rw [hT.2.2.2.1]; exact lt) (by rw [hT.2.2.2.1]; exact lc) (by rw [hT.2.2.2.1]; exact bt) (by rw [hT.2.2.2.1]; exact bc) ntc hN ⟨by omega, hA⟩ (by omega) (fun r hr i hi => ?_) (fun h2 hT2 h2t h2o => ?_) _ 0 h1 _ _ (Nat.zero_add _) JT_r h1t (fun _ _ => rfl) (fun i hi => ?_)
      · obtain ⟨u, hu⟩ := dv_inv (S := S) (W := W) hAA r (by rw [hAe]; exact hr)
        have hu2 := hu.2.1 i
        rw [hAe] at hu2
        have hlt : S * W i % A < A := Nat.mod_lt _ (by omega)
        rcases hu2 with ⟨-, z⟩ | ⟨-, z, -⟩
        · rw [z]; omega
        · rw [z]; omega
      · refine hQ h2 (JT_t hT hT2) (fun i hi => ?_) (fun x hx => (h2o x hx).trans (h1o x hx))
        rw [h2t i hi]
        unfold dv
        rw [if_neg hAA, hAe]
      · rw [h1c hA0 i hi]
        exact (lN_ofInt _).symm
end
